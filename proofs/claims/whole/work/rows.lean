section
-- ===== PART A: goes FIRST, ahead of the names: the tables' words, and 'selects' of the private methods out of them =====
/-- a private method of a class that the tables say can be made, by its rows of tables_1 -/
def lw_okq (q : MethodName × Nat) : Prop := (q.1.cls ≠ "java/lang/invoke/MethodHandle" ∧ q.1.cls ≠ "java/lang/invoke/VarHandle") ∧ Cond.instantiable q.1.cls q.2 ∈ tables_1 ∧ Cond.privateMethod q.1 ∈ tables_1 ∧ Cond.instanceMethod q.1 ∈ tables_1
theorem lw_p0 : lw_okq (⟨"AlphaCourt", "found", "(I)I"⟩, 11) := ⟨⟨by decide +kernel, by decide +kernel⟩, List.mem_of_getElem? (i := 13) (by decide +kernel), List.mem_of_getElem? (i := 288) (by decide +kernel), List.mem_of_getElem? (i := 289) (by decide +kernel)⟩
theorem lw_p1 : lw_okq (⟨"AlphaCourt", "unfound", "(I)I"⟩, 11) := ⟨⟨by decide +kernel, by decide +kernel⟩, List.mem_of_getElem? (i := 13) (by decide +kernel), List.mem_of_getElem? (i := 297) (by decide +kernel), List.mem_of_getElem? (i := 298) (by decide +kernel)⟩
theorem lw_p2 : lw_okq (⟨"AlphaCourt$Reader", "step", "()V"⟩, 8) := ⟨⟨by decide +kernel, by decide +kernel⟩, List.mem_of_getElem? (i := 23) (by decide +kernel), List.mem_of_getElem? (i := 350) (by decide +kernel), List.mem_of_getElem? (i := 351) (by decide +kernel)⟩
theorem lw_p3 : lw_okq (⟨"AlphaCourt$Reader", "isFigureAt", "(I)Z"⟩, 8) := ⟨⟨by decide +kernel, by decide +kernel⟩, List.mem_of_getElem? (i := 23) (by decide +kernel), List.mem_of_getElem? (i := 354) (by decide +kernel), List.mem_of_getElem? (i := 355) (by decide +kernel)⟩
theorem lw_p4 : lw_okq (⟨"AlphaCourt$Reader", "readLaw", "(LAlphaCourt$Court;)Z"⟩, 8) := ⟨⟨by decide +kernel, by decide +kernel⟩, List.mem_of_getElem? (i := 23) (by decide +kernel), List.mem_of_getElem? (i := 358) (by decide +kernel), List.mem_of_getElem? (i := 359) (by decide +kernel)⟩
theorem lw_p5 : lw_okq (⟨"AlphaCourt$Reader", "passOver", "(I)Z"⟩, 8) := ⟨⟨by decide +kernel, by decide +kernel⟩, List.mem_of_getElem? (i := 23) (by decide +kernel), List.mem_of_getElem? (i := 362) (by decide +kernel), List.mem_of_getElem? (i := 363) (by decide +kernel)⟩
theorem lw_p6 : lw_okq (⟨"AlphaCourt$Reader", "hasFault", "(I)Z"⟩, 8) := ⟨⟨by decide +kernel, by decide +kernel⟩, List.mem_of_getElem? (i := 23) (by decide +kernel), List.mem_of_getElem? (i := 366) (by decide +kernel), List.mem_of_getElem? (i := 367) (by decide +kernel)⟩
theorem lw_p7 : lw_okq (⟨"AlphaCourt$Reader", "isNumberIn", "(II)Z"⟩, 8) := ⟨⟨by decide +kernel, by decide +kernel⟩, List.mem_of_getElem? (i := 23) (by decide +kernel), List.mem_of_getElem? (i := 370) (by decide +kernel), List.mem_of_getElem? (i := 371) (by decide +kernel)⟩
theorem lw_p8 : lw_okq (⟨"AlphaCourt$Reader", "takeNumber", "()I"⟩, 8) := ⟨⟨by decide +kernel, by decide +kernel⟩, List.mem_of_getElem? (i := 23) (by decide +kernel), List.mem_of_getElem? (i := 374) (by decide +kernel), List.mem_of_getElem? (i := 375) (by decide +kernel)⟩
theorem lw_p9 : lw_okq (⟨"AlphaCourt$Reader", "readOrder", "(LAlphaCourt$Court;)Z"⟩, 8) := ⟨⟨by decide +kernel, by decide +kernel⟩, List.mem_of_getElem? (i := 23) (by decide +kernel), List.mem_of_getElem? (i := 378) (by decide +kernel), List.mem_of_getElem? (i := 379) (by decide +kernel)⟩
theorem lw_p10 : lw_okq (⟨"AlphaCourt$Reader", "isLetter", "()Z"⟩, 8) := ⟨⟨by decide +kernel, by decide +kernel⟩, List.mem_of_getElem? (i := 23) (by decide +kernel), List.mem_of_getElem? (i := 382) (by decide +kernel), List.mem_of_getElem? (i := 383) (by decide +kernel)⟩
theorem lw_p11 : lw_okq (⟨"AlphaCourt$Reader", "letterOfToken", "()I"⟩, 8) := ⟨⟨by decide +kernel, by decide +kernel⟩, List.mem_of_getElem? (i := 23) (by decide +kernel), List.mem_of_getElem? (i := 386) (by decide +kernel), List.mem_of_getElem? (i := 387) (by decide +kernel)⟩
theorem lw_p12 : lw_okq (⟨"AlphaCourt$Reader", "readPeople", "(LAlphaCourt$Court;)Z"⟩, 8) := ⟨⟨by decide +kernel, by decide +kernel⟩, List.mem_of_getElem? (i := 23) (by decide +kernel), List.mem_of_getElem? (i := 394) (by decide +kernel), List.mem_of_getElem? (i := 395) (by decide +kernel)⟩
theorem lw_p13 : lw_okq (⟨"AlphaCourt$Reader", "readPerson", "(LAlphaCourt$Court;I)Z"⟩, 8) := ⟨⟨by decide +kernel, by decide +kernel⟩, List.mem_of_getElem? (i := 23) (by decide +kernel), List.mem_of_getElem? (i := 398) (by decide +kernel), List.mem_of_getElem? (i := 399) (by decide +kernel)⟩
theorem lw_p14 : lw_okq (⟨"AlphaCourt$Court", "openDay", "(I)I"⟩, 16) := ⟨⟨by decide +kernel, by decide +kernel⟩, List.mem_of_getElem? (i := 58) (by decide +kernel), List.mem_of_getElem? (i := 429) (by decide +kernel), List.mem_of_getElem? (i := 430) (by decide +kernel)⟩
theorem lw_p15 : lw_okq (⟨"AlphaCourt$Court", "servesOn", "(II)Z"⟩, 16) := ⟨⟨by decide +kernel, by decide +kernel⟩, List.mem_of_getElem? (i := 58) (by decide +kernel), List.mem_of_getElem? (i := 434) (by decide +kernel), List.mem_of_getElem? (i := 435) (by decide +kernel)⟩
def lw_privs_1 : List (MethodName × Nat) := [(⟨"AlphaCourt", "found", "(I)I"⟩, 11), (⟨"AlphaCourt", "unfound", "(I)I"⟩, 11), (⟨"AlphaCourt$Reader", "step", "()V"⟩, 8), (⟨"AlphaCourt$Reader", "isFigureAt", "(I)Z"⟩, 8), (⟨"AlphaCourt$Reader", "readLaw", "(LAlphaCourt$Court;)Z"⟩, 8), (⟨"AlphaCourt$Reader", "passOver", "(I)Z"⟩, 8), (⟨"AlphaCourt$Reader", "hasFault", "(I)Z"⟩, 8), (⟨"AlphaCourt$Reader", "isNumberIn", "(II)Z"⟩, 8), (⟨"AlphaCourt$Reader", "takeNumber", "()I"⟩, 8), (⟨"AlphaCourt$Reader", "readOrder", "(LAlphaCourt$Court;)Z"⟩, 8), (⟨"AlphaCourt$Reader", "isLetter", "()Z"⟩, 8), (⟨"AlphaCourt$Reader", "letterOfToken", "()I"⟩, 8), (⟨"AlphaCourt$Reader", "readPeople", "(LAlphaCourt$Court;)Z"⟩, 8), (⟨"AlphaCourt$Reader", "readPerson", "(LAlphaCourt$Court;I)Z"⟩, 8), (⟨"AlphaCourt$Court", "openDay", "(I)I"⟩, 16), (⟨"AlphaCourt$Court", "servesOn", "(II)Z"⟩, 16)]
theorem lw_r1 : ∀ q ∈ lw_privs_1, lw_okq q := List.forall_mem_cons.mpr ⟨lw_p0, List.forall_mem_cons.mpr ⟨lw_p1, List.forall_mem_cons.mpr ⟨lw_p2, List.forall_mem_cons.mpr ⟨lw_p3, List.forall_mem_cons.mpr ⟨lw_p4, List.forall_mem_cons.mpr ⟨lw_p5, List.forall_mem_cons.mpr ⟨lw_p6, List.forall_mem_cons.mpr ⟨lw_p7, List.forall_mem_cons.mpr ⟨lw_p8, List.forall_mem_cons.mpr ⟨lw_p9, List.forall_mem_cons.mpr ⟨lw_p10, List.forall_mem_cons.mpr ⟨lw_p11, List.forall_mem_cons.mpr ⟨lw_p12, List.forall_mem_cons.mpr ⟨lw_p13, List.forall_mem_cons.mpr ⟨lw_p14, List.forall_mem_cons.mpr ⟨lw_p15, fun _ h => absurd h List.not_mem_nil⟩⟩⟩⟩⟩⟩⟩⟩⟩⟩⟩⟩⟩⟩⟩⟩
theorem lw_p16 : lw_okq (⟨"AlphaCourt$Court", "firstOn", "(II)I"⟩, 16) := ⟨⟨by decide +kernel, by decide +kernel⟩, List.mem_of_getElem? (i := 58) (by decide +kernel), List.mem_of_getElem? (i := 449) (by decide +kernel), List.mem_of_getElem? (i := 450) (by decide +kernel)⟩
theorem lw_p17 : lw_okq (⟨"AlphaCourt$Court", "compareNames", "(III)I"⟩, 16) := ⟨⟨by decide +kernel, by decide +kernel⟩, List.mem_of_getElem? (i := 58) (by decide +kernel), List.mem_of_getElem? (i := 475) (by decide +kernel), List.mem_of_getElem? (i := 476) (by decide +kernel)⟩
theorem lw_p18 : lw_okq (⟨"AlphaCourt$Court", "letterAsRead", "(II)I"⟩, 16) := ⟨⟨by decide +kernel, by decide +kernel⟩, List.mem_of_getElem? (i := 58) (by decide +kernel), List.mem_of_getElem? (i := 479) (by decide +kernel), List.mem_of_getElem? (i := 480) (by decide +kernel)⟩
theorem lw_p19 : lw_okq (⟨"AlphaCourt$Court", "placeInOrder", "(II)I"⟩, 16) := ⟨⟨by decide +kernel, by decide +kernel⟩, List.mem_of_getElem? (i := 58) (by decide +kernel), List.mem_of_getElem? (i := 483) (by decide +kernel), List.mem_of_getElem? (i := 484) (by decide +kernel)⟩
theorem lw_p20 : lw_okq (⟨"AlphaCourt$Acts", "keep", "(IIII)V"⟩, 6) := ⟨⟨by decide +kernel, by decide +kernel⟩, List.mem_of_getElem? (i := 146) (by decide +kernel), List.mem_of_getElem? (i := 491) (by decide +kernel), List.mem_of_getElem? (i := 492) (by decide +kernel)⟩
theorem lw_p21 : lw_okq (⟨"AlphaCourt$Acts", "latestPlace", "()I"⟩, 6) := ⟨⟨by decide +kernel, by decide +kernel⟩, List.mem_of_getElem? (i := 146) (by decide +kernel), List.mem_of_getElem? (i := 495) (by decide +kernel), List.mem_of_getElem? (i := 496) (by decide +kernel)⟩
theorem lw_p22 : lw_okq (⟨"AlphaCourt", "isPlaceOfName", "(II)Z"⟩, 11) := ⟨⟨by decide +kernel, by decide +kernel⟩, List.mem_of_getElem? (i := 13) (by decide +kernel), List.mem_of_getElem? (i := 511) (by decide +kernel), List.mem_of_getElem? (i := 512) (by decide +kernel)⟩
theorem lw_p23 : lw_okq (⟨"AlphaCourt", "isPerson", "(I)Z"⟩, 11) := ⟨⟨by decide +kernel, by decide +kernel⟩, List.mem_of_getElem? (i := 13) (by decide +kernel), List.mem_of_getElem? (i := 515) (by decide +kernel), List.mem_of_getElem? (i := 516) (by decide +kernel)⟩
theorem lw_p24 : lw_okq (⟨"AlphaCourt", "foretell", "(I)LAlphaCourt$Court;"⟩, 11) := ⟨⟨by decide +kernel, by decide +kernel⟩, List.mem_of_getElem? (i := 13) (by decide +kernel), List.mem_of_getElem? (i := 575) (by decide +kernel), List.mem_of_getElem? (i := 576) (by decide +kernel)⟩
theorem lw_p25 : lw_okq (⟨"AlphaCourt$Renaming", "canBeBehind", "(III)Z"⟩, 1) := ⟨⟨by decide +kernel, by decide +kernel⟩, List.mem_of_getElem? (i := 172) (by decide +kernel), List.mem_of_getElem? (i := 602) (by decide +kernel), List.mem_of_getElem? (i := 603) (by decide +kernel)⟩
theorem lw_p26 : lw_okq (⟨"AlphaCourt$Renaming", "tryNames", "(LAlphaCourt$Court;IIIII)Z"⟩, 1) := ⟨⟨by decide +kernel, by decide +kernel⟩, List.mem_of_getElem? (i := 172) (by decide +kernel), List.mem_of_getElem? (i := 610) (by decide +kernel), List.mem_of_getElem? (i := 611) (by decide +kernel)⟩
theorem lw_p27 : lw_okq (⟨"AlphaCourt$Planner", "openSeats", "(LAlphaCourt$Court;)V"⟩, 6) := ⟨⟨by decide +kernel, by decide +kernel⟩, List.mem_of_getElem? (i := 185) (by decide +kernel), List.mem_of_getElem? (i := 627) (by decide +kernel), List.mem_of_getElem? (i := 628) (by decide +kernel)⟩
theorem lw_p28 : lw_okq (⟨"AlphaCourt$Planner", "seatOneByOne", "(LAlphaCourt$Court;III)V"⟩, 6) := ⟨⟨by decide +kernel, by decide +kernel⟩, List.mem_of_getElem? (i := 185) (by decide +kernel), List.mem_of_getElem? (i := 635) (by decide +kernel), List.mem_of_getElem? (i := 636) (by decide +kernel)⟩
theorem lw_p29 : lw_okq (⟨"AlphaCourt$Planner", "firstOpenSeat", "()I"⟩, 6) := ⟨⟨by decide +kernel, by decide +kernel⟩, List.mem_of_getElem? (i := 185) (by decide +kernel), List.mem_of_getElem? (i := 640) (by decide +kernel), List.mem_of_getElem? (i := 641) (by decide +kernel)⟩
theorem lw_p30 : lw_okq (⟨"AlphaCourt", "areAllPeople", "(LAlphaCourt$Row;II)Z"⟩, 11) := ⟨⟨by decide +kernel, by decide +kernel⟩, List.mem_of_getElem? (i := 13) (by decide +kernel), List.mem_of_getElem? (i := 656) (by decide +kernel), List.mem_of_getElem? (i := 657) (by decide +kernel)⟩
theorem lw_p31 : lw_okq (⟨"AlphaCourt", "areSeatedNext", "(LAlphaCourt$Row;III)Z"⟩, 11) := ⟨⟨by decide +kernel, by decide +kernel⟩, List.mem_of_getElem? (i := 13) (by decide +kernel), List.mem_of_getElem? (i := 660) (by decide +kernel), List.mem_of_getElem? (i := 661) (by decide +kernel)⟩
def lw_privs_2 : List (MethodName × Nat) := [(⟨"AlphaCourt$Court", "firstOn", "(II)I"⟩, 16), (⟨"AlphaCourt$Court", "compareNames", "(III)I"⟩, 16), (⟨"AlphaCourt$Court", "letterAsRead", "(II)I"⟩, 16), (⟨"AlphaCourt$Court", "placeInOrder", "(II)I"⟩, 16), (⟨"AlphaCourt$Acts", "keep", "(IIII)V"⟩, 6), (⟨"AlphaCourt$Acts", "latestPlace", "()I"⟩, 6), (⟨"AlphaCourt", "isPlaceOfName", "(II)Z"⟩, 11), (⟨"AlphaCourt", "isPerson", "(I)Z"⟩, 11), (⟨"AlphaCourt", "foretell", "(I)LAlphaCourt$Court;"⟩, 11), (⟨"AlphaCourt$Renaming", "canBeBehind", "(III)Z"⟩, 1), (⟨"AlphaCourt$Renaming", "tryNames", "(LAlphaCourt$Court;IIIII)Z"⟩, 1), (⟨"AlphaCourt$Planner", "openSeats", "(LAlphaCourt$Court;)V"⟩, 6), (⟨"AlphaCourt$Planner", "seatOneByOne", "(LAlphaCourt$Court;III)V"⟩, 6), (⟨"AlphaCourt$Planner", "firstOpenSeat", "()I"⟩, 6), (⟨"AlphaCourt", "areAllPeople", "(LAlphaCourt$Row;II)Z"⟩, 11), (⟨"AlphaCourt", "areSeatedNext", "(LAlphaCourt$Row;III)Z"⟩, 11)]
theorem lw_r2 : ∀ q ∈ lw_privs_2, lw_okq q := List.forall_mem_cons.mpr ⟨lw_p16, List.forall_mem_cons.mpr ⟨lw_p17, List.forall_mem_cons.mpr ⟨lw_p18, List.forall_mem_cons.mpr ⟨lw_p19, List.forall_mem_cons.mpr ⟨lw_p20, List.forall_mem_cons.mpr ⟨lw_p21, List.forall_mem_cons.mpr ⟨lw_p22, List.forall_mem_cons.mpr ⟨lw_p23, List.forall_mem_cons.mpr ⟨lw_p24, List.forall_mem_cons.mpr ⟨lw_p25, List.forall_mem_cons.mpr ⟨lw_p26, List.forall_mem_cons.mpr ⟨lw_p27, List.forall_mem_cons.mpr ⟨lw_p28, List.forall_mem_cons.mpr ⟨lw_p29, List.forall_mem_cons.mpr ⟨lw_p30, List.forall_mem_cons.mpr ⟨lw_p31, fun _ h => absurd h List.not_mem_nil⟩⟩⟩⟩⟩⟩⟩⟩⟩⟩⟩⟩⟩⟩⟩⟩
theorem lw_p32 : lw_okq (⟨"AlphaCourt$Asks", "give", "(LAlphaCourt$Court;III)I"⟩, 2) := ⟨⟨by decide +kernel, by decide +kernel⟩, List.mem_of_getElem? (i := 213) (by decide +kernel), List.mem_of_getElem? (i := 697) (by decide +kernel), List.mem_of_getElem? (i := 698) (by decide +kernel)⟩
theorem lw_p33 : lw_okq (⟨"AlphaCourt$Asks", "leave", "(I)V"⟩, 2) := ⟨⟨by decide +kernel, by decide +kernel⟩, List.mem_of_getElem? (i := 213) (by decide +kernel), List.mem_of_getElem? (i := 701) (by decide +kernel), List.mem_of_getElem? (i := 702) (by decide +kernel)⟩
theorem lw_p34 : lw_okq (⟨"AlphaCourt", "howManyRows", "()I"⟩, 11) := ⟨⟨by decide +kernel, by decide +kernel⟩, List.mem_of_getElem? (i := 13) (by decide +kernel), List.mem_of_getElem? (i := 713) (by decide +kernel), List.mem_of_getElem? (i := 714) (by decide +kernel)⟩
theorem lw_p35 : lw_okq (⟨"AlphaCourtModel", "found", "(I)I"⟩, 27) := ⟨⟨by decide +kernel, by decide +kernel⟩, List.mem_of_getElem? (i := 721) (by decide +kernel), List.mem_of_getElem? (i := 822) (by decide +kernel), List.mem_of_getElem? (i := 823) (by decide +kernel)⟩
theorem lw_p36 : lw_okq (⟨"AlphaCourtModel", "well", "(I)I"⟩, 27) := ⟨⟨by decide +kernel, by decide +kernel⟩, List.mem_of_getElem? (i := 721) (by decide +kernel), List.mem_of_getElem? (i := 827) (by decide +kernel), List.mem_of_getElem? (i := 828) (by decide +kernel)⟩
theorem lw_p37 : lw_okq (⟨"AlphaCourtModel", "isMissing", "(I)Z"⟩, 27) := ⟨⟨by decide +kernel, by decide +kernel⟩, List.mem_of_getElem? (i := 721) (by decide +kernel), List.mem_of_getElem? (i := 835) (by decide +kernel), List.mem_of_getElem? (i := 836) (by decide +kernel)⟩
theorem lw_p38 : lw_okq (⟨"AlphaCourtModel", "isPart", "(III)Z"⟩, 27) := ⟨⟨by decide +kernel, by decide +kernel⟩, List.mem_of_getElem? (i := 721) (by decide +kernel), List.mem_of_getElem? (i := 846) (by decide +kernel), List.mem_of_getElem? (i := 847) (by decide +kernel)⟩
theorem lw_p39 : lw_okq (⟨"AlphaCourtModel", "advances", "()V"⟩, 27) := ⟨⟨by decide +kernel, by decide +kernel⟩, List.mem_of_getElem? (i := 721) (by decide +kernel), List.mem_of_getElem? (i := 863) (by decide +kernel), List.mem_of_getElem? (i := 864) (by decide +kernel)⟩
theorem lw_p40 : lw_okq (⟨"AlphaCourtModel", "byteAt", "(I)I"⟩, 27) := ⟨⟨by decide +kernel, by decide +kernel⟩, List.mem_of_getElem? (i := 721) (by decide +kernel), List.mem_of_getElem? (i := 867) (by decide +kernel), List.mem_of_getElem? (i := 868) (by decide +kernel)⟩
theorem lw_p41 : lw_okq (⟨"AlphaCourtModel", "takes", "(ZI)I"⟩, 27) := ⟨⟨by decide +kernel, by decide +kernel⟩, List.mem_of_getElem? (i := 721) (by decide +kernel), List.mem_of_getElem? (i := 871) (by decide +kernel), List.mem_of_getElem? (i := 872) (by decide +kernel)⟩
theorem lw_p42 : lw_okq (⟨"AlphaCourtModel", "isWell", "()Z"⟩, 27) := ⟨⟨by decide +kernel, by decide +kernel⟩, List.mem_of_getElem? (i := 721) (by decide +kernel), List.mem_of_getElem? (i := 875) (by decide +kernel), List.mem_of_getElem? (i := 876) (by decide +kernel)⟩
theorem lw_p43 : lw_okq (⟨"AlphaCourtModel", "figure", "(II)I"⟩, 27) := ⟨⟨by decide +kernel, by decide +kernel⟩, List.mem_of_getElem? (i := 721) (by decide +kernel), List.mem_of_getElem? (i := 879) (by decide +kernel), List.mem_of_getElem? (i := 880) (by decide +kernel)⟩
theorem lw_p44 : lw_okq (⟨"AlphaCourtModel", "readsOrder", "()V"⟩, 27) := ⟨⟨by decide +kernel, by decide +kernel⟩, List.mem_of_getElem? (i := 721) (by decide +kernel), List.mem_of_getElem? (i := 883) (by decide +kernel), List.mem_of_getElem? (i := 884) (by decide +kernel)⟩
theorem lw_p45 : lw_okq (⟨"AlphaCourtModel", "isName", "()Z"⟩, 27) := ⟨⟨by decide +kernel, by decide +kernel⟩, List.mem_of_getElem? (i := 721) (by decide +kernel), List.mem_of_getElem? (i := 887) (by decide +kernel), List.mem_of_getElem? (i := 888) (by decide +kernel)⟩
theorem lw_p46 : lw_okq (⟨"AlphaCourtModel", "readsPerson", "()V"⟩, 27) := ⟨⟨by decide +kernel, by decide +kernel⟩, List.mem_of_getElem? (i := 721) (by decide +kernel), List.mem_of_getElem? (i := 897) (by decide +kernel), List.mem_of_getElem? (i := 898) (by decide +kernel)⟩
theorem lw_p47 : lw_okq (⟨"AlphaCourtModel", "takes2", "(Z)V"⟩, 27) := ⟨⟨by decide +kernel, by decide +kernel⟩, List.mem_of_getElem? (i := 721) (by decide +kernel), List.mem_of_getElem? (i := 901) (by decide +kernel), List.mem_of_getElem? (i := 902) (by decide +kernel)⟩
def lw_privs_3 : List (MethodName × Nat) := [(⟨"AlphaCourt$Asks", "give", "(LAlphaCourt$Court;III)I"⟩, 2), (⟨"AlphaCourt$Asks", "leave", "(I)V"⟩, 2), (⟨"AlphaCourt", "howManyRows", "()I"⟩, 11), (⟨"AlphaCourtModel", "found", "(I)I"⟩, 27), (⟨"AlphaCourtModel", "well", "(I)I"⟩, 27), (⟨"AlphaCourtModel", "isMissing", "(I)Z"⟩, 27), (⟨"AlphaCourtModel", "isPart", "(III)Z"⟩, 27), (⟨"AlphaCourtModel", "advances", "()V"⟩, 27), (⟨"AlphaCourtModel", "byteAt", "(I)I"⟩, 27), (⟨"AlphaCourtModel", "takes", "(ZI)I"⟩, 27), (⟨"AlphaCourtModel", "isWell", "()Z"⟩, 27), (⟨"AlphaCourtModel", "figure", "(II)I"⟩, 27), (⟨"AlphaCourtModel", "readsOrder", "()V"⟩, 27), (⟨"AlphaCourtModel", "isName", "()Z"⟩, 27), (⟨"AlphaCourtModel", "readsPerson", "()V"⟩, 27), (⟨"AlphaCourtModel", "takes2", "(Z)V"⟩, 27)]
theorem lw_r3 : ∀ q ∈ lw_privs_3, lw_okq q := List.forall_mem_cons.mpr ⟨lw_p32, List.forall_mem_cons.mpr ⟨lw_p33, List.forall_mem_cons.mpr ⟨lw_p34, List.forall_mem_cons.mpr ⟨lw_p35, List.forall_mem_cons.mpr ⟨lw_p36, List.forall_mem_cons.mpr ⟨lw_p37, List.forall_mem_cons.mpr ⟨lw_p38, List.forall_mem_cons.mpr ⟨lw_p39, List.forall_mem_cons.mpr ⟨lw_p40, List.forall_mem_cons.mpr ⟨lw_p41, List.forall_mem_cons.mpr ⟨lw_p42, List.forall_mem_cons.mpr ⟨lw_p43, List.forall_mem_cons.mpr ⟨lw_p44, List.forall_mem_cons.mpr ⟨lw_p45, List.forall_mem_cons.mpr ⟨lw_p46, List.forall_mem_cons.mpr ⟨lw_p47, fun _ h => absurd h List.not_mem_nil⟩⟩⟩⟩⟩⟩⟩⟩⟩⟩⟩⟩⟩⟩⟩⟩
theorem lw_p48 : lw_okq (⟨"AlphaCourtModel", "isCourt", "()Z"⟩, 27) := ⟨⟨by decide +kernel, by decide +kernel⟩, List.mem_of_getElem? (i := 721) (by decide +kernel), List.mem_of_getElem? (i := 917) (by decide +kernel), List.mem_of_getElem? (i := 918) (by decide +kernel)⟩
theorem lw_p49 : lw_okq (⟨"AlphaCourtModel", "notes", "()V"⟩, 27) := ⟨⟨by decide +kernel, by decide +kernel⟩, List.mem_of_getElem? (i := 721) (by decide +kernel), List.mem_of_getElem? (i := 922) (by decide +kernel), List.mem_of_getElem? (i := 923) (by decide +kernel)⟩
theorem lw_p50 : lw_okq (⟨"AlphaCourtModel", "passes", "([II)V"⟩, 27) := ⟨⟨by decide +kernel, by decide +kernel⟩, List.mem_of_getElem? (i := 721) (by decide +kernel), List.mem_of_getElem? (i := 926) (by decide +kernel), List.mem_of_getElem? (i := 927) (by decide +kernel)⟩
theorem lw_p51 : lw_okq (⟨"AlphaCourtModel", "isPlaceOf", "(II)Z"⟩, 27) := ⟨⟨by decide +kernel, by decide +kernel⟩, List.mem_of_getElem? (i := 721) (by decide +kernel), List.mem_of_getElem? (i := 967) (by decide +kernel), List.mem_of_getElem? (i := 968) (by decide +kernel)⟩
theorem lw_p52 : lw_okq (⟨"AlphaCourtModel", "isPerson", "(I)Z"⟩, 27) := ⟨⟨by decide +kernel, by decide +kernel⟩, List.mem_of_getElem? (i := 721) (by decide +kernel), List.mem_of_getElem? (i := 971) (by decide +kernel), List.mem_of_getElem? (i := 972) (by decide +kernel)⟩
theorem lw_p53 : lw_okq (⟨"AlphaCourtModel", "beforeIt", "(I)I"⟩, 27) := ⟨⟨by decide +kernel, by decide +kernel⟩, List.mem_of_getElem? (i := 721) (by decide +kernel), List.mem_of_getElem? (i := 987) (by decide +kernel), List.mem_of_getElem? (i := 988) (by decide +kernel)⟩
theorem lw_p54 : lw_okq (⟨"AlphaCourtModel", "goes", "(I)V"⟩, 27) := ⟨⟨by decide +kernel, by decide +kernel⟩, List.mem_of_getElem? (i := 721) (by decide +kernel), List.mem_of_getElem? (i := 1003) (by decide +kernel), List.mem_of_getElem? (i := 1004) (by decide +kernel)⟩
theorem lw_p55 : lw_okq (⟨"AlphaCourtModel", "waitedTried", "()I"⟩, 27) := ⟨⟨by decide +kernel, by decide +kernel⟩, List.mem_of_getElem? (i := 721) (by decide +kernel), List.mem_of_getElem? (i := 1011) (by decide +kernel), List.mem_of_getElem? (i := 1012) (by decide +kernel)⟩
theorem lw_p56 : lw_okq (⟨"AlphaCourtModel", "lays", "(II)I"⟩, 27) := ⟨⟨by decide +kernel, by decide +kernel⟩, List.mem_of_getElem? (i := 721) (by decide +kernel), List.mem_of_getElem? (i := 1022) (by decide +kernel), List.mem_of_getElem? (i := 1023) (by decide +kernel)⟩
theorem lw_p57 : lw_okq (⟨"AlphaCourtModel", "isLast", "([II)Z"⟩, 27) := ⟨⟨by decide +kernel, by decide +kernel⟩, List.mem_of_getElem? (i := 721) (by decide +kernel), List.mem_of_getElem? (i := 1026) (by decide +kernel), List.mem_of_getElem? (i := 1027) (by decide +kernel)⟩
theorem lw_p58 : lw_okq (⟨"AlphaCourtModel", "lines", "(II)Z"⟩, 27) := ⟨⟨by decide +kernel, by decide +kernel⟩, List.mem_of_getElem? (i := 721) (by decide +kernel), List.mem_of_getElem? (i := 1038) (by decide +kernel), List.mem_of_getElem? (i := 1039) (by decide +kernel)⟩
theorem lw_p59 : lw_okq (⟨"AlphaCourtModel", "waitedByLine", "(I)I"⟩, 27) := ⟨⟨by decide +kernel, by decide +kernel⟩, List.mem_of_getElem? (i := 721) (by decide +kernel), List.mem_of_getElem? (i := 1042) (by decide +kernel), List.mem_of_getElem? (i := 1043) (by decide +kernel)⟩
theorem lw_p60 : lw_okq (⟨"AlphaCourtModel", "passedBy", "(I)I"⟩, 27) := ⟨⟨by decide +kernel, by decide +kernel⟩, List.mem_of_getElem? (i := 721) (by decide +kernel), List.mem_of_getElem? (i := 1051) (by decide +kernel), List.mem_of_getElem? (i := 1052) (by decide +kernel)⟩
theorem lw_p61 : lw_okq (⟨"AlphaCourtModel", "saintSize", "(I)I"⟩, 27) := ⟨⟨by decide +kernel, by decide +kernel⟩, List.mem_of_getElem? (i := 721) (by decide +kernel), List.mem_of_getElem? (i := 1079) (by decide +kernel), List.mem_of_getElem? (i := 1080) (by decide +kernel)⟩
theorem lw_p62 : lw_okq (⟨"AlphaCourtModel", "begins", "(I)V"⟩, 27) := ⟨⟨by decide +kernel, by decide +kernel⟩, List.mem_of_getElem? (i := 721) (by decide +kernel), List.mem_of_getElem? (i := 1083) (by decide +kernel), List.mem_of_getElem? (i := 1084) (by decide +kernel)⟩
theorem lw_p63 : lw_okq (⟨"AlphaCourtModel", "plainSize", "(I)I"⟩, 27) := ⟨⟨by decide +kernel, by decide +kernel⟩, List.mem_of_getElem? (i := 721) (by decide +kernel), List.mem_of_getElem? (i := 1087) (by decide +kernel), List.mem_of_getElem? (i := 1088) (by decide +kernel)⟩
def lw_privs_4 : List (MethodName × Nat) := [(⟨"AlphaCourtModel", "isCourt", "()Z"⟩, 27), (⟨"AlphaCourtModel", "notes", "()V"⟩, 27), (⟨"AlphaCourtModel", "passes", "([II)V"⟩, 27), (⟨"AlphaCourtModel", "isPlaceOf", "(II)Z"⟩, 27), (⟨"AlphaCourtModel", "isPerson", "(I)Z"⟩, 27), (⟨"AlphaCourtModel", "beforeIt", "(I)I"⟩, 27), (⟨"AlphaCourtModel", "goes", "(I)V"⟩, 27), (⟨"AlphaCourtModel", "waitedTried", "()I"⟩, 27), (⟨"AlphaCourtModel", "lays", "(II)I"⟩, 27), (⟨"AlphaCourtModel", "isLast", "([II)Z"⟩, 27), (⟨"AlphaCourtModel", "lines", "(II)Z"⟩, 27), (⟨"AlphaCourtModel", "waitedByLine", "(I)I"⟩, 27), (⟨"AlphaCourtModel", "passedBy", "(I)I"⟩, 27), (⟨"AlphaCourtModel", "saintSize", "(I)I"⟩, 27), (⟨"AlphaCourtModel", "begins", "(I)V"⟩, 27), (⟨"AlphaCourtModel", "plainSize", "(I)I"⟩, 27)]
theorem lw_r4 : ∀ q ∈ lw_privs_4, lw_okq q := List.forall_mem_cons.mpr ⟨lw_p48, List.forall_mem_cons.mpr ⟨lw_p49, List.forall_mem_cons.mpr ⟨lw_p50, List.forall_mem_cons.mpr ⟨lw_p51, List.forall_mem_cons.mpr ⟨lw_p52, List.forall_mem_cons.mpr ⟨lw_p53, List.forall_mem_cons.mpr ⟨lw_p54, List.forall_mem_cons.mpr ⟨lw_p55, List.forall_mem_cons.mpr ⟨lw_p56, List.forall_mem_cons.mpr ⟨lw_p57, List.forall_mem_cons.mpr ⟨lw_p58, List.forall_mem_cons.mpr ⟨lw_p59, List.forall_mem_cons.mpr ⟨lw_p60, List.forall_mem_cons.mpr ⟨lw_p61, List.forall_mem_cons.mpr ⟨lw_p62, List.forall_mem_cons.mpr ⟨lw_p63, fun _ h => absurd h List.not_mem_nil⟩⟩⟩⟩⟩⟩⟩⟩⟩⟩⟩⟩⟩⟩⟩⟩
theorem lw_p64 : lw_okq (⟨"AlphaCourtModel", "plainMark", "(I)I"⟩, 27) := ⟨⟨by decide +kernel, by decide +kernel⟩, List.mem_of_getElem? (i := 721) (by decide +kernel), List.mem_of_getElem? (i := 1091) (by decide +kernel), List.mem_of_getElem? (i := 1092) (by decide +kernel)⟩
theorem lw_p65 : lw_okq (⟨"AlphaCourtModel", "saintMark", "(I)I"⟩, 27) := ⟨⟨by decide +kernel, by decide +kernel⟩, List.mem_of_getElem? (i := 721) (by decide +kernel), List.mem_of_getElem? (i := 1095) (by decide +kernel), List.mem_of_getElem? (i := 1096) (by decide +kernel)⟩
def lw_privs_5 : List (MethodName × Nat) := [(⟨"AlphaCourtModel", "plainMark", "(I)I"⟩, 27), (⟨"AlphaCourtModel", "saintMark", "(I)I"⟩, 27)]
theorem lw_r5 : ∀ q ∈ lw_privs_5, lw_okq q := List.forall_mem_cons.mpr ⟨lw_p64, List.forall_mem_cons.mpr ⟨lw_p65, fun _ h => absurd h List.not_mem_nil⟩⟩
def lw_privs : List (MethodName × Nat) := lw_privs_1 ++ (lw_privs_2 ++ (lw_privs_3 ++ (lw_privs_4 ++ (lw_privs_5))))
def lw_tbl : List Cond := k2_sels lw_privs ++ tables_1
theorem lw_privs_ok : ∀ q ∈ lw_privs, lw_okq q := by
  show ∀ q ∈ lw_privs_1 ++ (lw_privs_2 ++ (lw_privs_3 ++ (lw_privs_4 ++ (lw_privs_5)))), lw_okq q
  exact List.forall_mem_append.mpr ⟨lw_r1, List.forall_mem_append.mpr ⟨lw_r2, List.forall_mem_append.mpr ⟨lw_r3, List.forall_mem_append.mpr ⟨lw_r4, lw_r5⟩⟩⟩⟩
end
section
def RX0 : String := "AlphaCourt$Acts"
def TX0 : u_T := fun k => match k with
  | 0 => ("AlphaCourt$Acts", "sorts", "[I", true)
  | 1 => ("AlphaCourt$Acts", "people", "[I", true)
  | 2 => ("AlphaCourt$Acts", "places", "[I", true)
  | 3 => ("AlphaCourt$Acts", "letters", "[I", true)
  | 4 => ("AlphaCourt$Acts", "oldest", "I", false)
  | _ => ("AlphaCourt$Acts", "size", "I", false)
def tyX0 : Nat → FieldType := fun k => match k with
  | 0 => .array .int
  | 1 => .array .int
  | 2 => .array .int
  | 3 => .array .int
  | 4 => .int
  | _ => .int
theorem nmX0 : ∀ a, a < 6 → ∀ b, b < 6 → a ≠ b → (TX0 a).2.1 ≠ (TX0 b).2.1 := by decide +kernel
theorem tyX0_ok : ∀ k, k < 6 → parseFieldDescriptor (TX0 k).2.2.1 = some (tyX0 k) := by decide +kernel
abbrev cX0_init : ByteArray := prog_2_method_1_code
def yX0_init : MethodName := ⟨RX0, "<init>", "()V"⟩
abbrev cX0_forgetAll : ByteArray := prog_2_method_2_code
def yX0_forgetAll : MethodName := ⟨RX0, "forgetAll", "()V"⟩
abbrev cX0_keepDay : ByteArray := prog_2_method_3_code
def yX0_keepDay : MethodName := ⟨RX0, "keepDay", "()V"⟩
abbrev cX0_keepForged : ByteArray := prog_2_method_4_code
def yX0_keepForged : MethodName := ⟨RX0, "keepForged", "(III)V"⟩
abbrev cX0_keepLost : ByteArray := prog_2_method_5_code
def yX0_keepLost : MethodName := ⟨RX0, "keepLost", "(I)V"⟩
abbrev cX0_keep : ByteArray := prog_2_method_6_code
def yX0_keep : MethodName := ⟨RX0, "keep", "(IIII)V"⟩
abbrev cX0_latestPlace : ByteArray := prog_2_method_7_code
def yX0_latestPlace : MethodName := ⟨RX0, "latestPlace", "()I"⟩
abbrev cX0_takeBack : ByteArray := prog_2_method_8_code
def yX0_takeBack : MethodName := ⟨RX0, "takeBack", "(LAlphaCourt$Court;)V"⟩
def RX1 : String := "AlphaCourt$Asks"
def TX1 : u_T := fun k => match k with
  | 0 => ("AlphaCourt$Asks", "trail", "[I", true)
  | _ => ("AlphaCourt$Asks", "traced", "I", false)
def tyX1 : Nat → FieldType := fun k => match k with
  | 0 => .array .int
  | _ => .int
theorem nmX1 : ∀ a, a < 2 → ∀ b, b < 2 → a ≠ b → (TX1 a).2.1 ≠ (TX1 b).2.1 := by decide +kernel
theorem tyX1_ok : ∀ k, k < 2 → parseFieldDescriptor (TX1 k).2.2.1 = some (tyX1 k) := by decide +kernel
abbrev cX1_init : ByteArray := prog_3_method_1_code
def yX1_init : MethodName := ⟨RX1, "<init>", "()V"⟩
abbrev cX1_answer : ByteArray := prog_3_method_2_code
def yX1_answer : MethodName := ⟨RX1, "answer", "(LAlphaCourt$Court;II)I"⟩
abbrev cX1_leave : ByteArray := prog_3_method_3_code
def yX1_leave : MethodName := ⟨RX1, "leave", "(I)V"⟩
abbrev cX1_give : ByteArray := prog_3_method_4_code
def yX1_give : MethodName := ⟨RX1, "give", "(LAlphaCourt$Court;III)I"⟩
def RX2 : String := "AlphaCourt$Court"
def TX2 : u_T := fun k => match k with
  | 0 => ("AlphaCourt$Court", "stands", "Z", false)
  | 1 => ("AlphaCourt$Court", "people", "I", false)
  | 2 => ("AlphaCourt$Court", "seats", "I", false)
  | 3 => ("AlphaCourt$Court", "turns", "I", false)
  | 4 => ("AlphaCourt$Court", "day", "I", false)
  | 5 => ("AlphaCourt$Court", "lost", "I", false)
  | 6 => ("AlphaCourt$Court", "told", "[I", true)
  | 7 => ("AlphaCourt$Court", "placeInTold", "[I", true)
  | 8 => ("AlphaCourt$Court", "kinds", "[I", true)
  | 9 => ("AlphaCourt$Court", "lengths", "[I", true)
  | 10 => ("AlphaCourt$Court", "letters", "[I", true)
  | 11 => ("AlphaCourt$Court", "terms", "[I", true)
  | 12 => ("AlphaCourt$Court", "lives", "[I", true)
  | 13 => ("AlphaCourt$Court", "seated", "[I", true)
  | 14 => ("AlphaCourt$Court", "newcomers", "[I", true)
  | _ => ("AlphaCourt$Court", "newlySeated", "I", false)
def tyX2 : Nat → FieldType := fun k => match k with
  | 0 => .boolean
  | 1 => .int
  | 2 => .int
  | 3 => .int
  | 4 => .int
  | 5 => .int
  | 6 => .array .int
  | 7 => .array .int
  | 8 => .array .int
  | 9 => .array .int
  | 10 => .array .int
  | 11 => .array .int
  | 12 => .array .int
  | 13 => .array .int
  | 14 => .array .int
  | _ => .int
theorem nmX2 : ∀ a, a < 16 → ∀ b, b < 16 → a ≠ b → (TX2 a).2.1 ≠ (TX2 b).2.1 := by decide +kernel
theorem tyX2_ok : ∀ k, k < 16 → parseFieldDescriptor (TX2 k).2.2.1 = some (tyX2 k) := by decide +kernel
abbrev cX2_init : ByteArray := prog_4_method_1_code
def yX2_init : MethodName := ⟨RX2, "<init>", "()V"⟩
abbrev cX2_takeFrom : ByteArray := prog_4_method_2_code
def yX2_takeFrom : MethodName := ⟨RX2, "takeFrom", "(LAlphaCourt$Court;)V"⟩
abbrev cX2_begin : ByteArray := prog_4_method_3_code
def yX2_begin : MethodName := ⟨RX2, "begin", "()V"⟩
abbrev cX2_tellOrder : ByteArray := prog_4_method_4_code
def yX2_tellOrder : MethodName := ⟨RX2, "tellOrder", "(II)V"⟩
abbrev cX2_letterOf : ByteArray := prog_4_method_5_code
def yX2_letterOf : MethodName := ⟨RX2, "letterOf", "(II)I"⟩
abbrev cX2_putLetter : ByteArray := prog_4_method_6_code
def yX2_putLetter : MethodName := ⟨RX2, "putLetter", "(III)V"⟩
abbrev cX2_lettersAsBits : ByteArray := prog_4_method_7_code
def yX2_lettersAsBits : MethodName := ⟨RX2, "lettersAsBits", "(I)I"⟩
abbrev cX2_turnOn : ByteArray := prog_4_method_8_code
def yX2_turnOn : MethodName := ⟨RX2, "turnOn", "(II)I"⟩
abbrev cX2_letterInOrder : ByteArray := prog_4_method_9_code
def yX2_letterInOrder : MethodName := ⟨RX2, "letterInOrder", "(II)I"⟩
abbrev cX2_placeInOrder : ByteArray := prog_4_method_10_code
def yX2_placeInOrder : MethodName := ⟨RX2, "placeInOrder", "(II)I"⟩
abbrev cX2_letterAsRead : ByteArray := prog_4_method_11_code
def yX2_letterAsRead : MethodName := ⟨RX2, "letterAsRead", "(II)I"⟩
abbrev cX2_compareNames : ByteArray := prog_4_method_12_code
def yX2_compareNames : MethodName := ⟨RX2, "compareNames", "(III)I"⟩
abbrev cX2_isBefore : ByteArray := prog_4_method_13_code
def yX2_isBefore : MethodName := ⟨RX2, "isBefore", "(III)Z"⟩
abbrev cX2_isSeated : ByteArray := prog_4_method_14_code
def yX2_isSeated : MethodName := ⟨RX2, "isSeated", "(I)Z"⟩
abbrev cX2_freeDay : ByteArray := prog_4_method_15_code
def yX2_freeDay : MethodName := ⟨RX2, "freeDay", "(I)I"⟩
abbrev cX2_waitsOn : ByteArray := prog_4_method_16_code
def yX2_waitsOn : MethodName := ⟨RX2, "waitsOn", "(II)Z"⟩
abbrev cX2_servesOn : ByteArray := prog_4_method_17_code
def yX2_servesOn : MethodName := ⟨RX2, "servesOn", "(II)Z"⟩
abbrev cX2_stateOf : ByteArray := prog_4_method_18_code
def yX2_stateOf : MethodName := ⟨RX2, "stateOf", "(I)I"⟩
abbrev cX2_howMany : ByteArray := prog_4_method_19_code
def yX2_howMany : MethodName := ⟨RX2, "howMany", "(I)I"⟩
abbrev cX2_howManyBefore : ByteArray := prog_4_method_20_code
def yX2_howManyBefore : MethodName := ⟨RX2, "howManyBefore", "(I)I"⟩
abbrev cX2_howManyWaitWith : ByteArray := prog_4_method_21_code
def yX2_howManyWaitWith : MethodName := ⟨RX2, "howManyWaitWith", "(I)I"⟩
abbrev cX2_lastWaitingBut : ByteArray := prog_4_method_22_code
def yX2_lastWaitingBut : MethodName := ⟨RX2, "lastWaitingBut", "(II)I"⟩
abbrev cX2_seatTill : ByteArray := prog_4_method_23_code
def yX2_seatTill : MethodName := ⟨RX2, "seatTill", "(II)V"⟩
abbrev cX2_openDay : ByteArray := prog_4_method_24_code
def yX2_openDay : MethodName := ⟨RX2, "openDay", "(I)I"⟩
abbrev cX2_firstOn : ByteArray := prog_4_method_25_code
def yX2_firstOn : MethodName := ⟨RX2, "firstOn", "(II)I"⟩
abbrev cX2_takeBackDay : ByteArray := prog_4_method_26_code
def yX2_takeBackDay : MethodName := ⟨RX2, "takeBackDay", "()V"⟩
abbrev cX2_waitedByAll : ByteArray := prog_4_method_27_code
def yX2_waitedByAll : MethodName := ⟨RX2, "waitedByAll", "()I"⟩
def RX3 : String := "AlphaCourt$Planner"
def TX3 : u_T := fun k => match k with
  | 0 => ("AlphaCourt$Planner", "bestRow", "[I", true)
  | 1 => ("AlphaCourt$Planner", "size", "I", false)
  | 2 => ("AlphaCourt$Planner", "least", "I", false)
  | 3 => ("AlphaCourt$Planner", "row", "[I", true)
  | 4 => ("AlphaCourt$Planner", "openDays", "[I", true)
  | _ => ("AlphaCourt$Planner", "seats", "I", false)
def tyX3 : Nat → FieldType := fun k => match k with
  | 0 => .array .int
  | 1 => .int
  | 2 => .int
  | 3 => .array .int
  | 4 => .array .int
  | _ => .int
theorem nmX3 : ∀ a, a < 6 → ∀ b, b < 6 → a ≠ b → (TX3 a).2.1 ≠ (TX3 b).2.1 := by decide +kernel
theorem tyX3_ok : ∀ k, k < 6 → parseFieldDescriptor (TX3 k).2.2.1 = some (tyX3 k) := by decide +kernel
abbrev cX3_init : ByteArray := prog_5_method_1_code
def yX3_init : MethodName := ⟨RX3, "<init>", "()V"⟩
abbrev cX3_plan : ByteArray := prog_5_method_2_code
def yX3_plan : MethodName := ⟨RX3, "plan", "(LAlphaCourt$Court;)V"⟩
abbrev cX3_openSeats : ByteArray := prog_5_method_3_code
def yX3_openSeats : MethodName := ⟨RX3, "openSeats", "(LAlphaCourt$Court;)V"⟩
abbrev cX3_firstOpenSeat : ByteArray := prog_5_method_4_code
def yX3_firstOpenSeat : MethodName := ⟨RX3, "firstOpenSeat", "()I"⟩
abbrev cX3_seatOneByOne : ByteArray := prog_5_method_5_code
def yX3_seatOneByOne : MethodName := ⟨RX3, "seatOneByOne", "(LAlphaCourt$Court;III)V"⟩
def RX4 : String := "AlphaCourt$Reader"
def TX4 : u_T := fun k => match k with
  | 0 => ("AlphaCourt$Reader", "tape", "[I", true)
  | 1 => ("AlphaCourt$Reader", "length", "I", false)
  | 2 => ("AlphaCourt$Reader", "faultNumber", "I", false)
  | 3 => ("AlphaCourt$Reader", "faultPlace", "I", false)
  | 4 => ("AlphaCourt$Reader", "at", "I", false)
  | 5 => ("AlphaCourt$Reader", "tokenPlace", "I", false)
  | 6 => ("AlphaCourt$Reader", "token", "I", false)
  | _ => ("AlphaCourt$Reader", "number", "I", false)
def tyX4 : Nat → FieldType := fun k => match k with
  | 0 => .array .int
  | 1 => .int
  | 2 => .int
  | 3 => .int
  | 4 => .int
  | 5 => .int
  | 6 => .int
  | _ => .int
theorem nmX4 : ∀ a, a < 8 → ∀ b, b < 8 → a ≠ b → (TX4 a).2.1 ≠ (TX4 b).2.1 := by decide +kernel
theorem tyX4_ok : ∀ k, k < 8 → parseFieldDescriptor (TX4 k).2.2.1 = some (tyX4 k) := by decide +kernel
abbrev cX4_init : ByteArray := prog_6_method_1_code
def yX4_init : MethodName := ⟨RX4, "<init>", "()V"⟩
abbrev cX4_addByte : ByteArray := prog_6_method_2_code
def yX4_addByte : MethodName := ⟨RX4, "addByte", "(I)V"⟩
abbrev cX4_readInto : ByteArray := prog_6_method_3_code
def yX4_readInto : MethodName := ⟨RX4, "readInto", "(LAlphaCourt$Court;)Z"⟩
abbrev cX4_readLaw : ByteArray := prog_6_method_4_code
def yX4_readLaw : MethodName := ⟨RX4, "readLaw", "(LAlphaCourt$Court;)Z"⟩
abbrev cX4_readOrder : ByteArray := prog_6_method_5_code
def yX4_readOrder : MethodName := ⟨RX4, "readOrder", "(LAlphaCourt$Court;)Z"⟩
abbrev cX4_readPeople : ByteArray := prog_6_method_6_code
def yX4_readPeople : MethodName := ⟨RX4, "readPeople", "(LAlphaCourt$Court;)Z"⟩
abbrev cX4_readPerson : ByteArray := prog_6_method_7_code
def yX4_readPerson : MethodName := ⟨RX4, "readPerson", "(LAlphaCourt$Court;I)Z"⟩
abbrev cX4_hasFault : ByteArray := prog_6_method_8_code
def yX4_hasFault : MethodName := ⟨RX4, "hasFault", "(I)Z"⟩
abbrev cX4_passOver : ByteArray := prog_6_method_9_code
def yX4_passOver : MethodName := ⟨RX4, "passOver", "(I)Z"⟩
abbrev cX4_isNumberIn : ByteArray := prog_6_method_10_code
def yX4_isNumberIn : MethodName := ⟨RX4, "isNumberIn", "(II)Z"⟩
abbrev cX4_takeNumber : ByteArray := prog_6_method_11_code
def yX4_takeNumber : MethodName := ⟨RX4, "takeNumber", "()I"⟩
abbrev cX4_isLetter : ByteArray := prog_6_method_12_code
def yX4_isLetter : MethodName := ⟨RX4, "isLetter", "()Z"⟩
abbrev cX4_letterOfToken : ByteArray := prog_6_method_13_code
def yX4_letterOfToken : MethodName := ⟨RX4, "letterOfToken", "()I"⟩
abbrev cX4_isFigureAt : ByteArray := prog_6_method_14_code
def yX4_isFigureAt : MethodName := ⟨RX4, "isFigureAt", "(I)Z"⟩
abbrev cX4_step : ByteArray := prog_6_method_15_code
def yX4_step : MethodName := ⟨RX4, "step", "()V"⟩
def RX5 : String := "AlphaCourt$Renaming"
def TX5 : u_T := fun k => match k with
  | _ => ("AlphaCourt$Renaming", "trial", "LAlphaCourt$Court;", true)
def tyX5 : Nat → FieldType := fun k => match k with
  | _ => .object "AlphaCourt$Court"
theorem nmX5 : ∀ a, a < 1 → ∀ b, b < 1 → a ≠ b → (TX5 a).2.1 ≠ (TX5 b).2.1 := by decide +kernel
theorem tyX5_ok : ∀ k, k < 1 → parseFieldDescriptor (TX5 k).2.2.1 = some (tyX5 k) := by decide +kernel
abbrev cX5_init : ByteArray := prog_7_method_1_code
def yX5_init : MethodName := ⟨RX5, "<init>", "()V"⟩
abbrev cX5_findFewest : ByteArray := prog_7_method_2_code
def yX5_findFewest : MethodName := ⟨RX5, "findFewest", "(LAlphaCourt$Court;I)I"⟩
abbrev cX5_canBeBehind : ByteArray := prog_7_method_3_code
def yX5_canBeBehind : MethodName := ⟨RX5, "canBeBehind", "(III)Z"⟩
abbrev cX5_tryNames : ByteArray := prog_7_method_4_code
def yX5_tryNames : MethodName := ⟨RX5, "tryNames", "(LAlphaCourt$Court;IIIII)Z"⟩
def RX6 : String := "AlphaCourt$Row"
def TX6 : u_T := fun k => match k with
  | 0 => ("AlphaCourt$Row", "items", "[I", true)
  | 1 => ("AlphaCourt$Row", "lane", "I", false)
  | _ => ("AlphaCourt$Row", "size", "I", false)
def tyX6 : Nat → FieldType := fun k => match k with
  | 0 => .array .int
  | 1 => .int
  | _ => .int
theorem nmX6 : ∀ a, a < 3 → ∀ b, b < 3 → a ≠ b → (TX6 a).2.1 ≠ (TX6 b).2.1 := by decide +kernel
theorem tyX6_ok : ∀ k, k < 3 → parseFieldDescriptor (TX6 k).2.2.1 = some (tyX6 k) := by decide +kernel
abbrev cX6_init : ByteArray := prog_8_method_1_code
def yX6_init : MethodName := ⟨RX6, "<init>", "()V"⟩
abbrev cX6_isMissing : ByteArray := prog_8_method_2_code
def yX6_isMissing : MethodName := ⟨RX6, "isMissing", "()Z"⟩
abbrev cX6_begin : ByteArray := prog_8_method_3_code
def yX6_begin : MethodName := ⟨RX6, "begin", "(II)V"⟩
abbrev cX6_cut : ByteArray := prog_8_method_4_code
def yX6_cut : MethodName := ⟨RX6, "cut", "(I)I"⟩
abbrev cX6_hasRange : ByteArray := prog_8_method_5_code
def yX6_hasRange : MethodName := ⟨RX6, "hasRange", "(II)Z"⟩
def RX7 : String := "AlphaCourt"
def TX7 : u_T := fun k => match k with
  | 0 => ("AlphaCourt", "rows", "[LAlphaCourt$Row;", true)
  | 1 => ("AlphaCourt", "reader", "LAlphaCourt$Reader;", true)
  | 2 => ("AlphaCourt", "court", "LAlphaCourt$Court;", true)
  | 3 => ("AlphaCourt", "draft", "LAlphaCourt$Court;", true)
  | 4 => ("AlphaCourt", "images", "[LAlphaCourt$Court;", true)
  | 5 => ("AlphaCourt", "acts", "LAlphaCourt$Acts;", true)
  | 6 => ("AlphaCourt", "renaming", "LAlphaCourt$Renaming;", true)
  | 7 => ("AlphaCourt", "planner", "LAlphaCourt$Planner;", true)
  | 8 => ("AlphaCourt", "asks", "LAlphaCourt$Asks;", true)
  | 9 => ("AlphaCourt", "latestFault", "I", false)
  | _ => ("AlphaCourt", "latestFinding", "I", false)
def tyX7 : Nat → FieldType := fun k => match k with
  | 0 => .array (.object "AlphaCourt$Row")
  | 1 => .object "AlphaCourt$Reader"
  | 2 => .object "AlphaCourt$Court"
  | 3 => .object "AlphaCourt$Court"
  | 4 => .array (.object "AlphaCourt$Court")
  | 5 => .object "AlphaCourt$Acts"
  | 6 => .object "AlphaCourt$Renaming"
  | 7 => .object "AlphaCourt$Planner"
  | 8 => .object "AlphaCourt$Asks"
  | 9 => .int
  | _ => .int
theorem nmX7 : ∀ a, a < 11 → ∀ b, b < 11 → a ≠ b → (TX7 a).2.1 ≠ (TX7 b).2.1 := by decide +kernel
theorem tyX7_ok : ∀ k, k < 11 → parseFieldDescriptor (TX7 k).2.2.1 = some (tyX7 k) := by decide +kernel
abbrev cX7_init : ByteArray := prog_1_method_1_code
def yX7_init : MethodName := ⟨RX7, "<init>", "()V"⟩
abbrev cX7_row : ByteArray := prog_1_method_2_code
def yX7_row : MethodName := ⟨RX7, "row", "(III)I"⟩
abbrev cX7_set : ByteArray := prog_1_method_3_code
def yX7_set : MethodName := ⟨RX7, "set", "(III)I"⟩
abbrev cX7_copy : ByteArray := prog_1_method_4_code
def yX7_copy : MethodName := ⟨RX7, "copy", "(IIIII)I"⟩
abbrev cX7_drop : ByteArray := prog_1_method_5_code
def yX7_drop : MethodName := ⟨RX7, "drop", "(I)I"⟩
abbrev cX7_feed : ByteArray := prog_1_method_6_code
def yX7_feed : MethodName := ⟨RX7, "feed", "(I)I"⟩
abbrev cX7_court : ByteArray := prog_1_method_7_code
def yX7_court : MethodName := ⟨RX7, "court", "()I"⟩
abbrev cX7_fault : ByteArray := prog_1_method_8_code
def yX7_fault : MethodName := ⟨RX7, "fault", "()I"⟩
abbrev cX7_days : ByteArray := prog_1_method_9_code
def yX7_days : MethodName := ⟨RX7, "days", "(I)I"⟩
abbrev cX7_forge : ByteArray := prog_1_method_10_code
def yX7_forge : MethodName := ⟨RX7, "forge", "(III)I"⟩
abbrev cX7_lose : ByteArray := prog_1_method_11_code
def yX7_lose : MethodName := ⟨RX7, "lose", "(II)I"⟩
abbrev cX7_undo : ByteArray := prog_1_method_12_code
def yX7_undo : MethodName := ⟨RX7, "undo", "()I"⟩
abbrev cX7_person : ByteArray := prog_1_method_13_code
def yX7_person : MethodName := ⟨RX7, "person", "(II)I"⟩
abbrev cX7_name : ByteArray := prog_1_method_14_code
def yX7_name : MethodName := ⟨RX7, "name", "(II)I"⟩
abbrev cX7_order : ByteArray := prog_1_method_15_code
def yX7_order : MethodName := ⟨RX7, "order", "(I)I"⟩
abbrev cX7_when : ByteArray := prog_1_method_16_code
def yX7_when : MethodName := ⟨RX7, "when", "(II)I"⟩
abbrev cX7_waited : ByteArray := prog_1_method_17_code
def yX7_waited : MethodName := ⟨RX7, "waited", "()I"⟩
abbrev cX7_last : ByteArray := prog_1_method_18_code
def yX7_last : MethodName := ⟨RX7, "last", "(II)I"⟩
abbrev cX7_best : ByteArray := prog_1_method_19_code
def yX7_best : MethodName := ⟨RX7, "best", "(I)I"⟩
abbrev cX7_warden : ByteArray := prog_1_method_20_code
def yX7_warden : MethodName := ⟨RX7, "warden", "(I)I"⟩
abbrev cX7_frees : ByteArray := prog_1_method_21_code
def yX7_frees : MethodName := ⟨RX7, "frees", "(I)I"⟩
abbrev cX7_ledger : ByteArray := prog_1_method_22_code
def yX7_ledger : MethodName := ⟨RX7, "ledger", "(III)I"⟩
abbrev cX7_image : ByteArray := prog_1_method_23_code
def yX7_image : MethodName := ⟨RX7, "image", "(I)I"⟩
abbrev cX7_restore : ByteArray := prog_1_method_24_code
def yX7_restore : MethodName := ⟨RX7, "restore", "(I)I"⟩
abbrev cX7_kind : ByteArray := prog_1_method_25_code
def yX7_kind : MethodName := ⟨RX7, "kind", "(I)I"⟩
abbrev cX7_as : ByteArray := prog_1_method_26_code
def yX7_as : MethodName := ⟨RX7, "as", "(II)I"⟩
abbrev cX7_ask : ByteArray := prog_1_method_27_code
def yX7_ask : MethodName := ⟨RX7, "ask", "(II)I"⟩
abbrev cX7_trace : ByteArray := prog_1_method_28_code
def yX7_trace : MethodName := ⟨RX7, "trace", "(I)I"⟩
abbrev cX7_count : ByteArray := prog_1_method_29_code
def yX7_count : MethodName := ⟨RX7, "count", "(I)I"⟩
abbrev cX7_status : ByteArray := prog_1_method_30_code
def yX7_status : MethodName := ⟨RX7, "status", "()I"⟩
abbrev cX7_isIn : ByteArray := prog_1_method_31_code
def yX7_isIn : MethodName := ⟨RX7, "isIn", "(II)Z"⟩
abbrev cX7_isOfKind : ByteArray := prog_1_method_32_code
def yX7_isOfKind : MethodName := ⟨RX7, "isOfKind", "(II)Z"⟩
abbrev cX7_found : ByteArray := prog_1_method_33_code
def yX7_found : MethodName := ⟨RX7, "found", "(I)I"⟩
abbrev cX7_unfound : ByteArray := prog_1_method_34_code
def yX7_unfound : MethodName := ⟨RX7, "unfound", "(I)I"⟩
abbrev cX7_isPerson : ByteArray := prog_1_method_35_code
def yX7_isPerson : MethodName := ⟨RX7, "isPerson", "(I)Z"⟩
abbrev cX7_isPlaceOfName : ByteArray := prog_1_method_36_code
def yX7_isPlaceOfName : MethodName := ⟨RX7, "isPlaceOfName", "(II)Z"⟩
abbrev cX7_howManyRows : ByteArray := prog_1_method_37_code
def yX7_howManyRows : MethodName := ⟨RX7, "howManyRows", "()I"⟩
abbrev cX7_foretell : ByteArray := prog_1_method_38_code
def yX7_foretell : MethodName := ⟨RX7, "foretell", "(I)LAlphaCourt$Court;"⟩
abbrev cX7_areAllPeople : ByteArray := prog_1_method_39_code
def yX7_areAllPeople : MethodName := ⟨RX7, "areAllPeople", "(LAlphaCourt$Row;II)Z"⟩
abbrev cX7_areSeatedNext : ByteArray := prog_1_method_40_code
def yX7_areSeatedNext : MethodName := ⟨RX7, "areSeatedNext", "(LAlphaCourt$Row;III)Z"⟩
def RX8 : String := "AlphaCourtModel"
def TX8 : u_T := fun k => match k with
  | 0 => ("AlphaCourtModel", "lane", "[I", true)
  | 1 => ("AlphaCourtModel", "many", "[I", true)
  | 2 => ("AlphaCourtModel", "items", "[I", true)
  | 3 => ("AlphaCourtModel", "spare", "[I", true)
  | 4 => ("AlphaCourtModel", "status", "I", false)
  | 5 => ("AlphaCourtModel", "tape", "[I", true)
  | 6 => ("AlphaCourtModel", "taped", "I", false)
  | 7 => ("AlphaCourtModel", "faultKind", "I", false)
  | 8 => ("AlphaCourtModel", "faultPlace", "I", false)
  | 9 => ("AlphaCourtModel", "at", "I", false)
  | 10 => ("AlphaCourtModel", "start", "I", false)
  | 11 => ("AlphaCourtModel", "token", "I", false)
  | 12 => ("AlphaCourtModel", "value", "I", false)
  | 13 => ("AlphaCourtModel", "now", "[I", true)
  | 14 => ("AlphaCourtModel", "draft", "[I", true)
  | 15 => ("AlphaCourtModel", "tried", "[I", true)
  | 16 => ("AlphaCourtModel", "past", "[I", true)
  | 17 => ("AlphaCourtModel", "acts", "I", false)
  | 18 => ("AlphaCourtModel", "images", "[I", true)
  | 19 => ("AlphaCourtModel", "kept", "[Z", true)
  | 20 => ("AlphaCourtModel", "trace", "[I", true)
  | 21 => ("AlphaCourtModel", "traced", "I", false)
  | 22 => ("AlphaCourtModel", "ledger", "[I", true)
  | 23 => ("AlphaCourtModel", "ledgerMany", "I", false)
  | 24 => ("AlphaCourtModel", "waiting", "[I", true)
  | 25 => ("AlphaCourtModel", "line", "[I", true)
  | _ => ("AlphaCourtModel", "bestLine", "[I", true)
def tyX8 : Nat → FieldType := fun k => match k with
  | 0 => .array .int
  | 1 => .array .int
  | 2 => .array .int
  | 3 => .array .int
  | 4 => .int
  | 5 => .array .int
  | 6 => .int
  | 7 => .int
  | 8 => .int
  | 9 => .int
  | 10 => .int
  | 11 => .int
  | 12 => .int
  | 13 => .array .int
  | 14 => .array .int
  | 15 => .array .int
  | 16 => .array .int
  | 17 => .int
  | 18 => .array .int
  | 19 => .array .boolean
  | 20 => .array .int
  | 21 => .int
  | 22 => .array .int
  | 23 => .int
  | 24 => .array .int
  | 25 => .array .int
  | _ => .array .int
theorem nmX8 : ∀ a, a < 27 → ∀ b, b < 27 → a ≠ b → (TX8 a).2.1 ≠ (TX8 b).2.1 := by decide +kernel
theorem tyX8_ok : ∀ k, k < 27 → parseFieldDescriptor (TX8 k).2.2.1 = some (tyX8 k) := by decide +kernel
abbrev cX8_init : ByteArray := prog_10_method_1_code
def yX8_init : MethodName := ⟨RX8, "<init>", "()V"⟩
abbrev cX8_in : ByteArray := prog_10_method_3_code
def yX8_in : MethodName := ⟨RX8, "in", "(III)Z"⟩
abbrev cX8_has : ByteArray := prog_10_method_4_code
def yX8_has : MethodName := ⟨RX8, "has", "(II)Z"⟩
abbrev cX8_found : ByteArray := prog_10_method_5_code
def yX8_found : MethodName := ⟨RX8, "found", "(I)I"⟩
abbrev cX8_well : ByteArray := prog_10_method_6_code
def yX8_well : MethodName := ⟨RX8, "well", "(I)I"⟩
abbrev cX8_copies : ByteArray := prog_10_method_7_code
def yX8_copies : MethodName := ⟨RX8, "copies", "([II[II)V"⟩
abbrev cX8_isRow : ByteArray := prog_10_method_8_code
def yX8_isRow : MethodName := ⟨RX8, "isRow", "(I)Z"⟩
abbrev cX8_isMissing : ByteArray := prog_10_method_9_code
def yX8_isMissing : MethodName := ⟨RX8, "isMissing", "(I)Z"⟩
abbrev cX8_cut : ByteArray := prog_10_method_10_code
def yX8_cut : MethodName := ⟨RX8, "cut", "(II)I"⟩
abbrev cX8_row : ByteArray := prog_10_method_11_code
def yX8_row : MethodName := ⟨RX8, "row", "(III)I"⟩
abbrev cX8_set : ByteArray := prog_10_method_12_code
def yX8_set : MethodName := ⟨RX8, "set", "(III)I"⟩
abbrev cX8_isPart : ByteArray := prog_10_method_13_code
def yX8_isPart : MethodName := ⟨RX8, "isPart", "(III)Z"⟩
abbrev cX8_copy : ByteArray := prog_10_method_14_code
def yX8_copy : MethodName := ⟨RX8, "copy", "(IIIII)I"⟩
abbrev cX8_drop : ByteArray := prog_10_method_15_code
def yX8_drop : MethodName := ⟨RX8, "drop", "(I)I"⟩
abbrev cX8_feed : ByteArray := prog_10_method_16_code
def yX8_feed : MethodName := ⟨RX8, "feed", "(I)I"⟩
abbrev cX8_byteAt : ByteArray := prog_10_method_17_code
def yX8_byteAt : MethodName := ⟨RX8, "byteAt", "(I)I"⟩
abbrev cX8_advances : ByteArray := prog_10_method_18_code
def yX8_advances : MethodName := ⟨RX8, "advances", "()V"⟩
abbrev cX8_isWell : ByteArray := prog_10_method_19_code
def yX8_isWell : MethodName := ⟨RX8, "isWell", "()Z"⟩
abbrev cX8_takes : ByteArray := prog_10_method_20_code
def yX8_takes : MethodName := ⟨RX8, "takes", "(ZI)I"⟩
abbrev cX8_figure : ByteArray := prog_10_method_21_code
def yX8_figure : MethodName := ⟨RX8, "figure", "(II)I"⟩
abbrev cX8_isName : ByteArray := prog_10_method_22_code
def yX8_isName : MethodName := ⟨RX8, "isName", "()Z"⟩
abbrev cX8_readsOrder : ByteArray := prog_10_method_23_code
def yX8_readsOrder : MethodName := ⟨RX8, "readsOrder", "()V"⟩
abbrev cX8_kindOf : ByteArray := prog_10_method_24_code
def yX8_kindOf : MethodName := ⟨RX8, "kindOf", "(I)I"⟩
abbrev cX8_readsPerson : ByteArray := prog_10_method_25_code
def yX8_readsPerson : MethodName := ⟨RX8, "readsPerson", "()V"⟩
abbrev cX8_takes2 : ByteArray := prog_10_method_26_code
def yX8_takes2 : MethodName := ⟨RX8, "takes2", "(Z)V"⟩
abbrev cX8_court : ByteArray := prog_10_method_27_code
def yX8_court : MethodName := ⟨RX8, "court", "()I"⟩
abbrev cX8_fault : ByteArray := prog_10_method_28_code
def yX8_fault : MethodName := ⟨RX8, "fault", "()I"⟩
abbrev cX8_isCourt : ByteArray := prog_10_method_29_code
def yX8_isCourt : MethodName := ⟨RX8, "isCourt", "()Z"⟩
abbrev cX8_isPerson : ByteArray := prog_10_method_30_code
def yX8_isPerson : MethodName := ⟨RX8, "isPerson", "(I)Z"⟩
abbrev cX8_of : ByteArray := prog_10_method_31_code
def yX8_of : MethodName := ⟨RX8, "of", "([III)I"⟩
abbrev cX8_rank : ByteArray := prog_10_method_32_code
def yX8_rank : MethodName := ⟨RX8, "rank", "([III)I"⟩
abbrev cX8_letterOf : ByteArray := prog_10_method_33_code
def yX8_letterOf : MethodName := ⟨RX8, "letterOf", "([III)I"⟩
abbrev cX8_classOf : ByteArray := prog_10_method_34_code
def yX8_classOf : MethodName := ⟨RX8, "classOf", "([II)I"⟩
abbrev cX8_isBefore : ByteArray := prog_10_method_35_code
def yX8_isBefore : MethodName := ⟨RX8, "isBefore", "([IIII)Z"⟩
abbrev cX8_waits : ByteArray := prog_10_method_36_code
def yX8_waits : MethodName := ⟨RX8, "waits", "([II)Z"⟩
abbrev cX8_manySo : ByteArray := prog_10_method_37_code
def yX8_manySo : MethodName := ⟨RX8, "manySo", "([II)I"⟩
abbrev cX8_isLost : ByteArray := prog_10_method_38_code
def yX8_isLost : MethodName := ⟨RX8, "isLost", "([II)Z"⟩
abbrev cX8_nextBy : ByteArray := prog_10_method_39_code
def yX8_nextBy : MethodName := ⟨RX8, "nextBy", "([II)I"⟩
abbrev cX8_ages : ByteArray := prog_10_method_40_code
def yX8_ages : MethodName := ⟨RX8, "ages", "([I)V"⟩
abbrev cX8_seats : ByteArray := prog_10_method_41_code
def yX8_seats : MethodName := ⟨RX8, "seats", "([II)V"⟩
abbrev cX8_passes : ByteArray := prog_10_method_42_code
def yX8_passes : MethodName := ⟨RX8, "passes", "([II)V"⟩
abbrev cX8_notes : ByteArray := prog_10_method_43_code
def yX8_notes : MethodName := ⟨RX8, "notes", "()V"⟩
abbrev cX8_days : ByteArray := prog_10_method_44_code
def yX8_days : MethodName := ⟨RX8, "days", "(I)I"⟩
abbrev cX8_isPlaceOf : ByteArray := prog_10_method_45_code
def yX8_isPlaceOf : MethodName := ⟨RX8, "isPlaceOf", "(II)Z"⟩
abbrev cX8_forge : ByteArray := prog_10_method_46_code
def yX8_forge : MethodName := ⟨RX8, "forge", "(III)I"⟩
abbrev cX8_lose : ByteArray := prog_10_method_47_code
def yX8_lose : MethodName := ⟨RX8, "lose", "(II)I"⟩
abbrev cX8_undo : ByteArray := prog_10_method_48_code
def yX8_undo : MethodName := ⟨RX8, "undo", "()I"⟩
abbrev cX8_beforeIt : ByteArray := prog_10_method_49_code
def yX8_beforeIt : MethodName := ⟨RX8, "beforeIt", "(I)I"⟩
abbrev cX8_person : ByteArray := prog_10_method_50_code
def yX8_person : MethodName := ⟨RX8, "person", "(II)I"⟩
abbrev cX8_name : ByteArray := prog_10_method_51_code
def yX8_name : MethodName := ⟨RX8, "name", "(II)I"⟩
abbrev cX8_order : ByteArray := prog_10_method_52_code
def yX8_order : MethodName := ⟨RX8, "order", "(I)I"⟩
abbrev cX8_goes : ByteArray := prog_10_method_53_code
def yX8_goes : MethodName := ⟨RX8, "goes", "(I)V"⟩
abbrev cX8_when : ByteArray := prog_10_method_54_code
def yX8_when : MethodName := ⟨RX8, "when", "(II)I"⟩
abbrev cX8_waitedTried : ByteArray := prog_10_method_55_code
def yX8_waitedTried : MethodName := ⟨RX8, "waitedTried", "()I"⟩
abbrev cX8_waited : ByteArray := prog_10_method_56_code
def yX8_waited : MethodName := ⟨RX8, "waited", "()I"⟩
abbrev cX8_isLast : ByteArray := prog_10_method_57_code
def yX8_isLast : MethodName := ⟨RX8, "isLast", "([II)Z"⟩
abbrev cX8_power : ByteArray := prog_10_method_58_code
def yX8_power : MethodName := ⟨RX8, "power", "(II)I"⟩
abbrev cX8_lays : ByteArray := prog_10_method_59_code
def yX8_lays : MethodName := ⟨RX8, "lays", "(II)I"⟩
abbrev cX8_last : ByteArray := prog_10_method_60_code
def yX8_last : MethodName := ⟨RX8, "last", "(II)I"⟩
abbrev cX8_best : ByteArray := prog_10_method_61_code
def yX8_best : MethodName := ⟨RX8, "best", "(I)I"⟩
abbrev cX8_lines : ByteArray := prog_10_method_62_code
def yX8_lines : MethodName := ⟨RX8, "lines", "(II)Z"⟩
abbrev cX8_waitedByLine : ByteArray := prog_10_method_63_code
def yX8_waitedByLine : MethodName := ⟨RX8, "waitedByLine", "(I)I"⟩
abbrev cX8_warden : ByteArray := prog_10_method_64_code
def yX8_warden : MethodName := ⟨RX8, "warden", "(I)I"⟩
abbrev cX8_passedBy : ByteArray := prog_10_method_65_code
def yX8_passedBy : MethodName := ⟨RX8, "passedBy", "(I)I"⟩
abbrev cX8_frees : ByteArray := prog_10_method_66_code
def yX8_frees : MethodName := ⟨RX8, "frees", "(I)I"⟩
abbrev cX8_ledger : ByteArray := prog_10_method_67_code
def yX8_ledger : MethodName := ⟨RX8, "ledger", "(III)I"⟩
abbrev cX8_image : ByteArray := prog_10_method_68_code
def yX8_image : MethodName := ⟨RX8, "image", "(I)I"⟩
abbrev cX8_restore : ByteArray := prog_10_method_69_code
def yX8_restore : MethodName := ⟨RX8, "restore", "(I)I"⟩
abbrev cX8_kind : ByteArray := prog_10_method_70_code
def yX8_kind : MethodName := ⟨RX8, "kind", "(I)I"⟩
abbrev cX8_as : ByteArray := prog_10_method_71_code
def yX8_as : MethodName := ⟨RX8, "as", "(II)I"⟩
abbrev cX8_begins : ByteArray := prog_10_method_72_code
def yX8_begins : MethodName := ⟨RX8, "begins", "(I)V"⟩
abbrev cX8_plainMark : ByteArray := prog_10_method_73_code
def yX8_plainMark : MethodName := ⟨RX8, "plainMark", "(I)I"⟩
abbrev cX8_saintSize : ByteArray := prog_10_method_74_code
def yX8_saintSize : MethodName := ⟨RX8, "saintSize", "(I)I"⟩
abbrev cX8_plainSize : ByteArray := prog_10_method_75_code
def yX8_plainSize : MethodName := ⟨RX8, "plainSize", "(I)I"⟩
abbrev cX8_saintMark : ByteArray := prog_10_method_76_code
def yX8_saintMark : MethodName := ⟨RX8, "saintMark", "(I)I"⟩
abbrev cX8_ask : ByteArray := prog_10_method_77_code
def yX8_ask : MethodName := ⟨RX8, "ask", "(II)I"⟩
abbrev cX8_trace : ByteArray := prog_10_method_78_code
def yX8_trace : MethodName := ⟨RX8, "trace", "(I)I"⟩
abbrev cX8_count : ByteArray := prog_10_method_79_code
def yX8_count : MethodName := ⟨RX8, "count", "(I)I"⟩
abbrev cX8_status : ByteArray := prog_10_method_80_code
def yX8_status : MethodName := ⟨RX8, "status", "()I"⟩
def RL : String := "AlphaCourtLaw"
abbrev cL_law : ByteArray := code
def yL_law : MethodName := ⟨RL, "law", "([I)Z"⟩
abbrev vwCl : List vw_C := [(RX0, TX0, 6), (RX1, TX1, 2), (RX2, TX2, 16), (RX3, TX3, 6), (RX4, TX4, 8), (RX5, TX5, 1), (RX6, TX6, 3), (RX7, TX7, 11), (RX8, TX8, 27)]
end
section
/-! The frame: a memory of whole numbers over a fixed set of cells; G: from here the method comes to its end with Q. -/
abbrev Vl : Type := Int ⊕ Nat
abbrev Mem : Type := Nat → Int → Int
abbrev Mth : Type := String × ByteArray × Nat × Option FieldType × MethodName
def mO (y : Mth) : String := y.1
def mC (y : Mth) : ByteArray := y.2.1
def mL (y : Mth) : Nat := y.2.2.1
def mR (y : Mth) : Option FieldType := y.2.2.2.1
def mN (y : Mth) : MethodName := y.2.2.2.2
def TB : List Cond := lw_tbl.filter goodWord
def mW (y : Mth) : List Cond := Cond.code (mN y) (mC y) (mL y) (mR y) :: TB
/-- the launch, the first of our cells, where each cell lies, the classes, the arrays' classes, the tables that nobody writes, the script's length -/
abbrev Ex : Type := Launch × Nat × (Nat → Nat) × va_G × (Nat → ClassId) × (Nat → Nat → Int) × Nat
def eLn (E : Ex) : Launch := E.1
def eZ (E : Ex) : Nat := E.2.1
def eA (E : Ex) : Nat → Nat := E.2.2.1
def eD (E : Ex) : va_G := E.2.2.2.1
def eK (E : Ex) : Nat → ClassId := E.2.2.2.2.1
def eR (E : Ex) : Nat → Nat → Int := E.2.2.2.2.2.1
def eS (E : Ex) : Nat := E.2.2.2.2.2.2
def fr (E : Ex) : Nat → Prop := fun q => eZ E ≤ q
def roN (E : Ex) (i : Nat) : Nat := if i = 4 then eS E else 6
def tys (E : Ex) : List (ClassId × FieldType) := [(eK E 0, .int), (eK E 1, .boolean), (eK E 2, .object "AlphaCourt$Row"), (eK E 3, .object "AlphaCourt$Court")]
def sC (i : Nat) : String := if i < 2 then "AlphaCourt" else "AlphaCourt$Asks"
def sN (i : Nat) : String := if i = 0 then "WIDER_KIND" else if i = 1 then "GROUP" else if i = 2 then "SIZE_BODY" else "MARK_BODY"
def St (E : Ex) (U : State) (H : Heap) : Prop := va_K (eD E) vwCl (tys E) U ∧ (∀ i, i < 5 → va_T .int (eA E (100 + i)) (roN E i) (fun j => .int (Int32.ofInt (eR E i j))) (fr E) U H) ∧ (∀ i, i < 4 → va_Z (sC i) (sN i) "[I" (.ref (eA E (100 + i))) (fr E) U H) ∧ ∀ (a : String) (i : Nat) (b n d h : String), Cond.fieldLinkNest a i b n d h ∈ lw_tbl → va_Nw (.fieldLinkNest a i b n d h) U
def Eok (E : Ex) : Prop := (∀ i j, i < 100 → j < 100 → eA E i = eA E j → i = j) ∧ (∀ i, i < 100 → eZ E ≤ eA E i) ∧ eS E < 2 ^ 31
/-- the shape of a cell: 0 ints, 1 booleans, 2 rows, 3 courts, 4 + c an object of class c (its fields: 0 a number, r + 1 the cell r) -/
def coL (c : Nat) : List (Nat × Nat × List Nat) := [(6, 16, [0, 0, 0, 0, 0, 0, c + 2, c + 3, c + 4, c + 5, c + 6, c + 7, c + 8, c + 9, c + 10, 0]), (0, 8, []), (0, 8, []), (0, 6, []), (0, 6, []), (0, 24, []), (0, 6, []), (0, 6, []), (0, 6, []), (0, 6, [])]
def roL (c : Nat) : List (Nat × Nat × List Nat) := [(10, 3, [c + 2, 0, 0]), (0, 40, [])]
def shL : List (Nat × Nat × List Nat) := [(11, 11, [2, 3, 5, 15, 25, 26, 31, 42, 46, 0, 0]), (2, 8, [47, 49, 51, 53, 55, 57, 59, 61]), (8, 8, [4, 0, 0, 0, 0, 0, 0, 0]), (0, 120, [])] ++ coL 4 ++ coL 14 ++ [(3, 2, [63, 73]), (4, 6, [27, 28, 29, 30, 0, 0]), (0, 24, []), (0, 24, []), (0, 24, []), (0, 24, []), (9, 1, [32])] ++ coL 31 ++ [(7, 6, [43, 0, 0, 44, 45, 0]), (0, 6, []), (0, 6, []), (0, 4, []), (5, 2, [47, 0]), (0, 16, [])] ++ roL 47 ++ roL 49 ++ roL 51 ++ roL 53 ++ roL 55 ++ roL 57 ++ roL 59 ++ roL 61 ++ coL 63 ++ coL 73 ++ [(12, 27, [85, 86, 87, 88, 0, 89, 0, 0, 0, 0, 0, 0, 0, 90, 91, 92, 93, 0, 94, 95, 96, 0, 97, 0, 98, 99, 100]), (0, 8, []), (0, 8, []), (0, 320, []), (0, 40, []), (0, 120, []), (0, 91, []), (0, 91, []), (0, 91, []), (0, 2184, []), (0, 182, []), (1, 2, []), (0, 16, []), (0, 6, []), (0, 6, []), (0, 6, []), (0, 6, [])]
def shp (k : Nat) : Nat × Nat × List Nat := shL.getD k (0, 0, [])
theorem shL_len : shL.length = 100 := by decide +kernel
theorem shp_lt {k t n : Nat} {rs : List Nat} (h : shp k = (t, n, rs)) (h2 : t ≠ 0 ∨ 0 < n) : k < 100 := by
  rcases Nat.lt_or_ge k 100 with q | q
  · exact q
  · unfold shp at h
    rw [List.getD_eq_getElem?_getD, List.getElem?_eq_none (by rw [shL_len]; exact q)] at h
    simp only [Option.getD_none, Prod.mk.injEq] at h
    obtain ⟨h3, h4, -⟩ := h
    rcases h2 with h2 | h2 <;> omega
def fl (E : Ex) (μ : Mem) (k : Nat) : Nat → List Nat → List Value
  | _, [] => []
  | j, r :: t => (if r = 0 then Value.int (Int32.ofInt (μ k j)) else .ref (eA E (r - 1))) :: fl E μ k (j + 1) t
def ent (E : Ex) (μ : Mem) (k : Nat) : va_E := match shp k with
  | (0, n, _) => .inl (eK E 0, n, .inl (fun j => Int32.ofInt (μ k (j : Nat))))
  | (1, n, _) => .inl (eK E 1, n, .inl (fun j => Int32.ofInt (μ k (j : Nat))))
  | (2, n, rs) => .inl (eK E 2, n, .inr (.inr (.inr (.inr (fun j => (rs[j]?).map (eA E))))))
  | (3, n, rs) => .inl (eK E 3, n, .inr (.inr (.inr (.inr (fun j => (rs[j]?).map (eA E))))))
  | (t + 4, _, rs) => .inr (t, fl E μ k 0 rs)
def wl (E : Ex) (μ : Mem) : va_W := (List.range 100).map (fun k => (eA E k, ent E μ k))
def up (μ : Mem) (k : Nat) (i v : Int) : Mem := fun k' i' => if k' = k ∧ i' = i then v else μ k' i'
theorem wl_at {E : Ex} {μ : Mem} {k : Nat} (hk : k < 100) : (wl E μ)[k]? = some (eA E k, ent E μ k) := by
  unfold wl
  rw [List.getElem?_map, List.getElem?_range hk]
  rfl
theorem wl_some {E : Ex} {μ : Mem} {k : Nat} {q : Nat × va_E} (h : (wl E μ)[k]? = some q) : k < 100 ∧ q = (eA E k, ent E μ k) := by
  have hk : k < 100 := by
    have := (List.getElem?_eq_some_iff.mp h).1
    simpa [wl] using this
  rw [wl_at hk] at h
  exact ⟨hk, (Option.some.inj h).symm⟩
theorem wl_D {E : Ex} {μ : Mem} (hE : Eok E) : va_D (fr E) (wl E μ) := by
  refine ⟨fun i j p q hi hj h => ?_, fun k q hk => ?_⟩
  · obtain ⟨a, rfl⟩ := wl_some hi
    obtain ⟨b, rfl⟩ := wl_some hj
    exact hE.1 i j a b h
  · obtain ⟨a, rfl⟩ := wl_some hk
    exact hE.2.1 k a
theorem fl_congr {E : Ex} {μ μ' : Mem} {k : Nat} (h : μ k = μ' k) : ∀ (rs : List Nat) (j : Nat), fl E μ k j rs = fl E μ' k j rs
  | [], _ => rfl
  | r :: t, j => by rw [fl, fl, h, fl_congr h t]
theorem ent_congr {E : Ex} {μ μ' : Mem} {k : Nat} (h : μ k = μ' k) : ent E μ k = ent E μ' k := by
  unfold ent
  split <;> first | rw [h] | rw [fl_congr h] | rfl
theorem up_ne {μ : Mem} {k k' : Nat} {i v : Int} (h : k' ≠ k) : up μ k i v k' = μ k' := by
  funext j
  simp [up, h]
theorem wl_set {E : Ex} {μ : Mem} {k : Nat} {i v : Int} {x : va_E} (hk : k < 100) (hx : x = ent E (up μ k i v) k) : (wl E μ).set k (eA E k, x) = wl E (up μ k i v) := by
  subst hx
  refine List.ext_getElem? fun j => ?_
  by_cases hj : j = k
  · subst hj
    rw [List.getElem?_set_self (by simpa [wl] using hk), wl_at hk]
  · rw [List.getElem?_set_ne (Ne.symm hj)]
    by_cases hl : j < 100
    · rw [wl_at hl, wl_at hl, ent_congr (up_ne hj)]
    · rw [List.getElem?_eq_none (by simp [wl]; omega), List.getElem?_eq_none (by simp [wl]; omega)]
theorem fl_at {E : Ex} {μ : Mem} {k : Nat} : ∀ (rs : List Nat) (j0 j r : Nat), rs[j]? = some r → (fl E μ k j0 rs)[j]? = some (if r = 0 then Value.int (Int32.ofInt (μ k ((j0 + j : Nat)))) else .ref (eA E (r - 1)))
  | [], j0, j, r, h => by simp at h
  | a :: t, j0, 0, r, h => by
    simp only [List.getElem?_cons_zero, Option.some.injEq] at h
    subst h
    rfl
  | a :: t, j0, j + 1, r, h => by
    rw [List.getElem?_cons_succ] at h
    rw [fl, List.getElem?_cons_succ, fl_at t (j0 + 1) j r h, show j0 + 1 + j = j0 + (j + 1) by omega]
theorem fl_len {E : Ex} {μ : Mem} {k : Nat} : ∀ (rs : List Nat) (j0 : Nat), (fl E μ k j0 rs).length = rs.length
  | [], _ => rfl
  | a :: t, j0 => by rw [fl, List.length_cons, List.length_cons, fl_len t]
theorem fl_set {E : Ex} {μ : Mem} {k : Nat} {v : Int} : ∀ (rs : List Nat) (j0 j : Nat), rs[j]? = some 0 → (fl E μ k j0 rs).set j (.int (Int32.ofInt v)) = fl E (up μ k ((j0 + j : Nat)) v) k j0 rs
  | [], j0, j, h => by simp at h
  | a :: t, j0, 0, h => by
    simp only [List.getElem?_cons_zero, Option.some.injEq] at h
    subst h
    rw [fl, fl, List.set_cons_zero]
    congr 1
    · simp [up]
    · have key : ∀ (rs : List Nat) (j : Nat), j0 < j → fl E μ k j rs = fl E (up μ k ((j0 + 0 : Nat)) v) k j rs := by
        intro rs
        induction rs with
        | nil => intro j _; rfl
        | cons b u ih =>
          intro j hj
          rw [fl, fl, ih (j + 1) (by omega)]
          have : up μ k ((j0 + 0 : Nat)) v k j = μ k j := by
            unfold up
            rw [if_neg]
            rintro ⟨-, h⟩
            omega
          rw [this]
      exact key t (j0 + 1) (by omega)
  | a :: t, j0, j + 1, h => by
    rw [List.getElem?_cons_succ] at h
    rw [fl, fl, List.set_cons_succ, fl_set t (j0 + 1) j h, show j0 + 1 + j = j0 + (j + 1) by omega]
    congr 1
    have : up μ k ((j0 + (j + 1) : Nat)) v k j0 = μ k j0 := by
      unfold up
      rw [if_neg]
      rintro ⟨-, h⟩
      omega
    rw [this]
abbrev inR (x : Int) : Prop := -2147483648 ≤ x ∧ x < 2147483648
theorem inR_toInt {x : Int} (h : inR x) : (Int32.ofInt x).toInt = x := Int32.toInt_ofInt_of_le (by have := h.1; omega) (by have := h.2; omega)
theorem inR_clamp {x : Int} (h : inR x) : (Int32.ofInt x).toNatClampNeg = x.toNat := Int32.toNatClampNeg_ofInt_of_le (by have := h.1; omega) (by have := h.2; omega)
theorem inR_lt {x y : Int} (hx : inR x) (hy : inR y) : Int32.ofInt x < Int32.ofInt y ↔ x < y := by rw [Int32.lt_iff_toInt_lt, inR_toInt hx, inR_toInt hy]
theorem inR_le {x y : Int} (hx : inR x) (hy : inR y) : Int32.ofInt x ≤ Int32.ofInt y ↔ x ≤ y := by rw [Int32.le_iff_toInt_le, inR_toInt hx, inR_toInt hy]
theorem inR_eq {x y : Int} (hx : inR x) (hy : inR y) : Int32.ofInt x = Int32.ofInt y ↔ x = y := by rw [← Int32.toInt_inj, inR_toInt hx, inR_toInt hy]
theorem inR_of (x : Int32) : inR x.toInt := ⟨by have := x.le_toInt; omega, by have := x.toInt_lt; omega⟩
theorem ofI0 : Int32.ofInt 0 = 0 := rfl
theorem inR0 : inR 0 := by unfold inR; omega
theorem inR_vp {x : Int} {n : Nat} (hn : n < 2 ^ 31) (h1 : 0 ≤ x) (h2 : x < n) : vp_in (Int32.ofInt x) n := by
  have hr : inR x := by unfold inR; omega
  rw [vp_in_iff, inR_toInt hr]
  exact ⟨h1, h2⟩
def tv (E : Ex) : Vl → Value
  | .inl x => .int (Int32.ofInt x)
  | .inr k => .ref (eA E k)
theorem tv_cat (E : Ex) (v : Vl) : (tv E v).category = 1 := by cases v <;> rfl
theorem tv_sum (E : Ex) : ∀ st : List Vl, ((st.map (tv E)).map fun v => v.category).sum = st.length
  | [] => rfl
  | a :: t => by rw [List.map_cons, List.map_cons, List.sum_cons, tv_sum E t, tv_cat, List.length_cons]; omega
def LcS (E : Ex) (lsA : Array Slot) (n : Nat) (ls : List (Option Vl)) : Prop := lsA.size = n ∧ lv_wf lsA ∧ ∀ (i : Nat) (v : Vl), ls[i]? = some (some v) → lsA[i]? = some (.val (tv E v))
def lsP (E : Ex) (ls : List (Option Vl)) : List (Nat × Value) := (List.range ls.length).filterMap (fun i => match ls[i]? with | some (some v) => some (i, tv E v) | _ => none)
theorem lsP_mem {E : Ex} {ls : List (Option Vl)} {q : Nat × Value} : q ∈ lsP E ls ↔ ∃ v, ls[q.1]? = some (some v) ∧ q.2 = tv E v := by
  unfold lsP
  rw [List.mem_filterMap]
  constructor
  · rintro ⟨i, hi, h⟩
    split at h
    · next v hv =>
      cases h
      exact ⟨v, hv, rfl⟩
    · cases h
  · rintro ⟨v, h1, h2⟩
    refine ⟨q.1, ?_, ?_⟩
    · rw [List.mem_range]
      exact (List.getElem?_eq_some_iff.mp h1).1
    · rw [h1]
      show some (q.1, tv E v) = some q
      rw [← h2]
theorem LcS.has {E : Ex} {lsA : Array Slot} {n : Nat} {ls : List (Option Vl)} (h : LcS E lsA n ls) : lv_has lsA n (lsP E ls) := by
  refine ⟨h.1, h.2.1, fun q hq => ?_⟩
  obtain ⟨v, h1, h2⟩ := lsP_mem.mp hq
  rw [h2]
  exact h.2.2 q.1 v h1
theorem LcS.set {E : Ex} {lsA : Array Slot} {n i : Nat} {ls : List (Option Vl)} {v : Vl} {w : Value} (hw : w = tv E v) (h : lv_has lsA n ((i, w) :: (lsP E ls).filter (fun q => !(q.1 == i) && !(q.1 + 1 == i && q.2.category == 2)))) : LcS E lsA n (ls.set i (some v)) := by
  subst hw
  refine ⟨h.1, h.2.1, fun j u hj => ?_⟩
  by_cases hij : j = i
  · subst hij
    have hl := (List.getElem?_eq_some_iff.mp hj).1
    rw [List.length_set] at hl
    rw [List.getElem?_set_self hl] at hj
    cases hj
    exact h.2.2 (j, tv E v) List.mem_cons_self
  · rw [List.getElem?_set_ne (Ne.symm hij)] at hj
    refine h.2.2 (j, tv E u) (List.mem_cons_of_mem _ (List.mem_filter.mpr ⟨lsP_mem.mpr ⟨u, hj, rfl⟩, ?_⟩))
    simp [hij, tv_cat]
def en0 (n : Nat) (as : List Vl) : List (Option Vl) := as.map some ++ List.replicate (n - as.length) none
theorem args_mem (E : Ex) : ∀ (as : List Vl) (i0 j : Nat) (v : Vl), as[j]? = some v → (i0 + j, tv E v) ∈ lv_args i0 (as.map (tv E))
  | [], _, _, _, h => by simp at h
  | a :: t, i0, 0, v, h => by
    simp only [List.getElem?_cons_zero, Option.some.injEq] at h
    subst h
    exact List.mem_cons_self
  | a :: t, i0, j + 1, v, h => by
    rw [List.getElem?_cons_succ] at h
    rw [List.map_cons, lv_args, if_neg (by rw [tv_cat]; decide)]
    refine List.mem_cons_of_mem _ ?_
    have := args_mem E t (i0 + 1) j v h
    rwa [show i0 + 1 + j = i0 + (j + 1) by omega] at this
theorem sl_len (E : Ex) : ∀ as : List Vl, (lg_sl (as.map (tv E))).length = as.length
  | [] => rfl
  | a :: t => by
    have := sl_len E t
    simp only [lg_sl, List.map_cons, List.flatMap_cons, tv_cat, List.length_append, List.length_cons] at this ⊢
    rw [if_neg (by decide)]
    simp only [List.length_cons, List.length_nil]
    omega
theorem LcS.entry (E : Ex) {as : List Vl} {n : Nat} (h : as.length ≤ n) : LcS E ((lg_sl (as.map (tv E)) ++ List.replicate (n - (lg_sl (as.map (tv E))).length) Slot.unset).toArray) n (en0 n as) := by
  have hl := lv_entry (as.map (tv E)) (n := n) (by rw [sl_len]; exact h)
  refine ⟨hl.1, hl.2.1, fun i v hi => ?_⟩
  unfold en0 at hi
  have hlt : i < as.length := by
    rcases Nat.lt_or_ge i as.length with q | q
    · exact q
    · rw [List.getElem?_append_right (by simpa using q)] at hi
      have := List.mem_of_getElem? hi
      rw [List.mem_replicate] at this
      exact absurd this.2 (by simp)
  rw [List.getElem?_append_left (by simpa using hlt), List.getElem?_map] at hi
  have hv : as[i]? = some v := by
    cases hq : as[i]? with
    | none => rw [hq] at hi; cases hi
    | some u => rw [hq] at hi; simpa using hi
  have := hl.2.2 _ (args_mem E as 0 i v hv)
  simpa using this
end
section
/-- what holds of the machine in a body of the method y, with room for d frames more -/
def Cx (E : Ex) (y : Mth) (d : Nat) (p : Program) (R : Room) (s : State) (m : MethodId) (args : Array Value) (c : Code) (cells slots : Nat) : Prop :=
  Eok E ∧ p.tables.exec = Jvm.exec ∧ c.code = mC y ∧ c.maxLocals = mL y ∧ s.vm.findClass (mO y) = some m.cls ∧ (∀ w ∈ TB, w.before args s = true) ∧ (d ≤ R.frames ∧ 40 * d + 24 ≤ R.locals) ∧ (cells ≤ R.cells ∧ slots ≤ R.slots) ∧ St E s s.heap
def retOk (y : Mth) (pc : Nat) : Option Vl → Prop
  | none => decode (mC y) pc = .ok (.return_, 1) ∧ mR y = none
  | some (.inl x) => decode (mC y) pc = .ok (.ireturn, 1) ∧ (mR y = some .int ∨ (mR y = some .boolean ∧ (x = 0 ∨ x = 1)))
  | some (.inr _) => decode (mC y) pc = .ok (.areturn, 1) ∧ ∃ C, mR y = some (.object C)
/-- from here the method comes to its end, with an answer and a memory as Q has it -/
def Gg (E : Ex) (d : Nat) (y : Mth) (pc : Nat) (ls : List (Option Vl)) (st : List Vl) (μ : Mem) (Q : Option Vl → Mem → Prop) : Prop :=
  ∀ (p : Program) (e : Env) (R : Room) (s : State) (m : MethodId) (args : Array Value) (below : List Frame) (meth : Method) (c : Code) (H : Heap) (locs : List Loc) (cells slots : Nat) (lsA : Array Slot) (QQ : State → Prop),
    Cx E y d p R s m args c cells slots → va_P (eD E) vwCl (wl E μ) H → va_S (fr E) s.heap H locs → LcS E lsA (mL y) ls →
    (∀ (v : Option Vl) (μ' : Mem) (H' : Heap) (locs' : List Loc) (pc' : Nat) (ls' : Array Slot), Q v μ' → va_P (eD E) vwCl (wl E μ') H' → va_S (fr E) s.heap H' locs' → retOk y pc' v →
      W p (eLn E) e R s m args below meth c H' locs' cells slots QQ (F0 m pc' ls' (v.toList.map (tv E)))) →
    W p (eLn E) e R s m args below meth c H locs cells slots QQ (F0 m pc lsA (st.map (tv E)))
def Cl (E : Ex) (d : Nat) (y : Mth) (as : List Vl) (μ : Mem) (Q : Option Vl → Mem → Prop) : Prop := Gg E d y 0 (en0 (mL y) as) [] μ Q
theorem inR_eq0 {x : Int} (h : inR x) : Int32.ofInt x = 0 ↔ x = 0 := inR_eq h inR0
theorem inR_ne0 {x : Int} (h : inR x) : ¬ Int32.ofInt x = 0 ↔ x ≠ 0 := not_congr (inR_eq h inR0)
theorem inR_lt0 {x : Int} (h : inR x) : Int32.ofInt x < 0 ↔ x < 0 := inR_lt h inR0
theorem inR_ge0 {x : Int} (h : inR x) : 0 ≤ Int32.ofInt x ↔ x ≥ 0 := inR_le inR0 h
theorem inR_gt0 {x : Int} (h : inR x) : 0 < Int32.ofInt x ↔ x > 0 := inR_lt inR0 h
theorem inR_le0 {x : Int} (h : inR x) : Int32.ofInt x ≤ 0 ↔ x ≤ 0 := inR_le h inR0
theorem inR_eq2 {x y : Int} (h : inR x) (k : inR y) : Int32.ofInt x = Int32.ofInt y ↔ x = y := inR_eq h k
theorem inR_ne2 {x y : Int} (h : inR x) (k : inR y) : ¬ Int32.ofInt x = Int32.ofInt y ↔ x ≠ y := not_congr (inR_eq h k)
theorem inR_lt2 {x y : Int} (h : inR x) (k : inR y) : Int32.ofInt x < Int32.ofInt y ↔ x < y := inR_lt h k
theorem inR_ge2 {x y : Int} (h : inR x) (k : inR y) : Int32.ofInt y ≤ Int32.ofInt x ↔ x ≥ y := inR_le k h
theorem inR_gt2 {x y : Int} (h : inR x) (k : inR y) : Int32.ofInt y < Int32.ofInt x ↔ x > y := inR_lt k h
theorem inR_le2 {x y : Int} (h : inR x) (k : inR y) : Int32.ofInt x ≤ Int32.ofInt y ↔ x ≤ y := inR_le h k
section Rules
variable {E : Ex} {d : Nat} {y : Mth} {pc q : Nat} {ls : List (Option Vl)} {st : List Vl} {μ : Mem} {Q : Option Vl → Mem → Prop}
theorem Gg.mono {d' : Nat} (h : d ≤ d') (k : Gg E d y pc ls st μ Q) : Gg E d' y pc ls st μ Q := by
  intro p e R s m args below meth c H locs cells slots lsA QQ C
  obtain ⟨h1, h2, h3, h4, h5, h6, h7, h8, h9⟩ := C
  exact k p e R s m args below meth c H locs cells slots lsA QQ ⟨h1, h2, h3, h4, h5, h6, ⟨Nat.le_trans h h7.1, by have := h7.2; omega⟩, h8, h9⟩
theorem Gg.imp {Q' : Option Vl → Mem → Prop} (k : Gg E d y pc ls st μ Q) (h : ∀ v μ', Q v μ' → Q' v μ') : Gg E d y pc ls st μ Q' := by
  intro p e R s m args below meth c H locs cells slots lsA QQ C hP hS hl hr
  exact k p e R s m args below meth c H locs cells slots lsA QQ C hP hS hl (fun v μ' H' locs' pc' ls' hq => hr v μ' H' locs' pc' ls' (h v μ' hq))
theorem Cl.mono {d' : Nat} {as : List Vl} (h : d ≤ d') (k : Cl E d y as μ Q) : Cl E d' y as μ Q := Gg.mono h k
theorem Cl.imp {Q' : Option Vl → Mem → Prop} {as : List Vl} (k : Cl E d y as μ Q) (h : ∀ v μ', Q v μ' → Q' v μ') : Cl E d y as μ Q' := Gg.imp k h
theorem r_iconst {n : Int} (hd : decode (mC y) pc = .ok (.iconst n, 1)) (hq : pc + 1 = q) (k : Gg E d y q ls (.inl n :: st) μ Q) : Gg E d y pc ls st μ Q := by
  intro p e R s m args below meth c H locs cells slots lsA QQ C hP hS hl hr
  obtain ⟨hE, hx, hb, hml, hown, hts, hR, hc, hSt⟩ := id C
  subst hq
  exact lv_iconst (v := Int32.ofInt n) hx hb hd rfl (k p e R s m args below meth c H locs cells slots lsA QQ C hP hS hl hr)
theorem r_bipush {n : Int} (hd : decode (mC y) pc = .ok (.bipush n, 2)) (hq : pc + 2 = q) (hv : (Int8.ofInt n).toInt32 = Int32.ofInt n) (k : Gg E d y q ls (.inl n :: st) μ Q) : Gg E d y pc ls st μ Q := by
  intro p e R s m args below meth c H locs cells slots lsA QQ C hP hS hl hr
  obtain ⟨hE, hx, hb, hml, hown, hts, hR, hc, hSt⟩ := id C
  subst hq
  exact lv_bipush (v := Int32.ofInt n) hx hb hd hv (k p e R s m args below meth c H locs cells slots lsA QQ C hP hS hl hr)
theorem r_sipush {n : Int} (hd : decode (mC y) pc = .ok (.sipush n, 3)) (hq : pc + 3 = q) (hv : (Int16.ofInt n).toInt32 = Int32.ofInt n) (k : Gg E d y q ls (.inl n :: st) μ Q) : Gg E d y pc ls st μ Q := by
  intro p e R s m args below meth c H locs cells slots lsA QQ C hP hS hl hr
  obtain ⟨hE, hx, hb, hml, hown, hts, hR, hc, hSt⟩ := id C
  subst hq
  exact lv_sipush (v := Int32.ofInt n) hx hb hd hv (k p e R s m args below meth c H locs cells slots lsA QQ C hP hS hl hr)
theorem r_ldc {idx : Nat} {n : Int} (hd : decode (mC y) pc = .ok (.ldc idx, 2)) (hq : pc + 2 = q) (hw : Cond.constant (mO y) idx (Int32.ofInt n) ∈ TB) (k : Gg E d y q ls (.inl n :: st) μ Q) : Gg E d y pc ls st μ Q := by
  intro p e R s m args below meth c H locs cells slots lsA QQ C hP hS hl hr
  obtain ⟨hE, hx, hb, hml, hown, hts, hR, hc, hSt⟩ := id C
  subst hq
  exact lv_ldc (v := Int32.ofInt n) hx hb hown (hts _ hw) hd (k p e R s m args below meth c H locs cells slots lsA QQ C hP hS hl hr)
theorem r_ldcw {idx : Nat} {n : Int} (hd : decode (mC y) pc = .ok (.ldc_w idx, 3)) (hq : pc + 3 = q) (hw : Cond.constant (mO y) idx (Int32.ofInt n) ∈ TB) (k : Gg E d y q ls (.inl n :: st) μ Q) : Gg E d y pc ls st μ Q := by
  intro p e R s m args below meth c H locs cells slots lsA QQ C hP hS hl hr
  obtain ⟨hE, hx, hb, hml, hown, hts, hR, hc, hSt⟩ := id C
  subst hq
  exact lv_ldcw (v := Int32.ofInt n) hx hb hown (hts _ hw) hd (k p e R s m args below meth c H locs cells slots lsA QQ C hP hS hl hr)
theorem r_iloadn {n : Fin 4} {x : Int} (hd : decode (mC y) pc = .ok (.iload_n n, 1)) (hq : pc + 1 = q) (hx0 : ls[(n : Nat)]? = some (some (.inl x))) (k : Gg E d y q ls (.inl x :: st) μ Q) : Gg E d y pc ls st μ Q := by
  intro p e R s m args below meth c H locs cells slots lsA QQ C hP hS hl hr
  obtain ⟨hE, hx, hb, hml, hown, hts, hR, hc, hSt⟩ := id C
  subst hq
  exact lv_iload_n hx hb hd rfl (hl.2.2 _ _ hx0) (k p e R s m args below meth c H locs cells slots lsA QQ C hP hS hl hr)
theorem r_iload {n : Nat} {x : Int} (hd : decode (mC y) pc = .ok (.iload n, 2)) (hq : pc + 2 = q) (hx0 : ls[n]? = some (some (.inl x))) (k : Gg E d y q ls (.inl x :: st) μ Q) : Gg E d y pc ls st μ Q := by
  intro p e R s m args below meth c H locs cells slots lsA QQ C hP hS hl hr
  obtain ⟨hE, hx, hb, hml, hown, hts, hR, hc, hSt⟩ := id C
  subst hq
  exact lv_iload hx hb hd (hl.2.2 _ _ hx0) (k p e R s m args below meth c H locs cells slots lsA QQ C hP hS hl hr)
theorem r_aloadn {n : Fin 4} {x : Nat} (hd : decode (mC y) pc = .ok (.aload_n n, 1)) (hq : pc + 1 = q) (hx0 : ls[(n : Nat)]? = some (some (.inr x))) (k : Gg E d y q ls (.inr x :: st) μ Q) : Gg E d y pc ls st μ Q := by
  intro p e R s m args below meth c H locs cells slots lsA QQ C hP hS hl hr
  obtain ⟨hE, hx, hb, hml, hown, hts, hR, hc, hSt⟩ := id C
  subst hq
  exact lv_aload_n hx hb hd rfl (hl.2.2 _ _ hx0) (k p e R s m args below meth c H locs cells slots lsA QQ C hP hS hl hr)
theorem r_aload {n : Nat} {x : Nat} (hd : decode (mC y) pc = .ok (.aload n, 2)) (hq : pc + 2 = q) (hx0 : ls[n]? = some (some (.inr x))) (k : Gg E d y q ls (.inr x :: st) μ Q) : Gg E d y pc ls st μ Q := by
  intro p e R s m args below meth c H locs cells slots lsA QQ C hP hS hl hr
  obtain ⟨hE, hx, hb, hml, hown, hts, hR, hc, hSt⟩ := id C
  subst hq
  exact lv_aload hx hb hd (hl.2.2 _ _ hx0) (k p e R s m args below meth c H locs cells slots lsA QQ C hP hS hl hr)
theorem r_istoren {n : Fin 4} {x : Int} (hd : decode (mC y) pc = .ok (.istore_n n, 1)) (hq : pc + 1 = q) (hn : (n : Nat) < mL y) (k : Gg E d y q (ls.set (n : Nat) (some (.inl x))) st μ Q) : Gg E d y pc ls (.inl x :: st) μ Q := by
  intro p e R s m args below meth c H locs cells slots lsA QQ C hP hS hl hr
  obtain ⟨hE, hx, hb, hml, hown, hts, hR, hc, hSt⟩ := id C
  subst hq
  exact lv_istore_n hx hb hd rfl hl.has hn rfl (fun ls' h' => k p e R s m args below meth c H locs cells slots ls' QQ C hP hS (LcS.set (v := .inl x) rfl h') hr)
theorem r_istore {n : Nat} {x : Int} (hd : decode (mC y) pc = .ok (.istore n, 2)) (hq : pc + 2 = q) (hn : n < mL y) (k : Gg E d y q (ls.set n (some (.inl x))) st μ Q) : Gg E d y pc ls (.inl x :: st) μ Q := by
  intro p e R s m args below meth c H locs cells slots lsA QQ C hP hS hl hr
  obtain ⟨hE, hx, hb, hml, hown, hts, hR, hc, hSt⟩ := id C
  subst hq
  exact lv_istore hx hb hd hl.has hn rfl (fun ls' h' => k p e R s m args below meth c H locs cells slots ls' QQ C hP hS (LcS.set (v := .inl x) rfl h') hr)
theorem r_astoren {n : Fin 4} {x : Nat} (hd : decode (mC y) pc = .ok (.astore_n n, 1)) (hq : pc + 1 = q) (hn : (n : Nat) < mL y) (k : Gg E d y q (ls.set (n : Nat) (some (.inr x))) st μ Q) : Gg E d y pc ls (.inr x :: st) μ Q := by
  intro p e R s m args below meth c H locs cells slots lsA QQ C hP hS hl hr
  obtain ⟨hE, hx, hb, hml, hown, hts, hR, hc, hSt⟩ := id C
  subst hq
  exact lv_astore_n hx hb hd rfl hl.has hn rfl (fun ls' h' => k p e R s m args below meth c H locs cells slots ls' QQ C hP hS (LcS.set (v := .inr x) rfl h') hr)
theorem r_astore {n : Nat} {x : Nat} (hd : decode (mC y) pc = .ok (.astore n, 2)) (hq : pc + 2 = q) (hn : n < mL y) (k : Gg E d y q (ls.set n (some (.inr x))) st μ Q) : Gg E d y pc ls (.inr x :: st) μ Q := by
  intro p e R s m args below meth c H locs cells slots lsA QQ C hP hS hl hr
  obtain ⟨hE, hx, hb, hml, hown, hts, hR, hc, hSt⟩ := id C
  subst hq
  exact lv_astore hx hb hd hl.has hn rfl (fun ls' h' => k p e R s m args below meth c H locs cells slots ls' QQ C hP hS (LcS.set (v := .inr x) rfl h') hr)
theorem r_iinc {n : Nat} {w x : Int} (hd : decode (mC y) pc = .ok (.iinc n w, 3)) (hq : pc + 3 = q) (hx0 : ls[n]? = some (some (.inl x))) (hn : n < mL y) (k : Gg E d y q (ls.set n (some (.inl (x + w)))) st μ Q) : Gg E d y pc ls st μ Q := by
  intro p e R s m args below meth c H locs cells slots lsA QQ C hP hS hl hr
  obtain ⟨hE, hx, hb, hml, hown, hts, hR, hc, hSt⟩ := id C
  subst hq
  obtain ⟨j, hj⟩ := List.getElem?_of_mem (lsP_mem (E := E) (ls := ls) (q := (n, tv E (.inl x))) |>.mpr ⟨_, hx0, rfl⟩)
  exact lv_iinc (v := Int32.ofInt (x + w)) hx hb hd hl.has hj (by rw [Int32.ofInt_add]) hn rfl (fun ls' h' => k p e R s m args below meth c H locs cells slots ls' QQ C hP hS (LcS.set (v := .inl (x + w)) rfl h') hr)
theorem r_iadd {a b : Int} (hd : decode (mC y) pc = .ok (.iadd, 1)) (hq : pc + 1 = q) (k : Gg E d y q ls (.inl (a + b) :: st) μ Q) : Gg E d y pc ls (.inl b :: .inl a :: st) μ Q := by
  intro p e R s m args below meth c H locs cells slots lsA QQ C hP hS hl hr
  obtain ⟨hE, hx, hb, hml, hown, hts, hR, hc, hSt⟩ := id C
  subst hq
  have := k p e R s m args below meth c H locs cells slots lsA QQ C hP hS hl hr
  simp only [List.map_cons, tv, Int32.ofInt_add] at this
  exact lv_iadd hx hb hd this
theorem r_isub {a b : Int} (hd : decode (mC y) pc = .ok (.isub, 1)) (hq : pc + 1 = q) (k : Gg E d y q ls (.inl (a - b) :: st) μ Q) : Gg E d y pc ls (.inl b :: .inl a :: st) μ Q := by
  intro p e R s m args below meth c H locs cells slots lsA QQ C hP hS hl hr
  obtain ⟨hE, hx, hb, hml, hown, hts, hR, hc, hSt⟩ := id C
  subst hq
  have := k p e R s m args below meth c H locs cells slots lsA QQ C hP hS hl hr
  simp only [List.map_cons, tv, Int32.ofInt_sub] at this
  exact lv_isub hx hb hd this
theorem r_imul {a b : Int} (hd : decode (mC y) pc = .ok (.imul, 1)) (hq : pc + 1 = q) (k : Gg E d y q ls (.inl (a * b) :: st) μ Q) : Gg E d y pc ls (.inl b :: .inl a :: st) μ Q := by
  intro p e R s m args below meth c H locs cells slots lsA QQ C hP hS hl hr
  obtain ⟨hE, hx, hb, hml, hown, hts, hR, hc, hSt⟩ := id C
  subst hq
  have := k p e R s m args below meth c H locs cells slots lsA QQ C hP hS hl hr
  simp only [List.map_cons, tv, Int32.ofInt_mul] at this
  exact lv_imul hx hb hd this
theorem r_ineg {a : Int} (hd : decode (mC y) pc = .ok (.ineg, 1)) (hq : pc + 1 = q) (k : Gg E d y q ls (.inl (-a) :: st) μ Q) : Gg E d y pc ls (.inl a :: st) μ Q := by
  intro p e R s m args below meth c H locs cells slots lsA QQ C hP hS hl hr
  obtain ⟨hE, hx, hb, hml, hown, hts, hR, hc, hSt⟩ := id C
  subst hq
  have := k p e R s m args below meth c H locs cells slots lsA QQ C hP hS hl hr
  simp only [List.map_cons, tv, Int32.ofInt_neg] at this
  exact lv_ineg hx hb hd this
def jand (a b : Int) : Int := (Int32.ofInt a &&& Int32.ofInt b).toInt
def jor (a b : Int) : Int := (Int32.ofInt a ||| Int32.ofInt b).toInt
def jxor (a b : Int) : Int := (Int32.ofInt a ^^^ Int32.ofInt b).toInt
def jshl (a b : Int) : Int := (Int32.ofInt a <<< (Int32.ofInt b &&& 31)).toInt
def jshr (a b : Int) : Int := (Int32.ofInt a >>> (Int32.ofInt b &&& 31)).toInt
def jbyte (a : Int) : Int := (Int32.ofInt a).toInt8.toInt32.toInt
def jshort (a : Int) : Int := (Int32.ofInt a).toInt16.toInt32.toInt
def jdiv (a b : Int) : Int := (Int32.ofInt a / Int32.ofInt b).toInt
def jrem (a b : Int) : Int := (Int32.ofInt a - Int32.ofInt a / Int32.ofInt b * Int32.ofInt b).toInt
theorem r_iand {a b : Int} (hd : decode (mC y) pc = .ok (.iand, 1)) (hq : pc + 1 = q) (k : Gg E d y q ls (.inl (jand a b) :: st) μ Q) : Gg E d y pc ls (.inl b :: .inl a :: st) μ Q := by
  intro p e R s m args below meth c H locs cells slots lsA QQ C hP hS hl hr
  obtain ⟨hE, hx, hb, hml, hown, hts, hR, hc, hSt⟩ := id C
  subst hq
  have := k p e R s m args below meth c H locs cells slots lsA QQ C hP hS hl hr
  simp only [List.map_cons, tv, jand, Int32.ofInt_toInt] at this
  exact lv_iand hx hb hd this
theorem r_ior {a b : Int} (hd : decode (mC y) pc = .ok (.ior, 1)) (hq : pc + 1 = q) (k : Gg E d y q ls (.inl (jor a b) :: st) μ Q) : Gg E d y pc ls (.inl b :: .inl a :: st) μ Q := by
  intro p e R s m args below meth c H locs cells slots lsA QQ C hP hS hl hr
  obtain ⟨hE, hx, hb, hml, hown, hts, hR, hc, hSt⟩ := id C
  subst hq
  have := k p e R s m args below meth c H locs cells slots lsA QQ C hP hS hl hr
  simp only [List.map_cons, tv, jor, Int32.ofInt_toInt] at this
  exact lv_ior hx hb hd this
theorem r_ixor {a b : Int} (hd : decode (mC y) pc = .ok (.ixor, 1)) (hq : pc + 1 = q) (k : Gg E d y q ls (.inl (jxor a b) :: st) μ Q) : Gg E d y pc ls (.inl b :: .inl a :: st) μ Q := by
  intro p e R s m args below meth c H locs cells slots lsA QQ C hP hS hl hr
  obtain ⟨hE, hx, hb, hml, hown, hts, hR, hc, hSt⟩ := id C
  subst hq
  have := k p e R s m args below meth c H locs cells slots lsA QQ C hP hS hl hr
  simp only [List.map_cons, tv, jxor, Int32.ofInt_toInt] at this
  exact lv_ixor hx hb hd this
theorem r_ishl {a b : Int} (hd : decode (mC y) pc = .ok (.ishl, 1)) (hq : pc + 1 = q) (k : Gg E d y q ls (.inl (jshl a b) :: st) μ Q) : Gg E d y pc ls (.inl b :: .inl a :: st) μ Q := by
  intro p e R s m args below meth c H locs cells slots lsA QQ C hP hS hl hr
  obtain ⟨hE, hx, hb, hml, hown, hts, hR, hc, hSt⟩ := id C
  subst hq
  have := k p e R s m args below meth c H locs cells slots lsA QQ C hP hS hl hr
  simp only [List.map_cons, tv, jshl, Int32.ofInt_toInt] at this
  exact lv_ishl hx hb hd this
theorem r_ishr {a b : Int} (hd : decode (mC y) pc = .ok (.ishr, 1)) (hq : pc + 1 = q) (k : Gg E d y q ls (.inl (jshr a b) :: st) μ Q) : Gg E d y pc ls (.inl b :: .inl a :: st) μ Q := by
  intro p e R s m args below meth c H locs cells slots lsA QQ C hP hS hl hr
  obtain ⟨hE, hx, hb, hml, hown, hts, hR, hc, hSt⟩ := id C
  subst hq
  have := k p e R s m args below meth c H locs cells slots lsA QQ C hP hS hl hr
  simp only [List.map_cons, tv, jshr, Int32.ofInt_toInt] at this
  exact lv_ishr hx hb hd this
theorem r_i2b {a : Int} (hd : decode (mC y) pc = .ok (.i2b, 1)) (hq : pc + 1 = q) (k : Gg E d y q ls (.inl (jbyte a) :: st) μ Q) : Gg E d y pc ls (.inl a :: st) μ Q := by
  intro p e R s m args below meth c H locs cells slots lsA QQ C hP hS hl hr
  obtain ⟨hE, hx, hb, hml, hown, hts, hR, hc, hSt⟩ := id C
  subst hq
  have := k p e R s m args below meth c H locs cells slots lsA QQ C hP hS hl hr
  simp only [List.map_cons, tv, jbyte, Int32.ofInt_toInt] at this
  exact lv_i2b hx hb hd rfl this
theorem r_i2s {a : Int} (hd : decode (mC y) pc = .ok (.i2s, 1)) (hq : pc + 1 = q) (k : Gg E d y q ls (.inl (jshort a) :: st) μ Q) : Gg E d y pc ls (.inl a :: st) μ Q := by
  intro p e R s m args below meth c H locs cells slots lsA QQ C hP hS hl hr
  obtain ⟨hE, hx, hb, hml, hown, hts, hR, hc, hSt⟩ := id C
  subst hq
  have := k p e R s m args below meth c H locs cells slots lsA QQ C hP hS hl hr
  simp only [List.map_cons, tv, jshort, Int32.ofInt_toInt] at this
  exact lv_i2s hx hb hd rfl this
theorem r_idiv {a b : Int} (hd : decode (mC y) pc = .ok (.idiv, 1)) (hq : pc + 1 = q) (hn : inR b ∧ b ≠ 0) (k : Gg E d y q ls (.inl (jdiv a b) :: st) μ Q) : Gg E d y pc ls (.inl b :: .inl a :: st) μ Q := by
  intro p e R s m args below meth c H locs cells slots lsA QQ C hP hS hl hr
  obtain ⟨hE, hx, hb, hml, hown, hts, hR, hc, hSt⟩ := id C
  subst hq
  have := k p e R s m args below meth c H locs cells slots lsA QQ C hP hS hl hr
  simp only [List.map_cons, tv, jdiv, Int32.ofInt_toInt] at this
  exact lv_idiv hx hb hd (fun h => hn.2 ((inR_eq hn.1 inR0).mp h)) this
theorem r_irem {a b : Int} (hd : decode (mC y) pc = .ok (.irem, 1)) (hq : pc + 1 = q) (hn : inR b ∧ b ≠ 0) (k : Gg E d y q ls (.inl (jrem a b) :: st) μ Q) : Gg E d y pc ls (.inl b :: .inl a :: st) μ Q := by
  intro p e R s m args below meth c H locs cells slots lsA QQ C hP hS hl hr
  obtain ⟨hE, hx, hb, hml, hown, hts, hR, hc, hSt⟩ := id C
  subst hq
  have := k p e R s m args below meth c H locs cells slots lsA QQ C hP hS hl hr
  simp only [List.map_cons, tv, jrem, Int32.ofInt_toInt] at this
  exact lv_irem hx hb hd (fun h => hn.2 ((inR_eq hn.1 inR0).mp h)) this
theorem r_dup {v : Vl} (hd : decode (mC y) pc = .ok (.dup, 1)) (hq : pc + 1 = q) (k : Gg E d y q ls (v :: v :: st) μ Q) : Gg E d y pc ls (v :: st) μ Q := by
  intro p e R s m args below meth c H locs cells slots lsA QQ C hP hS hl hr
  obtain ⟨hE, hx, hb, hml, hown, hts, hR, hc, hSt⟩ := id C
  subst hq
  exact lv_dup hx hb hd (tv_cat E v) (k p e R s m args below meth c H locs cells slots lsA QQ C hP hS hl hr)
theorem r_pop {v : Vl} (hd : decode (mC y) pc = .ok (.pop, 1)) (hq : pc + 1 = q) (k : Gg E d y q ls st μ Q) : Gg E d y pc ls (v :: st) μ Q := by
  intro p e R s m args below meth c H locs cells slots lsA QQ C hP hS hl hr
  obtain ⟨hE, hx, hb, hml, hown, hts, hR, hc, hSt⟩ := id C
  subst hq
  exact lv_pop hx hb hd (tv_cat E v) (k p e R s m args below meth c H locs cells slots lsA QQ C hP hS hl hr)
theorem r_dup2 {v w : Vl} (hd : decode (mC y) pc = .ok (.dup2, 1)) (hq : pc + 1 = q) (k : Gg E d y q ls (v :: w :: v :: w :: st) μ Q) : Gg E d y pc ls (v :: w :: st) μ Q := by
  intro p e R s m args below meth c H locs cells slots lsA QQ C hP hS hl hr
  obtain ⟨hE, hx, hb, hml, hown, hts, hR, hc, hSt⟩ := id C
  subst hq
  exact lv_dup2_11 hx hb hd (tv_cat E v) (tv_cat E w) (k p e R s m args below meth c H locs cells slots lsA QQ C hP hS hl hr)
theorem r_goto {off : Int} (hd : decode (mC y) pc = .ok (.goto off, 3)) (hq : (pc : Int) + off = (q : Int)) (k : Gg E d y q ls st μ Q) : Gg E d y pc ls st μ Q := by
  intro p e R s m args below meth c H locs cells slots lsA QQ C hP hS hl hr
  obtain ⟨hE, hx, hb, hml, hown, hts, hR, hc, hSt⟩ := id C
  exact lv_goto hx hb hd hq (k p e R s m args below meth c H locs cells slots lsA QQ C hP hS hl hr)
variable {t : Nat} {off : Int}
theorem r_ifeq {x : Int} (hd : decode (mC y) pc = .ok (.ifCond .eq off, 3)) (hq : pc + 3 = q) (ht : (pc : Int) + off = (t : Int)) (h : inR x ∧ (x = 0 → Gg E d y t ls st μ Q) ∧ (¬ x = 0 → Gg E d y q ls st μ Q)) : Gg E d y pc ls (.inl x :: st) μ Q := by
  intro p e R s m args below meth c H locs cells slots lsA QQ C hP hS hl hr
  obtain ⟨hE, hx, hb, hml, hown, hts, hR, hc, hSt⟩ := id C
  subst hq
  obtain ⟨hi, kt, kf⟩ := h
  have hc := inR_eq0 hi
  refine lv_if_eq hx hb hd ht (fun h => kt (hc.mp h) p e R s m args below meth c H locs cells slots lsA QQ C hP hS hl hr) (fun h => kf (fun z => h (hc.mpr z)) p e R s m args below meth c H locs cells slots lsA QQ C hP hS hl hr)
theorem r_ifne {x : Int} (hd : decode (mC y) pc = .ok (.ifCond .ne off, 3)) (hq : pc + 3 = q) (ht : (pc : Int) + off = (t : Int)) (h : inR x ∧ (x ≠ 0 → Gg E d y t ls st μ Q) ∧ (x = 0 → Gg E d y q ls st μ Q)) : Gg E d y pc ls (.inl x :: st) μ Q := by
  intro p e R s m args below meth c H locs cells slots lsA QQ C hP hS hl hr
  obtain ⟨hE, hx, hb, hml, hown, hts, hR, hc, hSt⟩ := id C
  subst hq
  obtain ⟨hi, kt, kf⟩ := h
  have hc := inR_ne0 hi
  refine lv_if_ne hx hb hd ht (fun h => kt (hc.mp h) p e R s m args below meth c H locs cells slots lsA QQ C hP hS hl hr) (fun h => kf ((inR_eq hi inR0).mp h) p e R s m args below meth c H locs cells slots lsA QQ C hP hS hl hr)
theorem r_iflt {x : Int} (hd : decode (mC y) pc = .ok (.ifCond .lt off, 3)) (hq : pc + 3 = q) (ht : (pc : Int) + off = (t : Int)) (h : inR x ∧ (x < 0 → Gg E d y t ls st μ Q) ∧ (¬ x < 0 → Gg E d y q ls st μ Q)) : Gg E d y pc ls (.inl x :: st) μ Q := by
  intro p e R s m args below meth c H locs cells slots lsA QQ C hP hS hl hr
  obtain ⟨hE, hx, hb, hml, hown, hts, hR, hc, hSt⟩ := id C
  subst hq
  obtain ⟨hi, kt, kf⟩ := h
  have hc := inR_lt0 hi
  refine lv_if_lt hx hb hd ht (fun h => kt (hc.mp h) p e R s m args below meth c H locs cells slots lsA QQ C hP hS hl hr) (fun h => kf (fun z => h (hc.mpr z)) p e R s m args below meth c H locs cells slots lsA QQ C hP hS hl hr)
theorem r_ifge {x : Int} (hd : decode (mC y) pc = .ok (.ifCond .ge off, 3)) (hq : pc + 3 = q) (ht : (pc : Int) + off = (t : Int)) (h : inR x ∧ (x ≥ 0 → Gg E d y t ls st μ Q) ∧ (¬ x ≥ 0 → Gg E d y q ls st μ Q)) : Gg E d y pc ls (.inl x :: st) μ Q := by
  intro p e R s m args below meth c H locs cells slots lsA QQ C hP hS hl hr
  obtain ⟨hE, hx, hb, hml, hown, hts, hR, hc, hSt⟩ := id C
  subst hq
  obtain ⟨hi, kt, kf⟩ := h
  have hc := inR_ge0 hi
  refine lv_if_ge hx hb hd ht (fun h => kt (hc.mp h) p e R s m args below meth c H locs cells slots lsA QQ C hP hS hl hr) (fun h => kf (fun z => h (hc.mpr z)) p e R s m args below meth c H locs cells slots lsA QQ C hP hS hl hr)
theorem r_ifgt {x : Int} (hd : decode (mC y) pc = .ok (.ifCond .gt off, 3)) (hq : pc + 3 = q) (ht : (pc : Int) + off = (t : Int)) (h : inR x ∧ (x > 0 → Gg E d y t ls st μ Q) ∧ (¬ x > 0 → Gg E d y q ls st μ Q)) : Gg E d y pc ls (.inl x :: st) μ Q := by
  intro p e R s m args below meth c H locs cells slots lsA QQ C hP hS hl hr
  obtain ⟨hE, hx, hb, hml, hown, hts, hR, hc, hSt⟩ := id C
  subst hq
  obtain ⟨hi, kt, kf⟩ := h
  have hc := inR_gt0 hi
  refine lv_if_gt hx hb hd ht (fun h => kt (hc.mp h) p e R s m args below meth c H locs cells slots lsA QQ C hP hS hl hr) (fun h => kf (fun z => h (hc.mpr z)) p e R s m args below meth c H locs cells slots lsA QQ C hP hS hl hr)
theorem r_ifle {x : Int} (hd : decode (mC y) pc = .ok (.ifCond .le off, 3)) (hq : pc + 3 = q) (ht : (pc : Int) + off = (t : Int)) (h : inR x ∧ (x ≤ 0 → Gg E d y t ls st μ Q) ∧ (¬ x ≤ 0 → Gg E d y q ls st μ Q)) : Gg E d y pc ls (.inl x :: st) μ Q := by
  intro p e R s m args below meth c H locs cells slots lsA QQ C hP hS hl hr
  obtain ⟨hE, hx, hb, hml, hown, hts, hR, hc, hSt⟩ := id C
  subst hq
  obtain ⟨hi, kt, kf⟩ := h
  have hc := inR_le0 hi
  refine lv_if_le hx hb hd ht (fun h => kt (hc.mp h) p e R s m args below meth c H locs cells slots lsA QQ C hP hS hl hr) (fun h => kf (fun z => h (hc.mpr z)) p e R s m args below meth c H locs cells slots lsA QQ C hP hS hl hr)
theorem r_iceq {a b : Int} (hd : decode (mC y) pc = .ok (.if_icmp .eq off, 3)) (hq : pc + 3 = q) (ht : (pc : Int) + off = (t : Int)) (h : (inR a ∧ inR b) ∧ (a = b → Gg E d y t ls st μ Q) ∧ (¬ a = b → Gg E d y q ls st μ Q)) : Gg E d y pc ls (.inl b :: .inl a :: st) μ Q := by
  intro p e R s m args below meth c H locs cells slots lsA QQ C hP hS hl hr
  obtain ⟨hE, hx, hb, hml, hown, hts, hR, hc, hSt⟩ := id C
  subst hq
  obtain ⟨⟨hi, hj⟩, kt, kf⟩ := h
  have hc := inR_eq2 hi hj
  refine lv_icmp_eq hx hb hd ht (fun h => kt (hc.mp h) p e R s m args below meth c H locs cells slots lsA QQ C hP hS hl hr) (fun h => kf (fun z => h (hc.mpr z)) p e R s m args below meth c H locs cells slots lsA QQ C hP hS hl hr)
theorem r_icne {a b : Int} (hd : decode (mC y) pc = .ok (.if_icmp .ne off, 3)) (hq : pc + 3 = q) (ht : (pc : Int) + off = (t : Int)) (h : (inR a ∧ inR b) ∧ (a ≠ b → Gg E d y t ls st μ Q) ∧ (a = b → Gg E d y q ls st μ Q)) : Gg E d y pc ls (.inl b :: .inl a :: st) μ Q := by
  intro p e R s m args below meth c H locs cells slots lsA QQ C hP hS hl hr
  obtain ⟨hE, hx, hb, hml, hown, hts, hR, hc, hSt⟩ := id C
  subst hq
  obtain ⟨⟨hi, hj⟩, kt, kf⟩ := h
  have hc := inR_ne2 hi hj
  refine lv_icmp_ne hx hb hd ht (fun h => kt (hc.mp h) p e R s m args below meth c H locs cells slots lsA QQ C hP hS hl hr) (fun h => kf ((inR_eq hi hj).mp h) p e R s m args below meth c H locs cells slots lsA QQ C hP hS hl hr)
theorem r_iclt {a b : Int} (hd : decode (mC y) pc = .ok (.if_icmp .lt off, 3)) (hq : pc + 3 = q) (ht : (pc : Int) + off = (t : Int)) (h : (inR a ∧ inR b) ∧ (a < b → Gg E d y t ls st μ Q) ∧ (¬ a < b → Gg E d y q ls st μ Q)) : Gg E d y pc ls (.inl b :: .inl a :: st) μ Q := by
  intro p e R s m args below meth c H locs cells slots lsA QQ C hP hS hl hr
  obtain ⟨hE, hx, hb, hml, hown, hts, hR, hc, hSt⟩ := id C
  subst hq
  obtain ⟨⟨hi, hj⟩, kt, kf⟩ := h
  have hc := inR_lt2 hi hj
  refine lv_icmp_lt hx hb hd ht (fun h => kt (hc.mp h) p e R s m args below meth c H locs cells slots lsA QQ C hP hS hl hr) (fun h => kf (fun z => h (hc.mpr z)) p e R s m args below meth c H locs cells slots lsA QQ C hP hS hl hr)
theorem r_icge {a b : Int} (hd : decode (mC y) pc = .ok (.if_icmp .ge off, 3)) (hq : pc + 3 = q) (ht : (pc : Int) + off = (t : Int)) (h : (inR a ∧ inR b) ∧ (a ≥ b → Gg E d y t ls st μ Q) ∧ (¬ a ≥ b → Gg E d y q ls st μ Q)) : Gg E d y pc ls (.inl b :: .inl a :: st) μ Q := by
  intro p e R s m args below meth c H locs cells slots lsA QQ C hP hS hl hr
  obtain ⟨hE, hx, hb, hml, hown, hts, hR, hc, hSt⟩ := id C
  subst hq
  obtain ⟨⟨hi, hj⟩, kt, kf⟩ := h
  have hc := inR_ge2 hi hj
  refine lv_icmp_ge hx hb hd ht (fun h => kt (hc.mp h) p e R s m args below meth c H locs cells slots lsA QQ C hP hS hl hr) (fun h => kf (fun z => h (hc.mpr z)) p e R s m args below meth c H locs cells slots lsA QQ C hP hS hl hr)
theorem r_icgt {a b : Int} (hd : decode (mC y) pc = .ok (.if_icmp .gt off, 3)) (hq : pc + 3 = q) (ht : (pc : Int) + off = (t : Int)) (h : (inR a ∧ inR b) ∧ (a > b → Gg E d y t ls st μ Q) ∧ (¬ a > b → Gg E d y q ls st μ Q)) : Gg E d y pc ls (.inl b :: .inl a :: st) μ Q := by
  intro p e R s m args below meth c H locs cells slots lsA QQ C hP hS hl hr
  obtain ⟨hE, hx, hb, hml, hown, hts, hR, hc, hSt⟩ := id C
  subst hq
  obtain ⟨⟨hi, hj⟩, kt, kf⟩ := h
  have hc := inR_gt2 hi hj
  refine lv_icmp_gt hx hb hd ht (fun h => kt (hc.mp h) p e R s m args below meth c H locs cells slots lsA QQ C hP hS hl hr) (fun h => kf (fun z => h (hc.mpr z)) p e R s m args below meth c H locs cells slots lsA QQ C hP hS hl hr)
theorem r_icle {a b : Int} (hd : decode (mC y) pc = .ok (.if_icmp .le off, 3)) (hq : pc + 3 = q) (ht : (pc : Int) + off = (t : Int)) (h : (inR a ∧ inR b) ∧ (a ≤ b → Gg E d y t ls st μ Q) ∧ (¬ a ≤ b → Gg E d y q ls st μ Q)) : Gg E d y pc ls (.inl b :: .inl a :: st) μ Q := by
  intro p e R s m args below meth c H locs cells slots lsA QQ C hP hS hl hr
  obtain ⟨hE, hx, hb, hml, hown, hts, hR, hc, hSt⟩ := id C
  subst hq
  obtain ⟨⟨hi, hj⟩, kt, kf⟩ := h
  have hc := inR_le2 hi hj
  refine lv_icmp_le hx hb hd ht (fun h => kt (hc.mp h) p e R s m args below meth c H locs cells slots lsA QQ C hP hS hl hr) (fun h => kf (fun z => h (hc.mpr z)) p e R s m args below meth c H locs cells slots lsA QQ C hP hS hl hr)
end Rules
end
section
/-! Fields, arrays, tables, switches, calls, ends. -/
/-- entry idx of the class own is field j of class number ci -/
def Fk (own : String) (idx ci j : Nat) : Prop := ∃ (C : String) (T : u_T) (N : Nat), vwCl[ci]? = some (C, T, N) ∧ j < N ∧ (∀ w ∈ u_ws C T N, w ∈ TB) ∧ Cond.fieldLink own idx (T j).1 (T j).2.1 (T j).2.2.1 ∈ TB
def Fp (own : String) (idx ci j : Nat) (ty : FieldType) : Prop := ∃ (C : String) (T : u_T) (N : Nat) (ty0 : Nat → FieldType), vwCl[ci]? = some (C, T, N) ∧ j < N ∧ (∀ w ∈ u_ws C T N, w ∈ TB) ∧ Cond.fieldLink own idx (T j).1 (T j).2.1 (T j).2.2.1 ∈ TB ∧ (∀ k, k < N → parseFieldDescriptor (T k).2.2.1 = some (ty0 k)) ∧ (∀ a, a < N → ∀ b, b < N → a ≠ b → (T a).2.1 ≠ (T b).2.1) ∧ (T j).2.2.2 = false ∧ parseFieldDescriptor (T j).2.2.1 = some ty
theorem ent_obj {E : Ex} {μ : Mem} {k ci n : Nat} {rs : List Nat} (h : shp k = (ci + 4, n, rs)) : ent E μ k = .inr (ci, fl E μ k 0 rs) := by
  unfold ent; rw [h]
theorem ent_int {E : Ex} {μ : Mem} {k n : Nat} {rs : List Nat} (h : shp k = (0, n, rs)) : ent E μ k = .inl (eK E 0, n, .inl (fun j => Int32.ofInt (μ k (j : Nat)))) := by
  unfold ent; rw [h]
theorem ent_bool {E : Ex} {μ : Mem} {k n : Nat} {rs : List Nat} (h : shp k = (1, n, rs)) : ent E μ k = .inl (eK E 1, n, .inl (fun j => Int32.ofInt (μ k (j : Nat)))) := by
  unfold ent; rw [h]
theorem ent_row {E : Ex} {μ : Mem} {k n : Nat} {rs : List Nat} (h : shp k = (2, n, rs)) : ent E μ k = .inl (eK E 2, n, .inr (.inr (.inr (.inr (fun j => (rs[j]?).map (eA E)))))) := by
  unfold ent; rw [h]
theorem ent_court {E : Ex} {μ : Mem} {k n : Nat} {rs : List Nat} (h : shp k = (3, n, rs)) : ent E μ k = .inl (eK E 3, n, .inr (.inr (.inr (.inr (fun j => (rs[j]?).map (eA E)))))) := by
  unfold ent; rw [h]
theorem ofI_nat {i : Int} (h : 0 ≤ i) : ((i.toNat : Nat) : Int) = i := Int.toNat_of_nonneg h
section Rules2
variable {E : Ex} {d : Nat} {y : Mth} {pc q : Nat} {ls : List (Option Vl)} {st : List Vl} {μ : Mem} {Q : Option Vl → Mem → Prop}
theorem r_getI {idx k ci j n : Nat} {rs : List Nat} (hd : decode (mC y) pc = .ok (.getfield idx, 3)) (hq : pc + 3 = q) (hf : Fk (mO y) idx ci j) (hs : shp k = (ci + 4, n, rs)) (hj : rs[j]? = some 0) (kk : Gg E d y q ls (.inl (μ k j) :: st) μ Q) : Gg E d y pc ls (.inr k :: st) μ Q := by
  intro p e R s m args below meth c H locs cells slots lsA QQ C hP hS hl hr
  obtain ⟨hE, hx, hb, hml, hown, hts, hR, hc, hSt⟩ := id C
  subst hq
  have hk := shp_lt hs (Or.inl (by omega))
  obtain ⟨CC, T, N, hcl, hjN, hin, hlk⟩ := hf
  have := kk p e R s m args below meth c H locs cells slots lsA QQ C hP hS hl hr
  refine va_get (ci := ci) (v := .int (Int32.ofInt (μ k j))) hx hb hts hin hown hSt.1 hP k ((wl_at hk).trans (by rw [ent_obj hs])) hcl j hjN (hts _ hlk) (fun _ h => h) ?_ hd this
  rw [fl_at rs 0 j 0 hj, if_pos rfl, Nat.zero_add]
theorem r_getR {idx k ci j n r : Nat} {rs : List Nat} (hd : decode (mC y) pc = .ok (.getfield idx, 3)) (hq : pc + 3 = q) (hf : Fk (mO y) idx ci j) (hs : shp k = (ci + 4, n, rs)) (hj : rs[j]? = some (r + 1)) (kk : Gg E d y q ls (.inr r :: st) μ Q) : Gg E d y pc ls (.inr k :: st) μ Q := by
  intro p e R s m args below meth c H locs cells slots lsA QQ C hP hS hl hr
  obtain ⟨hE, hx, hb, hml, hown, hts, hR, hc, hSt⟩ := id C
  subst hq
  have hk := shp_lt hs (Or.inl (by omega))
  obtain ⟨CC, T, N, hcl, hjN, hin, hlk⟩ := hf
  have := kk p e R s m args below meth c H locs cells slots lsA QQ C hP hS hl hr
  refine va_get (ci := ci) (v := .ref (eA E r)) hx hb hts hin hown hSt.1 hP k ((wl_at hk).trans (by rw [ent_obj hs])) hcl j hjN (hts _ hlk) (fun _ h => h) ?_ hd this
  rw [fl_at rs 0 j (r + 1) hj, if_neg (by omega), Nat.add_sub_cancel]
theorem nar_ok {ty : FieldType} {x : Int} (h : ty = .int ∨ (ty = .boolean ∧ (x = 0 ∨ x = 1))) : narrow ty (.int (Int32.ofInt x)) = .int (Int32.ofInt x) ∧ fits ty (.int (Int32.ofInt x)) = true := by
  rcases h with rfl | ⟨rfl, rfl | rfl⟩
  · exact ⟨vp_nar_int _, rfl⟩
  · exact ⟨by decide +kernel, by decide +kernel⟩
  · exact ⟨by decide +kernel, by decide +kernel⟩
theorem r_put {idx k ci j n : Nat} {rs : List Nat} {ty : FieldType} {x : Int} (hd : decode (mC y) pc = .ok (.putfield idx, 3)) (hq : pc + 3 = q) (hf : Fp (mO y) idx ci j ty) (hs : shp k = (ci + 4, n, rs)) (hj : rs[j]? = some 0) (hv : ty = .int ∨ (ty = .boolean ∧ (x = 0 ∨ x = 1))) (kk : Gg E d y q ls st (up μ k j x) Q) : Gg E d y pc ls (.inl x :: .inr k :: st) μ Q := by
  intro p e R s m args below meth c H locs cells slots lsA QQ C hP hS hl hr
  obtain ⟨hE, hx, hb, hml, hown, hts, hR, hc, hSt⟩ := id C
  subst hq
  have hk := shp_lt hs (Or.inl (by omega))
  obtain ⟨CC, T, N, ty0, hcl, hjN, hin, hlk, hty, hnm, hfin, hpt⟩ := hf
  obtain ⟨hn1, hn2⟩ := nar_ok hv
  refine va_put (ci := ci) (v := .int (Int32.ofInt x)) hx hb hts hin ty0 hty hnm hown hSt.1 hP (wl_D hE) hS k ((wl_at hk).trans (by rw [ent_obj hs])) hcl j hjN (hts _ hlk) (fun _ h => h) hfin hpt hn1 hn2 (by rw [fl_len]; exact (List.getElem?_eq_some_iff.mp hj).1) hd (fun H1 locs1 hP1 hD1 hS1 => ?_)
  refine kk p e R s m args below meth c H1 locs1 cells slots lsA QQ C ?_ hS1 hl hr
  rw [wl_set (i := (j : Int)) (v := x) hk (by rw [ent_obj hs, fl_set rs 0 j hj, Nat.zero_add])] at hP1
  exact hP1
theorem r_iald {k n : Nat} {rs : List Nat} {i : Int} (hd : decode (mC y) pc = .ok (.iaload, 1)) (hq : pc + 1 = q) (hs : shp k = (0, n, rs)) (hn : n < 2147483648) (h : (0 ≤ i ∧ i < n) ∧ Gg E d y q ls (.inl (μ k i) :: st) μ Q) : Gg E d y pc ls (.inl i :: .inr k :: st) μ Q := by
  intro p e R s m args below meth c H locs cells slots lsA QQ C hP hS hl hr
  obtain ⟨hE, hx, hb, hml, hown, hts, hR, hc, hSt⟩ := id C
  subst hq
  obtain ⟨⟨h1, h2⟩, kk⟩ := h
  have hk := shp_lt hs (Or.inr (by omega))
  have := kk p e R s m args below meth c H locs cells slots lsA QQ C hP hS hl hr
  refine va_iald (cA := eK E 0) (n := n) (f := fun j => Int32.ofInt (μ k (j : Nat))) hx hb hSt.1 hP k 0 ((wl_at hk).trans (by rw [ent_int hs])) rfl (inR_vp hn h1 h2) hd ?_
  show W p (eLn E) e R s m args below meth c H locs cells slots QQ (F0 m (pc + 1) lsA (.int (Int32.ofInt (μ k (((Int32.ofInt i).toNatClampNeg : Nat) : Int))) :: st.map (tv E)))
  rw [inR_clamp (by unfold inR; omega), ofI_nat h1]
  exact this
theorem r_zald {k n : Nat} {rs : List Nat} {i : Int} (hd : decode (mC y) pc = .ok (.baload, 1)) (hq : pc + 1 = q) (hs : shp k = (1, n, rs)) (hn : n < 2147483648) (h : (0 ≤ i ∧ i < n) ∧ Gg E d y q ls (.inl (μ k i) :: st) μ Q) : Gg E d y pc ls (.inl i :: .inr k :: st) μ Q := by
  intro p e R s m args below meth c H locs cells slots lsA QQ C hP hS hl hr
  obtain ⟨hE, hx, hb, hml, hown, hts, hR, hc, hSt⟩ := id C
  subst hq
  obtain ⟨⟨h1, h2⟩, kk⟩ := h
  have hk := shp_lt hs (Or.inr (by omega))
  have := kk p e R s m args below meth c H locs cells slots lsA QQ C hP hS hl hr
  refine va_zald (cA := eK E 1) (n := n) (f := fun j => Int32.ofInt (μ k (j : Nat))) hx hb hSt.1 hP k 1 ((wl_at hk).trans (by rw [ent_bool hs])) rfl (inR_vp hn h1 h2) hd ?_
  show W p (eLn E) e R s m args below meth c H locs cells slots QQ (F0 m (pc + 1) lsA (.int (Int32.ofInt (μ k (((Int32.ofInt i).toNatClampNeg : Nat) : Int))) :: st.map (tv E)))
  rw [inR_clamp (by unfold inR; omega), ofI_nat h1]
  exact this
theorem upd_up {μ : Mem} {k : Nat} {i x : Int} (h1 : 0 ≤ i) (h2 : i < 2147483648) : upd (fun j => Int32.ofInt (μ k (j : Nat))) (Int32.ofInt i).toNatClampNeg (Int32.ofInt x) = fun j => Int32.ofInt (up μ k i x k (j : Nat)) := by
  rw [inR_clamp (by unfold inR; omega)]
  funext j
  unfold upd up
  by_cases hj : j = i.toNat
  · subst hj
    rw [if_pos rfl, ofI_nat h1, if_pos ⟨rfl, rfl⟩]
  · rw [if_neg hj, if_neg]
    rintro ⟨-, h⟩
    omega
theorem r_iast {k n : Nat} {rs : List Nat} {i x : Int} (hd : decode (mC y) pc = .ok (.iastore, 1)) (hq : pc + 1 = q) (hs : shp k = (0, n, rs)) (hn : n < 2147483648) (h : (0 ≤ i ∧ i < n) ∧ Gg E d y q ls st (up μ k i x) Q) : Gg E d y pc ls (.inl x :: .inl i :: .inr k :: st) μ Q := by
  intro p e R s m args below meth c H locs cells slots lsA QQ C hP hS hl hr
  obtain ⟨hE, hx, hb, hml, hown, hts, hR, hc, hSt⟩ := id C
  subst hq
  obtain ⟨⟨h1, h2⟩, kk⟩ := h
  have hk := shp_lt hs (Or.inr (by omega))
  refine va_iast (cA := eK E 0) (n := n) (f := fun j => Int32.ofInt (μ k (j : Nat))) hx hb hSt.1 hP (wl_D hE) hS k 0 ((wl_at hk).trans (by rw [ent_int hs])) rfl (inR_vp hn h1 h2) hd (fun H1 locs1 hP1 hD1 hS1 => ?_)
  refine kk p e R s m args below meth c H1 locs1 cells slots lsA QQ C ?_ hS1 hl hr
  rw [wl_set (i := i) (v := x) hk (by rw [ent_int hs, upd_up h1 (by omega)])] at hP1
  exact hP1
theorem r_zast {k n : Nat} {rs : List Nat} {i x : Int} (hd : decode (mC y) pc = .ok (.bastore, 1)) (hq : pc + 1 = q) (hs : shp k = (1, n, rs)) (hn : n < 2147483648) (hv : x = 0 ∨ x = 1) (h : (0 ≤ i ∧ i < n) ∧ Gg E d y q ls st (up μ k i x) Q) : Gg E d y pc ls (.inl x :: .inl i :: .inr k :: st) μ Q := by
  intro p e R s m args below meth c H locs cells slots lsA QQ C hP hS hl hr
  obtain ⟨hE, hx, hb, hml, hown, hts, hR, hc, hSt⟩ := id C
  subst hq
  obtain ⟨⟨h1, h2⟩, kk⟩ := h
  have hk := shp_lt hs (Or.inr (by omega))
  have hnv : vp_nar .boolean (Int32.ofInt x) = Int32.ofInt x := by rcases hv with rfl | rfl <;> decide +kernel
  refine va_zast (cA := eK E 1) (n := n) (f := fun j => Int32.ofInt (μ k (j : Nat))) hx hb hSt.1 hP (wl_D hE) hS k 1 ((wl_at hk).trans (by rw [ent_bool hs])) rfl (inR_vp hn h1 h2) hd (fun H1 locs1 hP1 hD1 hS1 => ?_)
  refine kk p e R s m args below meth c H1 locs1 cells slots lsA QQ C ?_ hS1 hl hr
  rw [hnv, wl_set (i := i) (v := x) hk (by rw [ent_bool hs, upd_up h1 (by omega)])] at hP1
  exact hP1
theorem r_aaldR {k n r : Nat} {rs : List Nat} {i : Int} (hd : decode (mC y) pc = .ok (.aaload, 1)) (hq : pc + 1 = q) (hs : shp k = (2, n, rs)) (hn : n < 2147483648) (h : ((0 ≤ i ∧ i < n) ∧ rs[i.toNat]? = some r) ∧ Gg E d y q ls (.inr r :: st) μ Q) : Gg E d y pc ls (.inl i :: .inr k :: st) μ Q := by
  intro p e R s m args below meth c H locs cells slots lsA QQ C hP hS hl hr
  obtain ⟨hE, hx, hb, hml, hown, hts, hR, hc, hSt⟩ := id C
  subst hq
  obtain ⟨⟨⟨h1, h2⟩, h3⟩, kk⟩ := h
  have hk := shp_lt hs (Or.inr (by omega))
  have := kk p e R s m args below meth c H locs cells slots lsA QQ C hP hS hl hr
  refine va_aldq (cA := eK E 2) (n := n) (f := fun j => (rs[j]?).map (eA E)) hx hb hSt.1 hP k 2 ((wl_at hk).trans (by rw [ent_row hs])) rfl (inR_vp hn h1 h2) hd ?_
  show W p (eLn E) e R s m args below meth c H locs cells slots QQ (F0 m (pc + 1) lsA (va_rf ((rs[(Int32.ofInt i).toNatClampNeg]?).map (eA E)) :: st.map (tv E)))
  rw [inR_clamp (by unfold inR; omega), h3]
  exact this
theorem r_aaldC {k n r : Nat} {rs : List Nat} {i : Int} (hd : decode (mC y) pc = .ok (.aaload, 1)) (hq : pc + 1 = q) (hs : shp k = (3, n, rs)) (hn : n < 2147483648) (h : ((0 ≤ i ∧ i < n) ∧ rs[i.toNat]? = some r) ∧ Gg E d y q ls (.inr r :: st) μ Q) : Gg E d y pc ls (.inl i :: .inr k :: st) μ Q := by
  intro p e R s m args below meth c H locs cells slots lsA QQ C hP hS hl hr
  obtain ⟨hE, hx, hb, hml, hown, hts, hR, hc, hSt⟩ := id C
  subst hq
  obtain ⟨⟨⟨h1, h2⟩, h3⟩, kk⟩ := h
  have hk := shp_lt hs (Or.inr (by omega))
  have := kk p e R s m args below meth c H locs cells slots lsA QQ C hP hS hl hr
  refine va_aldq (cA := eK E 3) (n := n) (f := fun j => (rs[j]?).map (eA E)) hx hb hSt.1 hP k 3 ((wl_at hk).trans (by rw [ent_court hs])) rfl (inR_vp hn h1 h2) hd ?_
  show W p (eLn E) e R s m args below meth c H locs cells slots QQ (F0 m (pc + 1) lsA (va_rf ((rs[(Int32.ofInt i).toNatClampNeg]?).map (eA E)) :: st.map (tv E)))
  rw [inR_clamp (by unfold inR; omega), h3]
  exact this
/-- the tables that nobody writes: cells 100 to 104 -/
theorem r_tald {t : Nat} {i : Int} (hd : decode (mC y) pc = .ok (.iaload, 1)) (hq : pc + 1 = q) (ht : t < 5) (h : (0 ≤ i ∧ i < roN E t) ∧ Gg E d y q ls (.inl (eR E t i.toNat) :: st) μ Q) : Gg E d y pc ls (.inl i :: .inr (100 + t) :: st) μ Q := by
  intro p e R s m args below meth c H locs cells slots lsA QQ C hP hS hl hr
  obtain ⟨hE, hx, hb, hml, hown, hts, hR, hc, hSt⟩ := id C
  subst hq
  obtain ⟨⟨h1, h2⟩, kk⟩ := h
  have := kk p e R s m args below meth c H locs cells slots lsA QQ C hP hS hl hr
  have hN : roN E t < 2 ^ 31 := by
    unfold roN
    split
    · exact hE.2.2
    · decide
  refine va_ti hx hb (hSt.2.1 t ht) hS (inR_vp hN h1 h2) (v := .int (Int32.ofInt (eR E t i.toNat))) ?_ hd this
  show Value.int (Int32.ofInt (eR E t (Int32.ofInt i).toNatClampNeg)) = _
  rw [inR_clamp (by unfold inR; omega)]
theorem r_alen (hd : decode (mC y) pc = .ok (.arraylength, 1)) (hq : pc + 1 = q) (kk : Gg E d y q ls (.inl (eS E) :: st) μ Q) : Gg E d y pc ls (.inr 104 :: st) μ Q := by
  intro p e R s m args below meth c H locs cells slots lsA QQ C hP hS hl hr
  obtain ⟨hE, hx, hb, hml, hown, hts, hR, hc, hSt⟩ := id C
  subst hq
  have := kk p e R s m args below meth c H locs cells slots lsA QQ C hP hS hl hr
  exact va_tlen hx hb (hSt.2.1 4 (by decide)) hS (v := Int32.ofInt ((eS E : Nat) : Int)) rfl hd this
theorem r_gets {idx t : Nat} (hd : decode (mC y) pc = .ok (.getstatic idx, 3)) (hq : pc + 3 = q) (ht : t < 4) (hlk : Cond.fieldLink (mO y) idx (sC t) (sN t) "[I" ∈ TB) (kk : Gg E d y q ls (.inr (100 + t) :: st) μ Q) : Gg E d y pc ls st μ Q := by
  intro p e R s m args below meth c H locs cells slots lsA QQ C hP hS hl hr
  obtain ⟨hE, hx, hb, hml, hown, hts, hR, hc, hSt⟩ := id C
  subst hq
  exact va_gets hx hb (hSt.2.2.1 t ht) hS hown (hts _ hlk) (fun _ h => h) hd (kk p e R s m args below meth c H locs cells slots lsA QQ C hP hS hl hr)
theorem r_getsN {idx t : Nat} {host : String} (hd : decode (mC y) pc = .ok (.getstatic idx, 3)) (hq : pc + 3 = q) (ht : t < 4) (hlk : Cond.fieldLinkNest (mO y) idx (sC t) (sN t) "[I" host ∈ lw_tbl) (kk : Gg E d y q ls (.inr (100 + t) :: st) μ Q) : Gg E d y pc ls st μ Q := by
  intro p e R s m args below meth c H locs cells slots lsA QQ C hP hS hl hr
  obtain ⟨hE, hx, hb, hml, hown, hts, hR, hc, hSt⟩ := id C
  subst hq
  exact va_getsN hx hb (hSt.2.2.1 t ht) hS hown (va_Nw.use rfl (hSt.2.2.2 _ _ _ _ _ _ hlk)) (fun _ h => h) hd (kk p e R s m args below meth c H locs cells slots lsA QQ C hP hS hl hr)
theorem r_tab {dflt lo hi : Int} {offs : Array Int} {len : Nat} {x : Int} (hd : decode (mC y) pc = .ok (.tableswitch dflt lo hi offs, len)) (hx0 : inR x) (h1 : lo ≤ x → x ≤ hi → ∃ (off : Int) (t : Nat), offs[(x - lo).toNat]? = some off ∧ (pc : Int) + off = (t : Int) ∧ Gg E d y t ls st μ Q) (h2 : (x < lo ∨ hi < x) → ∃ t : Nat, (pc : Int) + dflt = (t : Int) ∧ Gg E d y t ls st μ Q) : Gg E d y pc ls (.inl x :: st) μ Q := by
  intro p e R s m args below meth c H locs cells slots lsA QQ C hP hS hl hr
  obtain ⟨hE, hx, hb, hml, hown, hts, hR, hc, hSt⟩ := id C
  by_cases hc : x < lo ∨ hi < x
  · obtain ⟨t, a, k⟩ := h2 hc
    exact lv_tableOut hx hb hd (by rw [inR_toInt hx0]; exact hc) a (k p e R s m args below meth c H locs cells slots lsA QQ C hP hS hl hr)
  · obtain ⟨off, t, a, b, k⟩ := h1 (by omega) (by omega)
    exact lv_tableIn hx hb hd (by rw [inR_toInt hx0]; omega) (by rw [inR_toInt hx0]; omega) (by rw [inR_toInt hx0]; exact a) b (k p e R s m args below meth c H locs cells slots lsA QQ C hP hS hl hr)
theorem r_lsw {dflt : Int} {ps : Array (Int × Int)} {len : Nat} {x off : Int} (hd : decode (mC y) pc = .ok (.lookupswitch dflt ps, len)) (hx0 : inR x) (hp : (ps.toList.zip (ps.toList.drop 1)).all (fun (a, next) => a.1 < next.1) = true) (ho : Op.lookupswitch.offset ps.toList dflt x = off) (hq : (pc : Int) + off = (q : Int)) (k : Gg E d y q ls st μ Q) : Gg E d y pc ls (.inl x :: st) μ Q := by
  intro p e R s m args below meth c H locs cells slots lsA QQ C hP hS hl hr
  obtain ⟨hE, hx, hb, hml, hown, hts, hR, hc, hSt⟩ := id C
  exact lv_lookup hx hb hd hp (by rw [inR_toInt hx0]; exact ho) hq (k p e R s m args below meth c H locs cells slots lsA QQ C hP hS hl hr)
theorem r_ret {v : Option Vl} (hv : retOk y pc v) (h : Q v μ) : Gg E d y pc ls v.toList μ Q := by
  intro p e R s m args below meth c H locs cells slots lsA QQ C hP hS hl hr
  exact hr v μ H locs pc lsA h hP hS hv
theorem r_min {idx : Nat} {a b : Int} (hd : decode (mC y) pc = .ok (.invokestatic idx, 3)) (hq : pc + 3 = q) (hlk : Cond.methodLink (mO y) idx Lib.Math.min.name ∈ TB) (hst : Cond.static Lib.Math.min.name ∈ TB) (hin : Cond.initialized "java/lang/Math" ∈ TB) (hco : Cond.code Lib.Math.min.name Lib.Math.min.code 2 (some .int) ∈ TB) (hn : 0 < d) (hsz : st.length ≤ 8) (h : (inR a ∧ inR b) ∧ Gg E d y q ls (.inl (if b < a then b else a) :: st) μ Q) : Gg E d y pc ls (.inl b :: .inl a :: st) μ Q := by
  intro p e R s m args below meth c H locs cells slots lsA QQ C hP hS hl hr
  obtain ⟨hE, hx, hb, hml, hown, hts, hR, hc, hSt⟩ := id C
  subst hq
  obtain ⟨⟨h1, h2⟩, k⟩ := h
  have := k p e R s m args below meth c H locs cells slots lsA QQ C hP hS hl hr
  refine va_mmin hx hb (by rw [hml]; exact hl.1.symm) hown (hts _ hlk) (hts _ hst) (hts _ hin) (hts _ hco) (by have := hR.1; omega) (by rw [tv_sum]; have := hR.2; omega) hc.1 hc.2 hd ?_
  have e1 : (if Int32.ofInt b < Int32.ofInt a then Int32.ofInt b else Int32.ofInt a) = Int32.ofInt (if b < a then b else a) := by
    by_cases hba : b < a
    · rw [if_pos hba, if_pos ((inR_lt h2 h1).mpr hba)]
    · rw [if_neg hba, if_neg (fun z => hba ((inR_lt h2 h1).mp z))]
  rw [e1]
  exact this
end Rules2
end
section
/-! Calls. -/
def cpm (μ : Mem) (ks : Nat) (sp : Int) (kd : Nat) (dp n : Int) : Mem := fun k i => if k = kd ∧ dp ≤ i ∧ i < dp + n then μ ks (sp + (i - dp)) else μ k i
theorem cpm_ne {μ : Mem} {ks kd k : Nat} {sp dp n : Int} (h : k ≠ kd) : cpm μ ks sp kd dp n k = μ k := by
  funext j
  simp [cpm, h]
theorem wl_put {E : Ex} {μ μ' : Mem} {k : Nat} {x : va_E} (hk : k < 100) (hx : x = ent E μ' k) (ho : ∀ j, j ≠ k → μ' j = μ j) : (wl E μ).set k (eA E k, x) = wl E μ' := by
  subst hx
  refine List.ext_getElem? fun j => ?_
  by_cases hj : j = k
  · subst hj
    rw [List.getElem?_set_self (by simpa [wl] using hk), wl_at hk]
  · rw [List.getElem?_set_ne (Ne.symm hj)]
    by_cases hl : j < 100
    · rw [wl_at hl, wl_at hl, ent_congr (ho j hj)]
    · rw [List.getElem?_eq_none (by simp [wl]; omega), List.getElem?_eq_none (by simp [wl]; omega)]
theorem cpy_cpm {μ : Mem} {ks kd : Nat} {sp dp n : Int} (h1 : 0 ≤ sp) (h2 : 0 ≤ dp) (h3 : 0 ≤ n) : va_cpy (fun j => Int32.ofInt (μ ks (j : Nat))) (fun j => Int32.ofInt (μ kd (j : Nat))) sp.toNat dp.toNat n.toNat = fun j => Int32.ofInt (cpm μ ks sp kd dp n kd (j : Nat)) := by
  funext j
  unfold va_cpy cpm
  by_cases h : dp.toNat ≤ j ∧ j < dp.toNat + n.toNat
  · rw [if_pos h, if_pos ⟨rfl, by omega, by omega⟩]
    have e : ((sp.toNat + (j - dp.toNat) : Nat) : Int) = sp + ((j : Int) - dp) := by omega
    show Int32.ofInt (μ ks ((sp.toNat + (j - dp.toNat) : Nat) : Int)) = _
    rw [e]
  · rw [if_neg h, if_neg]
    rintro ⟨-, a, b⟩
    exact h ⟨by omega, by omega⟩
theorem tb_mem {w : Cond} (h : w ∈ lw_tbl) (hg : goodWord w = true) : w ∈ TB := List.mem_filter.mpr ⟨h, hg⟩
theorem tb_gi {ws : List Cond} (h : ∀ w ∈ ws, w ∈ TB) : GoodIn TB ws := fun w hw => ⟨h w hw, good_of_word (List.mem_filter.mp (h w hw)).2⟩
def Pcn (E : Ex) (as : List Vl) (μ : Mem) : Array Value → State → Prop := va_Pc (as.map (tv E)) (fun U => va_P (eD E) vwCl (wl E μ) U.heap ∧ St E U U.heap)
def Qcn (E : Ex) (Q : Option Vl → Mem → Prop) : Array Value → State → Outcome → State → Prop := fun _ st oc t => (∃ (v : Option Vl) (μ' : Mem), oc = .returned (v.map (tv E)) ∧ Q v μ' ∧ va_P (eD E) vwCl (wl E μ') t.heap) ∧ va_F (fr E) st t
def rmD (d : Nat) : Room := { frames := d, cells := 0, slots := 0, locals := 40 * d + 24 }
theorem St.moved {E : Ex} {s U : State} {H : Heap} {locs : List Loc} (h : St E s s.heap) (hS : va_S (fr E) s.heap H locs) (hW : s.WarmedH U.vm) : St E U H := by
  refine ⟨va_K.moved hW.alike h.1, fun i hi => ((h.2.1 i hi).moved hW.alike).kept hS.2.1, fun i hi => ((h.2.2.1 i hi).moved hW.alike).kept hS.2.1, fun a i b n d h0 hm => va_Nw.warmF hW (h.2.2.2 a i b n d h0 hm)⟩
theorem St.same {E : Ex} {s U : State} {H : Heap} (h : St E s H) (hv : s.vm = U.vm) : St E U H := by
  have hvm : s.vm.Alike U.vm := by rw [← hv]; exact Vm.Alike.refl s.vm
  exact ⟨va_K.moved hvm h.1, fun i hi => (h.2.1 i hi).moved hvm, fun i hi => (h.2.2.1 i hi).moved hvm, fun a i b n d h0 hm => va_Nw.same rfl hv (h.2.2.2 a i b n d h0 hm)⟩
theorem met_of {E : Ex} {d : Nat} {y : Mth} {as : List Vl} {μ : Mem} {Q : Option Vl → Mem → Prop} (hE : Eok E) (hpl : plainName (mN y).cls = true) (hcl : (mN y).cls = mO y) (hlen : as.length ≤ mL y) (k : Cl E d y as μ Q) : Met (eLn E) (mN y) (mW y) (rmD d) (Pcn E as μ) (Qcn E Q) 0 0 (fr E) := by
  refine Met.ofW (cc := mC y) (maxL := mL y) (ret := mR y) hpl rfl ?_
  intro p e s m args below meth c s₁ B hml hv
  obtain ⟨rfl, hP, hSt⟩ := hv
  have hx := B.exec
  have hb := B.bytes
  have hr := B.returns
  have hts := atoms_spec (ws := mW y) B.pre
  have hown : s.vm.findClass (mN y).cls = some m.cls := findClass_of_methodNamed B.named
  rw [hcl] at hown
  have hlocks := B.notSynchronized
  rw [lg_entry_eq]
  refine k p e _ s m _ below meth c s.heap [] 0 0 _ _ ⟨hE, hx, hb, hml, hown, fun w h => hts w (List.mem_cons_of_mem _ h), ⟨Nat.le_refl d, Nat.le_refl _⟩, ⟨Nat.le_refl 0, Nat.le_refl 0⟩, hSt⟩ hP va_S.rf (LcS.entry E hlen) (fun v μ' H' locs' pc' ls' hq hP' hS' hv => ?_)
  match v, hv with
  | none, hv => exact W.vret hx hb (by rw [hr]; exact hv.2) (fun t ht hW => ⟨⟨none, μ', rfl, hq, by rw [ht]; exact hP'⟩, hS'.F ht⟩) hS'.2.2 hv.1
  | some (.inl x), hv =>
    rcases hv.2 with h1 | ⟨h1, h2⟩
    · exact W.iret (v := Int32.ofInt x) hx hb (by rw [hr]; exact h1) (fun t ht hW => ⟨⟨some (.inl x), μ', rfl, hq, by rw [ht]; exact hP'⟩, hS'.F ht⟩) hS'.2.2 hv.1
    · exact W.zret (v := Int32.ofInt x) hx hb (by rw [hr]; exact h1) (nar_ok (Or.inr ⟨rfl, h2⟩)).1 (fun t ht hW => ⟨⟨some (.inl x), μ', rfl, hq, by rw [ht]; exact hP'⟩, hS'.F ht⟩) hS'.2.2 hv.1
  | some (.inr a), hv =>
    obtain ⟨h0, C, h1⟩ := hv
    exact W.aret (v := .ref (eA E a)) hx hb (by rw [hr]; exact h1) (Or.inl ⟨C, rfl⟩) (Or.inr ⟨_, rfl⟩) (fun t ht hW => ⟨⟨some (.inr a), μ', rfl, hq, by rw [ht]; exact hP'⟩, hS'.F ht⟩) hS'.2.2 h0
theorem pcn_blind {E : Ex} {as : List Vl} {μ : Mem} : FrameBlind (Pcn E as μ) := by
  intro a U g mk h
  obtain ⟨h1, h2, h3⟩ := h
  exact ⟨h1, h2, St.same (U := U.calling g mk a) h3 rfl⟩
def Mb (y : Mth) (n : Nat) : Prop := Cond.initialized (mO y) ∈ TB ∧ Cond.code (mN y) (mC y) (mL y) (mR y) ∈ TB ∧ (mN y).cls = mO y ∧ ((mN y).cls ≠ "java/lang/invoke/MethodHandle" ∧ (mN y).cls ≠ "java/lang/invoke/VarHandle" ∧ (parseMethodDescriptor (mN y).desc).map (fun d => d.parameters.length) = some n) ∧ plainName (mN y).cls = true ∧ mL y ≤ 21
def Mv (y : Mth) (n : Nat) : Prop := Mb y n ∧ Cond.instanceMethod (mN y) ∈ TB ∧ Cond.selects (mO y) (mN y) (mN y) ∈ TB ∧ n + 1 ≤ mL y
def Ms (y : Mth) (n : Nat) : Prop := Mb y n ∧ Cond.static (mN y) ∈ TB ∧ n ≤ mL y
section Calls2
variable {E : Ex} {d : Nat} {y : Mth} {pc q : Nat} {ls : List (Option Vl)} {st stk : List Vl} {μ : Mem} {Q : Option Vl → Mem → Prop}
theorem r_goes {p : Program} {e : Env} {R : Room} {s : State} {m : MethodId} {args : Array Value} {below : List Frame} {meth : Method} {c : Code} {H : Heap} {locs : List Loc} {cells slots : Nat} {lsA : Array Slot} {QQ : State → Prop} {av : Array Value} {y' : Mth} {stv : List Value}
    (C : Cx E y d p R s m args c cells slots) (hS : va_S (fr E) s.heap H locs) (hl : LcS E lsA (mL y) ls)
    (hr : ∀ (v : Option Vl) (μ' : Mem) (H' : Heap) (locs' : List Loc) (pc' : Nat) (ls' : Array Slot), Q v μ' → va_P (eD E) vwCl (wl E μ') H' → va_S (fr E) s.heap H' locs' → retOk y pc' v → W p (eLn E) e R s m args below meth c H' locs' cells slots QQ (F0 m pc' ls' (v.toList.map (tv E))))
    (run : va_Run p (eLn E) e R s m args below meth c H locs cells slots 0 0 (F0 m pc lsA stv) (st.map (tv E)) (Qcn E (fun v μ' => Gg E d y (pc + 3) ls (v.toList ++ st) μ' Q) av) (fr E)) :
    W p (eLn E) e R s m args below meth c H locs cells slots QQ (F0 m pc lsA stv) := by
  intro T hT X
  obtain ⟨v, st₀, t, T', L, h0, X', hL, e1, e2, ⟨⟨w, μ', hv, hG, hP1⟩, hz, hk⟩, go⟩ := run T hT X
  cases hv
  rw [h0] at hz hk
  have hS1 : va_S (fr E) s.heap T'.heap (locs ++ L) := by
    refine ⟨Nat.le_trans hS.1 (by rw [e1]; exact hz), fun q h1 h2 => by rw [e1, hk q (Nat.lt_of_lt_of_le h1 hS.1) h2]; exact hS.2.1 q h1 h2, fun q hq => ?_⟩
    rcases List.mem_append.mp hq with h | h
    · exact hS.2.2 q h
    · exact hL q h
  obtain ⟨t2, a1, b1⟩ := hG p e R s m args below meth c T'.heap (locs ++ L) cells slots lsA QQ C (by rw [e1]; exact hP1) hS1 hl hr T' rfl X'
  refine ⟨t2, go t2 ?_, b1⟩
  have : (Option.map (tv E) w).toList ++ st.map (tv E) = (w.toList ++ st).map (tv E) := by cases w <;> simp
  rw [this]
  exact a1
theorem r_callV {idx d' k ci n N nn : Nat} {y' : Mth} {rs : List Nat} {T : u_T} (as : List Vl) (hd : decode (mC y) pc = .ok (.invokevirtual idx, 3)) (hq : pc + 3 = q) (hM : Mv y' nn) (hlk : Cond.methodLink (mO y) idx (mN y') ∈ TB) (hs : shp k = (ci + 4, n, rs)) (hcl : vwCl[ci]? = some (mO y', T, N)) (hn : as.length = nn) (hdd : d' + 1 ≤ d) (hsz : st.length ≤ 8) (hst : stk = as.reverse ++ .inr k :: st)
    (kk : Cl E d' y' (.inr k :: as) μ (fun v μ' => Gg E d y q ls (v.toList ++ st) μ' Q)) : Gg E d y pc ls stk μ Q := by
  intro p e R s m args below meth c H locs cells slots lsA QQ C hP hS hl hr
  obtain ⟨hE, hx, hb, hml, hown, hts, hR, hc, hSt⟩ := id C
  subst hq; subst hst
  obtain ⟨⟨m1, m2, m3, m4, m5, m6⟩, m7, m8, m9⟩ := hM
  have hk := shp_lt hs (Or.inl (by omega))
  have hMet := met_of hE m5 m3 (by rw [List.length_cons, hn]; exact m9) kk
  refine r_goes (st := st) (y' := y') (stv := (as.reverse ++ .inr k :: st).map (tv E)) (av := ((Value.ref (eA E k)) :: as.map (tv E)).toArray) C hS hl hr ?_
  refine va_runV (As := as.map (tv E)) (rest := st.map (tv E)) ⟨hx, hb, hml, hown, hts⟩ hMet (cwV nn hts (tb_gi ?_) rfl rfl rfl ⟨m3, m4⟩ ⟨?_, ?_⟩) ⟨pcn_blind, va_recv hSt.1 hP hcl ((wl_at hk).trans (by rw [ent_obj hs])), fun U hU hW => ⟨rfl, by rw [hU]; exact hP, ?_⟩⟩ rfl (by rw [List.length_map]; exact hn) hl.1 ?_ (lv_room ?_) hd ⟨by rw [Nat.add_zero]; exact hc.1, by rw [Nat.add_zero]; exact hc.2⟩
  · intro w hw
    rcases List.mem_append.mp hw with h | h
    · simp only [List.mem_cons, List.not_mem_nil, or_false] at h
      rcases h with rfl | rfl | rfl | rfl
      · exact hlk
      · exact m7
      · exact m8
      · exact m1
    · rcases List.mem_cons.mp h with rfl | h
      · exact m2
      · exact h
  · show d' + 1 ≤ R.frames
    exact Nat.le_trans hdd hR.1
  · show 8 + (mL y' + 11) + (40 * d' + 24) ≤ R.locals
    have := hR.2
    omega
  · rw [hU]
    exact St.moved hSt hS hW
  · simp [F0, tv, List.map_append, List.map_reverse]
  · rw [tv_sum]; exact hsz
theorem r_callS {idx d' nn : Nat} {y' : Mth} (as : List Vl) (hd : decode (mC y) pc = .ok (.invokestatic idx, 3)) (hq : pc + 3 = q) (hM : Ms y' nn) (hlk : Cond.methodLink (mO y) idx (mN y') ∈ TB) (hn : as.length = nn) (hdd : d' + 1 ≤ d) (hsz : st.length ≤ 8) (hst : stk = as.reverse ++ st)
    (kk : Cl E d' y' as μ (fun v μ' => Gg E d y q ls (v.toList ++ st) μ' Q)) : Gg E d y pc ls stk μ Q := by
  intro p e R s m args below meth c H locs cells slots lsA QQ C hP hS hl hr
  obtain ⟨hE, hx, hb, hml, hown, hts, hR, hc, hSt⟩ := id C
  subst hq; subst hst
  obtain ⟨⟨m1, m2, m3, m4, m5, m6⟩, m7, m9⟩ := hM
  have hMet := met_of hE m5 m3 (by rw [hn]; exact m9) kk
  refine r_goes (st := st) (y' := y') (stv := (as.reverse ++ st).map (tv E)) (av := (as.map (tv E)).toArray) C hS hl hr ?_
  refine va_runS (As := as.map (tv E)) (rest := st.map (tv E)) ⟨hx, hb, hml, hown, hts⟩ hMet (va_cwS nn hts (tb_gi ?_) rfl rfl rfl m4 ⟨?_, ?_⟩) ⟨pcn_blind, fun U hU hW => ⟨rfl, by rw [hU]; exact hP, ?_⟩⟩ rfl (by rw [List.length_map]; exact hn) hl.1 ?_ (lv_room ?_) hd ⟨by rw [Nat.add_zero]; exact hc.1, by rw [Nat.add_zero]; exact hc.2⟩
  · intro w hw
    rcases List.mem_append.mp hw with h | h
    · simp only [List.mem_cons, List.not_mem_nil, or_false] at h
      rcases h with rfl | rfl | rfl
      · exact hlk
      · exact m7
      · rw [m3]; exact m1
    · rcases List.mem_cons.mp h with rfl | h
      · exact m2
      · exact h
  · show d' + 1 ≤ R.frames
    exact Nat.le_trans hdd hR.1
  · show 8 + (mL y' + 11) + (40 * d' + 24) ≤ R.locals
    have := hR.2
    omega
  · rw [hU]
    exact St.moved hSt hS hW
  · simp [F0, List.map_append, List.map_reverse]
  · rw [tv_sum]; exact hsz
theorem r_acpy {idx ks kd n0 n1 : Nat} {rs0 rs1 : List Nat} {sp dp n : Int} (hd : decode (mC y) pc = .ok (.invokestatic idx, 3)) (hq : pc + 3 = q) (hlk : Cond.methodLink (mO y) idx arraycopyName ∈ TB) (hnat : Cond.native arraycopyName ∈ TB) (hst : Cond.static arraycopyName ∈ TB) (hin : Cond.initialized "java/lang/System" ∈ TB) (hs0 : shp ks = (0, n0, rs0)) (hs1 : shp kd = (0, n1, rs1)) (hn0 : 0 < n0 ∧ n0 < 2147483648) (hn1 : 0 < n1 ∧ n1 < 2147483648) (hn : 0 < d) (hsz : st.length ≤ 8)
    (h : (0 ≤ sp ∧ 0 ≤ dp ∧ 0 ≤ n ∧ sp + n ≤ n0 ∧ dp + n ≤ n1) ∧ Gg E d y q ls st (cpm μ ks sp kd dp n) Q) : Gg E d y pc ls (.inl n :: .inl dp :: .inr kd :: .inl sp :: .inr ks :: st) μ Q := by
  intro p e R s m args below meth c H locs cells slots lsA QQ C hP hS hl hr
  obtain ⟨hE, hx, hb, hml, hown, hts, hR, hc, hSt⟩ := id C
  subst hq
  obtain ⟨⟨h1, h2, h3, h4, h5⟩, kk⟩ := h
  have hk0 := shp_lt hs0 (Or.inr hn0.1)
  have hk1 := shp_lt hs1 (Or.inr hn1.1)
  have i1 : inR sp := by unfold inR; omega
  have i2 : inR dp := by unfold inR; omega
  have i3 : inR n := by unfold inR; omega
  refine va_copyi (ty := .int) (f := fun j => Int32.ofInt (μ ks (j : Nat))) (g := fun j => Int32.ofInt (μ kd (j : Nat))) hx hb (by rw [hml]; exact hl.1.symm) hown (hts _ hlk) (hts _ hnat) (hts _ hst) (hts _ hin) hSt.1 hP (wl_D hE) hS ks kd 0 0 ((wl_at hk0).trans (by rw [ent_int hs0])) ((wl_at hk1).trans (by rw [ent_int hs1])) rfl rfl rfl (by rw [inR_lt0 i1]; omega) (by rw [inR_lt0 i2]; omega) (by rw [inR_lt0 i3]; omega) (by rw [inR_clamp i1, inR_clamp i3]; omega) (by rw [inR_clamp i2, inR_clamp i3]; omega) (fun _ _ => rfl) (by have := hR.1; omega) ?_ hd (fun H1 locs1 hP1 hD1 hS1 => ?_)
  · rw [tv_sum]
    have e1 : nativeFrameWords "java/lang/System" "arraycopy" 5 + 11 ≤ 48 := by decide +kernel
    have := hR.2
    omega
  · refine kk p e R s m args below meth c H1 locs1 cells slots lsA QQ C ?_ hS1 hl hr
    rw [wl_put (μ' := cpm μ ks sp kd dp n) hk1 (by rw [ent_int hs1, inR_clamp i1, inR_clamp i2, inR_clamp i3, cpy_cpm h1 h2 h3]) (fun j hj => cpm_ne hj)] at hP1
    exact hP1
end Calls2
end
