section
-- ===== PART A: goes FIRST, ahead of the names: the tables' words, and 'selects' of the private methods out of them =====
/-- a private method of a class that the tables say can be made, by its rows of tables_1 -/
def lw_okq (q : MethodName × Nat) : Prop := (q.1.cls ≠ "java/lang/invoke/MethodHandle" ∧ q.1.cls ≠ "java/lang/invoke/VarHandle") ∧ Cond.instantiable q.1.cls q.2 ∈ tables_1 ∧ Cond.privateMethod q.1 ∈ tables_1 ∧ Cond.instanceMethod q.1 ∈ tables_1
theorem lw_p0 : lw_okq (⟨"AlphaCourt", "found", "(I)I"⟩, 11) := ⟨⟨by decide +kernel, by decide +kernel⟩, List.mem_of_getElem? (i := 13) (by decide +kernel), List.mem_of_getElem? (i := 288) (by decide +kernel), List.mem_of_getElem? (i := 289) (by decide +kernel)⟩
theorem lw_p1 : lw_okq (⟨"AlphaCourt", "unfound", "(I)I"⟩, 11) := ⟨⟨by decide +kernel, by decide +kernel⟩, List.mem_of_getElem? (i := 13) (by decide +kernel), List.mem_of_getElem? (i := 297) (by decide +kernel), List.mem_of_getElem? (i := 298) (by decide +kernel)⟩
theorem lw_p2 : lw_okq (⟨"AlphaCourt$Reader", "step", "()V"⟩, 8) := ⟨⟨by decide +kernel, by decide +kernel⟩, List.mem_of_getElem? (i := 23) (by decide +kernel), List.mem_of_getElem? (i := 350) (by decide +kernel), List.mem_of_getElem? (i := 351) (by decide +kernel)⟩
theorem lw_p3 : lw_okq (⟨"AlphaCourt$Reader", "isFigureAt", "(I)Z"⟩, 8) := ⟨⟨by decide +kernel, by decide +kernel⟩, List.mem_of_getElem? (i := 23) (by decide +kernel), List.mem_of_getElem? (i := 354) (by decide +kernel), List.mem_of_getElem? (i := 355) (by decide +kernel)⟩
theorem lw_p4 : lw_okq (⟨"AlphaCourt$Reader", "readLaw", "(LAlphaCourt$Court;)Z"⟩, 8) := ⟨⟨by decide +kernel, by decide +kernel⟩, List.mem_of_getElem? (i := 23) (by decide +kernel), List.mem_of_getElem? (i := 358) (by decide +kernel), List.mem_of_getElem? (i := 359) (by decide +kernel)⟩
theorem lw_p5 : lw_okq (⟨"AlphaCourt$Reader", "passOver", "(I)Z"⟩, 8) := ⟨⟨by decide +kernel, by decide +kernel⟩, List.mem_of_getElem? (i := 23) (by decide +kernel), List.mem_of_getElem? (i := 362) (by decide +kernel), List.mem_of_getElem? (i := 363) (by decide +kernel)⟩
theorem lw_p6 : lw_okq (⟨"AlphaCourt$Reader", "hasFault", "(I)Z"⟩, 8) := ⟨⟨by decide +kernel, by decide +kernel⟩, List.mem_of_getElem? (i := 23) (by decide +kernel), List.mem_of_getElem? (i := 366) (by decide +kernel), List.mem_of_getElem? (i := 367) (by decide +kernel)⟩
theorem lw_p7 : lw_okq (⟨"AlphaCourt$Reader", "isNumberIn", "(II)Z"⟩, 8) := ⟨⟨by decide +kernel, by decide +kernel⟩, List.mem_of_getElem? (i := 23) (by decide +kernel), List.mem_of_getElem? (i := 370) (by decide +kernel), List.mem_of_getElem? (i := 371) (by decide +kernel)⟩
theorem lw_p8 : lw_okq (⟨"AlphaCourt$Reader", "takeNumber", "()I"⟩, 8) := ⟨⟨by decide +kernel, by decide +kernel⟩, List.mem_of_getElem? (i := 23) (by decide +kernel), List.mem_of_getElem? (i := 374) (by decide +kernel), List.mem_of_getElem? (i := 375) (by decide +kernel)⟩
theorem lw_p9 : lw_okq (⟨"AlphaCourt$Reader", "readOrder", "(LAlphaCourt$Court;)Z"⟩, 8) := ⟨⟨by decide +kernel, by decide +kernel⟩, List.mem_of_getElem? (i := 23) (by decide +kernel), List.mem_of_getElem? (i := 378) (by decide +kernel), List.mem_of_getElem? (i := 379) (by decide +kernel)⟩
theorem lw_p10 : lw_okq (⟨"AlphaCourt$Reader", "isLetter", "()Z"⟩, 8) := ⟨⟨by decide +kernel, by decide +kernel⟩, List.mem_of_getElem? (i := 23) (by decide +kernel), List.mem_of_getElem? (i := 382) (by decide +kernel), List.mem_of_getElem? (i := 383) (by decide +kernel)⟩
theorem lw_p11 : lw_okq (⟨"AlphaCourt$Reader", "letterOfToken", "()I"⟩, 8) := ⟨⟨by decide +kernel, by decide +kernel⟩, List.mem_of_getElem? (i := 23) (by decide +kernel), List.mem_of_getElem? (i := 386) (by decide +kernel), List.mem_of_getElem? (i := 387) (by decide +kernel)⟩
theorem lw_p12 : lw_okq (⟨"AlphaCourt$Reader", "readPeople", "(LAlphaCourt$Court;)Z"⟩, 8) := ⟨⟨by decide +kernel, by decide +kernel⟩, List.mem_of_getElem? (i := 23) (by decide +kernel), List.mem_of_getElem? (i := 394) (by decide +kernel), List.mem_of_getElem? (i := 395) (by decide +kernel)⟩
theorem lw_p13 : lw_okq (⟨"AlphaCourt$Reader", "readPerson", "(LAlphaCourt$Court;I)Z"⟩, 8) := ⟨⟨by decide +kernel, by decide +kernel⟩, List.mem_of_getElem? (i := 23) (by decide +kernel), List.mem_of_getElem? (i := 398) (by decide +kernel), List.mem_of_getElem? (i := 399) (by decide +kernel)⟩
theorem lw_p14 : lw_okq (⟨"AlphaCourt$Court", "openDay", "(I)I"⟩, 16) := ⟨⟨by decide +kernel, by decide +kernel⟩, List.mem_of_getElem? (i := 58) (by decide +kernel), List.mem_of_getElem? (i := 429) (by decide +kernel), List.mem_of_getElem? (i := 430) (by decide +kernel)⟩
theorem lw_p15 : lw_okq (⟨"AlphaCourt$Court", "servesOn", "(II)Z"⟩, 16) := ⟨⟨by decide +kernel, by decide +kernel⟩, List.mem_of_getElem? (i := 58) (by decide +kernel), List.mem_of_getElem? (i := 434) (by decide +kernel), List.mem_of_getElem? (i := 435) (by decide +kernel)⟩
def lw_privs_1 : List (MethodName × Nat) := [(⟨"AlphaCourt", "found", "(I)I"⟩, 11), (⟨"AlphaCourt", "unfound", "(I)I"⟩, 11), (⟨"AlphaCourt$Reader", "step", "()V"⟩, 8), (⟨"AlphaCourt$Reader", "isFigureAt", "(I)Z"⟩, 8), (⟨"AlphaCourt$Reader", "readLaw", "(LAlphaCourt$Court;)Z"⟩, 8), (⟨"AlphaCourt$Reader", "passOver", "(I)Z"⟩, 8), (⟨"AlphaCourt$Reader", "hasFault", "(I)Z"⟩, 8), (⟨"AlphaCourt$Reader", "isNumberIn", "(II)Z"⟩, 8), (⟨"AlphaCourt$Reader", "takeNumber", "()I"⟩, 8), (⟨"AlphaCourt$Reader", "readOrder", "(LAlphaCourt$Court;)Z"⟩, 8), (⟨"AlphaCourt$Reader", "isLetter", "()Z"⟩, 8), (⟨"AlphaCourt$Reader", "letterOfToken", "()I"⟩, 8), (⟨"AlphaCourt$Reader", "readPeople", "(LAlphaCourt$Court;)Z"⟩, 8), (⟨"AlphaCourt$Reader", "readPerson", "(LAlphaCourt$Court;I)Z"⟩, 8), (⟨"AlphaCourt$Court", "openDay", "(I)I"⟩, 16), (⟨"AlphaCourt$Court", "servesOn", "(II)Z"⟩, 16)]
theorem lw_r1 : ∀ q ∈ lw_privs_1, lw_okq q := List.forall_mem_cons.mpr ⟨lw_p0, List.forall_mem_cons.mpr ⟨lw_p1, List.forall_mem_cons.mpr ⟨lw_p2, List.forall_mem_cons.mpr ⟨lw_p3, List.forall_mem_cons.mpr ⟨lw_p4, List.forall_mem_cons.mpr ⟨lw_p5, List.forall_mem_cons.mpr ⟨lw_p6, List.forall_mem_cons.mpr ⟨lw_p7, List.forall_mem_cons.mpr ⟨lw_p8, List.forall_mem_cons.mpr ⟨lw_p9, List.forall_mem_cons.mpr ⟨lw_p10, List.forall_mem_cons.mpr ⟨lw_p11, List.forall_mem_cons.mpr ⟨lw_p12, List.forall_mem_cons.mpr ⟨lw_p13, List.forall_mem_cons.mpr ⟨lw_p14, List.forall_mem_cons.mpr ⟨lw_p15, fun _ h => absurd h List.not_mem_nil⟩⟩⟩⟩⟩⟩⟩⟩⟩⟩⟩⟩⟩⟩⟩⟩
theorem lw_p16 : lw_okq (⟨"AlphaCourt$Court", "firstOn", "(II)I"⟩, 16) := ⟨⟨by decide +kernel, by decide +kernel⟩, List.mem_of_getElem? (i := 58) (by decide +kernel), List.mem_of_getElem? (i := 449) (by decide +kernel), List.mem_of_getElem? (i := 450) (by decide +kernel)⟩
theorem lw_p17 : lw_okq (⟨"AlphaCourt$Court", "compareNames", "(III)I"⟩, 16) := ⟨⟨by decide +kernel, by decide +kernel⟩, List.mem_of_getElem? (i := 58) (by decide +kernel), List.mem_of_getElem? (i := 475) (by decide +kernel), List.mem_of_getElem? (i := 476) (by decide +kernel)⟩
theorem lw_p18 : lw_okq (⟨"AlphaCourt$Court", "letterAsRead", "(II)I"⟩, 16) := ⟨⟨by decide +kernel, by decide +kernel⟩, List.mem_of_getElem? (i := 58) (by decide +kernel), List.mem_of_getElem? (i := 479) (by decide +kernel), List.mem_of_getElem? (i := 480) (by decide +kernel)⟩
theorem lw_p19 : lw_okq (⟨"AlphaCourt$Court", "placeInOrder", "(II)I"⟩, 16) := ⟨⟨by decide +kernel, by decide +kernel⟩, List.mem_of_getElem? (i := 58) (by decide +kernel), List.mem_of_getElem? (i := 483) (by decide +kernel), List.mem_of_getElem? (i := 484) (by decide +kernel)⟩
theorem lw_p20 : lw_okq (⟨"AlphaCourt$Acts", "keep", "(IIII)V"⟩, 6) := ⟨⟨by decide +kernel, by decide +kernel⟩, List.mem_of_getElem? (i := 146) (by decide +kernel), List.mem_of_getElem? (i := 491) (by decide +kernel), List.mem_of_getElem? (i := 492) (by decide +kernel)⟩
theorem lw_p21 : lw_okq (⟨"AlphaCourt$Acts", "latestPlace", "()I"⟩, 6) := ⟨⟨by decide +kernel, by decide +kernel⟩, List.mem_of_getElem? (i := 146) (by decide +kernel), List.mem_of_getElem? (i := 495) (by decide +kernel), List.mem_of_getElem? (i := 496) (by decide +kernel)⟩
theorem lw_p22 : lw_okq (⟨"AlphaCourt", "isPlaceOfName", "(II)Z"⟩, 11) := ⟨⟨by decide +kernel, by decide +kernel⟩, List.mem_of_getElem? (i := 13) (by decide +kernel), List.mem_of_getElem? (i := 511) (by decide +kernel), List.mem_of_getElem? (i := 512) (by decide +kernel)⟩
theorem lw_p23 : lw_okq (⟨"AlphaCourt", "isPerson", "(I)Z"⟩, 11) := ⟨⟨by decide +kernel, by decide +kernel⟩, List.mem_of_getElem? (i := 13) (by decide +kernel), List.mem_of_getElem? (i := 515) (by decide +kernel), List.mem_of_getElem? (i := 516) (by decide +kernel)⟩
theorem lw_p24 : lw_okq (⟨"AlphaCourt", "foretell", "(I)LAlphaCourt$Court;"⟩, 11) := ⟨⟨by decide +kernel, by decide +kernel⟩, List.mem_of_getElem? (i := 13) (by decide +kernel), List.mem_of_getElem? (i := 575) (by decide +kernel), List.mem_of_getElem? (i := 576) (by decide +kernel)⟩
theorem lw_p25 : lw_okq (⟨"AlphaCourt$Renaming", "canBeBehind", "(III)Z"⟩, 1) := ⟨⟨by decide +kernel, by decide +kernel⟩, List.mem_of_getElem? (i := 172) (by decide +kernel), List.mem_of_getElem? (i := 602) (by decide +kernel), List.mem_of_getElem? (i := 603) (by decide +kernel)⟩
theorem lw_p26 : lw_okq (⟨"AlphaCourt$Renaming", "tryNames", "(LAlphaCourt$Court;IIIII)Z"⟩, 1) := ⟨⟨by decide +kernel, by decide +kernel⟩, List.mem_of_getElem? (i := 172) (by decide +kernel), List.mem_of_getElem? (i := 610) (by decide +kernel), List.mem_of_getElem? (i := 611) (by decide +kernel)⟩
theorem lw_p27 : lw_okq (⟨"AlphaCourt$Planner", "openSeats", "(LAlphaCourt$Court;)V"⟩, 6) := ⟨⟨by decide +kernel, by decide +kernel⟩, List.mem_of_getElem? (i := 185) (by decide +kernel), List.mem_of_getElem? (i := 627) (by decide +kernel), List.mem_of_getElem? (i := 628) (by decide +kernel)⟩
theorem lw_p28 : lw_okq (⟨"AlphaCourt$Planner", "seatOneByOne", "(LAlphaCourt$Court;III)V"⟩, 6) := ⟨⟨by decide +kernel, by decide +kernel⟩, List.mem_of_getElem? (i := 185) (by decide +kernel), List.mem_of_getElem? (i := 635) (by decide +kernel), List.mem_of_getElem? (i := 636) (by decide +kernel)⟩
theorem lw_p29 : lw_okq (⟨"AlphaCourt$Planner", "firstOpenSeat", "()I"⟩, 6) := ⟨⟨by decide +kernel, by decide +kernel⟩, List.mem_of_getElem? (i := 185) (by decide +kernel), List.mem_of_getElem? (i := 640) (by decide +kernel), List.mem_of_getElem? (i := 641) (by decide +kernel)⟩
theorem lw_p30 : lw_okq (⟨"AlphaCourt", "areAllPeople", "(LAlphaCourt$Row;II)Z"⟩, 11) := ⟨⟨by decide +kernel, by decide +kernel⟩, List.mem_of_getElem? (i := 13) (by decide +kernel), List.mem_of_getElem? (i := 656) (by decide +kernel), List.mem_of_getElem? (i := 657) (by decide +kernel)⟩
theorem lw_p31 : lw_okq (⟨"AlphaCourt", "areSeatedNext", "(LAlphaCourt$Row;III)Z"⟩, 11) := ⟨⟨by decide +kernel, by decide +kernel⟩, List.mem_of_getElem? (i := 13) (by decide +kernel), List.mem_of_getElem? (i := 660) (by decide +kernel), List.mem_of_getElem? (i := 661) (by decide +kernel)⟩
def lw_privs_2 : List (MethodName × Nat) := [(⟨"AlphaCourt$Court", "firstOn", "(II)I"⟩, 16), (⟨"AlphaCourt$Court", "compareNames", "(III)I"⟩, 16), (⟨"AlphaCourt$Court", "letterAsRead", "(II)I"⟩, 16), (⟨"AlphaCourt$Court", "placeInOrder", "(II)I"⟩, 16), (⟨"AlphaCourt$Acts", "keep", "(IIII)V"⟩, 6), (⟨"AlphaCourt$Acts", "latestPlace", "()I"⟩, 6), (⟨"AlphaCourt", "isPlaceOfName", "(II)Z"⟩, 11), (⟨"AlphaCourt", "isPerson", "(I)Z"⟩, 11), (⟨"AlphaCourt", "foretell", "(I)LAlphaCourt$Court;"⟩, 11), (⟨"AlphaCourt$Renaming", "canBeBehind", "(III)Z"⟩, 1), (⟨"AlphaCourt$Renaming", "tryNames", "(LAlphaCourt$Court;IIIII)Z"⟩, 1), (⟨"AlphaCourt$Planner", "openSeats", "(LAlphaCourt$Court;)V"⟩, 6), (⟨"AlphaCourt$Planner", "seatOneByOne", "(LAlphaCourt$Court;III)V"⟩, 6), (⟨"AlphaCourt$Planner", "firstOpenSeat", "()I"⟩, 6), (⟨"AlphaCourt", "areAllPeople", "(LAlphaCourt$Row;II)Z"⟩, 11), (⟨"AlphaCourt", "areSeatedNext", "(LAlphaCourt$Row;III)Z"⟩, 11)]
theorem lw_r2 : ∀ q ∈ lw_privs_2, lw_okq q := List.forall_mem_cons.mpr ⟨lw_p16, List.forall_mem_cons.mpr ⟨lw_p17, List.forall_mem_cons.mpr ⟨lw_p18, List.forall_mem_cons.mpr ⟨lw_p19, List.forall_mem_cons.mpr ⟨lw_p20, List.forall_mem_cons.mpr ⟨lw_p21, List.forall_mem_cons.mpr ⟨lw_p22, List.forall_mem_cons.mpr ⟨lw_p23, List.forall_mem_cons.mpr ⟨lw_p24, List.forall_mem_cons.mpr ⟨lw_p25, List.forall_mem_cons.mpr ⟨lw_p26, List.forall_mem_cons.mpr ⟨lw_p27, List.forall_mem_cons.mpr ⟨lw_p28, List.forall_mem_cons.mpr ⟨lw_p29, List.forall_mem_cons.mpr ⟨lw_p30, List.forall_mem_cons.mpr ⟨lw_p31, fun _ h => absurd h List.not_mem_nil⟩⟩⟩⟩⟩⟩⟩⟩⟩⟩⟩⟩⟩⟩⟩⟩
theorem lw_p32 : lw_okq (⟨"AlphaCourt$Asks", "give", "(LAlphaCourt$Court;III)I"⟩, 2) := ⟨⟨by decide +kernel, by decide +kernel⟩, List.mem_of_getElem? (i := 213) (by decide +kernel), List.mem_of_getElem? (i := 697) (by decide +kernel), List.mem_of_getElem? (i := 698) (by decide +kernel)⟩
theorem lw_p33 : lw_okq (⟨"AlphaCourt$Asks", "leave", "(I)V"⟩, 2) := ⟨⟨by decide +kernel, by decide +kernel⟩, List.mem_of_getElem? (i := 213) (by decide +kernel), List.mem_of_getElem? (i := 701) (by decide +kernel), List.mem_of_getElem? (i := 702) (by decide +kernel)⟩
theorem lw_p34 : lw_okq (⟨"AlphaCourt", "howManyRows", "()I"⟩, 11) := ⟨⟨by decide +kernel, by decide +kernel⟩, List.mem_of_getElem? (i := 13) (by decide +kernel), List.mem_of_getElem? (i := 713) (by decide +kernel), List.mem_of_getElem? (i := 714) (by decide +kernel)⟩
theorem lw_p35 : lw_okq (⟨"AlphaCourtModel", "found", "(I)I"⟩, 27) := ⟨⟨by decide +kernel, by decide +kernel⟩, List.mem_of_getElem? (i := 721) (by decide +kernel), List.mem_of_getElem? (i := 822) (by decide +kernel), List.mem_of_getElem? (i := 823) (by decide +kernel)⟩
theorem lw_p36 : lw_okq (⟨"AlphaCourtModel", "well", "(I)I"⟩, 27) := ⟨⟨by decide +kernel, by decide +kernel⟩, List.mem_of_getElem? (i := 721) (by decide +kernel), List.mem_of_getElem? (i := 827) (by decide +kernel), List.mem_of_getElem? (i := 828) (by decide +kernel)⟩
theorem lw_p37 : lw_okq (⟨"AlphaCourtModel", "isMissing", "(I)Z"⟩, 27) := ⟨⟨by decide +kernel, by decide +kernel⟩, List.mem_of_getElem? (i := 721) (by decide +kernel), List.mem_of_getElem? (i := 835) (by decide +kernel), List.mem_of_getElem? (i := 836) (by decide +kernel)⟩
theorem lw_p38 : lw_okq (⟨"AlphaCourtModel", "isPart", "(III)Z"⟩, 27) := ⟨⟨by decide +kernel, by decide +kernel⟩, List.mem_of_getElem? (i := 721) (by decide +kernel), List.mem_of_getElem? (i := 846) (by decide +kernel), List.mem_of_getElem? (i := 847) (by decide +kernel)⟩
theorem lw_p39 : lw_okq (⟨"AlphaCourtModel", "advances", "()V"⟩, 27) := ⟨⟨by decide +kernel, by decide +kernel⟩, List.mem_of_getElem? (i := 721) (by decide +kernel), List.mem_of_getElem? (i := 863) (by decide +kernel), List.mem_of_getElem? (i := 864) (by decide +kernel)⟩
theorem lw_p40 : lw_okq (⟨"AlphaCourtModel", "byteAt", "(I)I"⟩, 27) := ⟨⟨by decide +kernel, by decide +kernel⟩, List.mem_of_getElem? (i := 721) (by decide +kernel), List.mem_of_getElem? (i := 867) (by decide +kernel), List.mem_of_getElem? (i := 868) (by decide +kernel)⟩
theorem lw_p41 : lw_okq (⟨"AlphaCourtModel", "takes", "(ZI)I"⟩, 27) := ⟨⟨by decide +kernel, by decide +kernel⟩, List.mem_of_getElem? (i := 721) (by decide +kernel), List.mem_of_getElem? (i := 871) (by decide +kernel), List.mem_of_getElem? (i := 872) (by decide +kernel)⟩
theorem lw_p42 : lw_okq (⟨"AlphaCourtModel", "isWell", "()Z"⟩, 27) := ⟨⟨by decide +kernel, by decide +kernel⟩, List.mem_of_getElem? (i := 721) (by decide +kernel), List.mem_of_getElem? (i := 875) (by decide +kernel), List.mem_of_getElem? (i := 876) (by decide +kernel)⟩
theorem lw_p43 : lw_okq (⟨"AlphaCourtModel", "figure", "(II)I"⟩, 27) := ⟨⟨by decide +kernel, by decide +kernel⟩, List.mem_of_getElem? (i := 721) (by decide +kernel), List.mem_of_getElem? (i := 879) (by decide +kernel), List.mem_of_getElem? (i := 880) (by decide +kernel)⟩
theorem lw_p44 : lw_okq (⟨"AlphaCourtModel", "readsOrder", "()V"⟩, 27) := ⟨⟨by decide +kernel, by decide +kernel⟩, List.mem_of_getElem? (i := 721) (by decide +kernel), List.mem_of_getElem? (i := 883) (by decide +kernel), List.mem_of_getElem? (i := 884) (by decide +kernel)⟩
theorem lw_p45 : lw_okq (⟨"AlphaCourtModel", "isName", "()Z"⟩, 27) := ⟨⟨by decide +kernel, by decide +kernel⟩, List.mem_of_getElem? (i := 721) (by decide +kernel), List.mem_of_getElem? (i := 887) (by decide +kernel), List.mem_of_getElem? (i := 888) (by decide +kernel)⟩
theorem lw_p46 : lw_okq (⟨"AlphaCourtModel", "readsPerson", "()V"⟩, 27) := ⟨⟨by decide +kernel, by decide +kernel⟩, List.mem_of_getElem? (i := 721) (by decide +kernel), List.mem_of_getElem? (i := 897) (by decide +kernel), List.mem_of_getElem? (i := 898) (by decide +kernel)⟩
theorem lw_p47 : lw_okq (⟨"AlphaCourtModel", "takes2", "(Z)V"⟩, 27) := ⟨⟨by decide +kernel, by decide +kernel⟩, List.mem_of_getElem? (i := 721) (by decide +kernel), List.mem_of_getElem? (i := 901) (by decide +kernel), List.mem_of_getElem? (i := 902) (by decide +kernel)⟩
def lw_privs_3 : List (MethodName × Nat) := [(⟨"AlphaCourt$Asks", "give", "(LAlphaCourt$Court;III)I"⟩, 2), (⟨"AlphaCourt$Asks", "leave", "(I)V"⟩, 2), (⟨"AlphaCourt", "howManyRows", "()I"⟩, 11), (⟨"AlphaCourtModel", "found", "(I)I"⟩, 27), (⟨"AlphaCourtModel", "well", "(I)I"⟩, 27), (⟨"AlphaCourtModel", "isMissing", "(I)Z"⟩, 27), (⟨"AlphaCourtModel", "isPart", "(III)Z"⟩, 27), (⟨"AlphaCourtModel", "advances", "()V"⟩, 27), (⟨"AlphaCourtModel", "byteAt", "(I)I"⟩, 27), (⟨"AlphaCourtModel", "takes", "(ZI)I"⟩, 27), (⟨"AlphaCourtModel", "isWell", "()Z"⟩, 27), (⟨"AlphaCourtModel", "figure", "(II)I"⟩, 27), (⟨"AlphaCourtModel", "readsOrder", "()V"⟩, 27), (⟨"AlphaCourtModel", "isName", "()Z"⟩, 27), (⟨"AlphaCourtModel", "readsPerson", "()V"⟩, 27), (⟨"AlphaCourtModel", "takes2", "(Z)V"⟩, 27)]
theorem lw_r3 : ∀ q ∈ lw_privs_3, lw_okq q := List.forall_mem_cons.mpr ⟨lw_p32, List.forall_mem_cons.mpr ⟨lw_p33, List.forall_mem_cons.mpr ⟨lw_p34, List.forall_mem_cons.mpr ⟨lw_p35, List.forall_mem_cons.mpr ⟨lw_p36, List.forall_mem_cons.mpr ⟨lw_p37, List.forall_mem_cons.mpr ⟨lw_p38, List.forall_mem_cons.mpr ⟨lw_p39, List.forall_mem_cons.mpr ⟨lw_p40, List.forall_mem_cons.mpr ⟨lw_p41, List.forall_mem_cons.mpr ⟨lw_p42, List.forall_mem_cons.mpr ⟨lw_p43, List.forall_mem_cons.mpr ⟨lw_p44, List.forall_mem_cons.mpr ⟨lw_p45, List.forall_mem_cons.mpr ⟨lw_p46, List.forall_mem_cons.mpr ⟨lw_p47, fun _ h => absurd h List.not_mem_nil⟩⟩⟩⟩⟩⟩⟩⟩⟩⟩⟩⟩⟩⟩⟩⟩
theorem lw_p48 : lw_okq (⟨"AlphaCourtModel", "isCourt", "()Z"⟩, 27) := ⟨⟨by decide +kernel, by decide +kernel⟩, List.mem_of_getElem? (i := 721) (by decide +kernel), List.mem_of_getElem? (i := 917) (by decide +kernel), List.mem_of_getElem? (i := 918) (by decide +kernel)⟩
theorem lw_p49 : lw_okq (⟨"AlphaCourtModel", "notes", "()V"⟩, 27) := ⟨⟨by decide +kernel, by decide +kernel⟩, List.mem_of_getElem? (i := 721) (by decide +kernel), List.mem_of_getElem? (i := 922) (by decide +kernel), List.mem_of_getElem? (i := 923) (by decide +kernel)⟩
theorem lw_p50 : lw_okq (⟨"AlphaCourtModel", "passes", "([II)V"⟩, 27) := ⟨⟨by decide +kernel, by decide +kernel⟩, List.mem_of_getElem? (i := 721) (by decide +kernel), List.mem_of_getElem? (i := 926) (by decide +kernel), List.mem_of_getElem? (i := 927) (by decide +kernel)⟩
theorem lw_p51 : lw_okq (⟨"AlphaCourtModel", "isPlaceOf", "(II)Z"⟩, 27) := ⟨⟨by decide +kernel, by decide +kernel⟩, List.mem_of_getElem? (i := 721) (by decide +kernel), List.mem_of_getElem? (i := 967) (by decide +kernel), List.mem_of_getElem? (i := 968) (by decide +kernel)⟩
theorem lw_p52 : lw_okq (⟨"AlphaCourtModel", "isPerson", "(I)Z"⟩, 27) := ⟨⟨by decide +kernel, by decide +kernel⟩, List.mem_of_getElem? (i := 721) (by decide +kernel), List.mem_of_getElem? (i := 971) (by decide +kernel), List.mem_of_getElem? (i := 972) (by decide +kernel)⟩
theorem lw_p53 : lw_okq (⟨"AlphaCourtModel", "beforeIt", "(I)I"⟩, 27) := ⟨⟨by decide +kernel, by decide +kernel⟩, List.mem_of_getElem? (i := 721) (by decide +kernel), List.mem_of_getElem? (i := 987) (by decide +kernel), List.mem_of_getElem? (i := 988) (by decide +kernel)⟩
theorem lw_p54 : lw_okq (⟨"AlphaCourtModel", "goes", "(I)V"⟩, 27) := ⟨⟨by decide +kernel, by decide +kernel⟩, List.mem_of_getElem? (i := 721) (by decide +kernel), List.mem_of_getElem? (i := 1003) (by decide +kernel), List.mem_of_getElem? (i := 1004) (by decide +kernel)⟩
theorem lw_p55 : lw_okq (⟨"AlphaCourtModel", "waitedTried", "()I"⟩, 27) := ⟨⟨by decide +kernel, by decide +kernel⟩, List.mem_of_getElem? (i := 721) (by decide +kernel), List.mem_of_getElem? (i := 1011) (by decide +kernel), List.mem_of_getElem? (i := 1012) (by decide +kernel)⟩
theorem lw_p56 : lw_okq (⟨"AlphaCourtModel", "lays", "(II)I"⟩, 27) := ⟨⟨by decide +kernel, by decide +kernel⟩, List.mem_of_getElem? (i := 721) (by decide +kernel), List.mem_of_getElem? (i := 1022) (by decide +kernel), List.mem_of_getElem? (i := 1023) (by decide +kernel)⟩
theorem lw_p57 : lw_okq (⟨"AlphaCourtModel", "isLast", "([II)Z"⟩, 27) := ⟨⟨by decide +kernel, by decide +kernel⟩, List.mem_of_getElem? (i := 721) (by decide +kernel), List.mem_of_getElem? (i := 1026) (by decide +kernel), List.mem_of_getElem? (i := 1027) (by decide +kernel)⟩
theorem lw_p58 : lw_okq (⟨"AlphaCourtModel", "lines", "(II)Z"⟩, 27) := ⟨⟨by decide +kernel, by decide +kernel⟩, List.mem_of_getElem? (i := 721) (by decide +kernel), List.mem_of_getElem? (i := 1038) (by decide +kernel), List.mem_of_getElem? (i := 1039) (by decide +kernel)⟩
theorem lw_p59 : lw_okq (⟨"AlphaCourtModel", "waitedByLine", "(I)I"⟩, 27) := ⟨⟨by decide +kernel, by decide +kernel⟩, List.mem_of_getElem? (i := 721) (by decide +kernel), List.mem_of_getElem? (i := 1042) (by decide +kernel), List.mem_of_getElem? (i := 1043) (by decide +kernel)⟩
theorem lw_p60 : lw_okq (⟨"AlphaCourtModel", "passedBy", "(I)I"⟩, 27) := ⟨⟨by decide +kernel, by decide +kernel⟩, List.mem_of_getElem? (i := 721) (by decide +kernel), List.mem_of_getElem? (i := 1051) (by decide +kernel), List.mem_of_getElem? (i := 1052) (by decide +kernel)⟩
theorem lw_p61 : lw_okq (⟨"AlphaCourtModel", "saintSize", "(I)I"⟩, 27) := ⟨⟨by decide +kernel, by decide +kernel⟩, List.mem_of_getElem? (i := 721) (by decide +kernel), List.mem_of_getElem? (i := 1079) (by decide +kernel), List.mem_of_getElem? (i := 1080) (by decide +kernel)⟩
theorem lw_p62 : lw_okq (⟨"AlphaCourtModel", "begins", "(I)V"⟩, 27) := ⟨⟨by decide +kernel, by decide +kernel⟩, List.mem_of_getElem? (i := 721) (by decide +kernel), List.mem_of_getElem? (i := 1083) (by decide +kernel), List.mem_of_getElem? (i := 1084) (by decide +kernel)⟩
theorem lw_p63 : lw_okq (⟨"AlphaCourtModel", "plainSize", "(I)I"⟩, 27) := ⟨⟨by decide +kernel, by decide +kernel⟩, List.mem_of_getElem? (i := 721) (by decide +kernel), List.mem_of_getElem? (i := 1087) (by decide +kernel), List.mem_of_getElem? (i := 1088) (by decide +kernel)⟩
def lw_privs_4 : List (MethodName × Nat) := [(⟨"AlphaCourtModel", "isCourt", "()Z"⟩, 27), (⟨"AlphaCourtModel", "notes", "()V"⟩, 27), (⟨"AlphaCourtModel", "passes", "([II)V"⟩, 27), (⟨"AlphaCourtModel", "isPlaceOf", "(II)Z"⟩, 27), (⟨"AlphaCourtModel", "isPerson", "(I)Z"⟩, 27), (⟨"AlphaCourtModel", "beforeIt", "(I)I"⟩, 27), (⟨"AlphaCourtModel", "goes", "(I)V"⟩, 27), (⟨"AlphaCourtModel", "waitedTried", "()I"⟩, 27), (⟨"AlphaCourtModel", "lays", "(II)I"⟩, 27), (⟨"AlphaCourtModel", "isLast", "([II)Z"⟩, 27), (⟨"AlphaCourtModel", "lines", "(II)Z"⟩, 27), (⟨"AlphaCourtModel", "waitedByLine", "(I)I"⟩, 27), (⟨"AlphaCourtModel", "passedBy", "(I)I"⟩, 27), (⟨"AlphaCourtModel", "saintSize", "(I)I"⟩, 27), (⟨"AlphaCourtModel", "begins", "(I)V"⟩, 27), (⟨"AlphaCourtModel", "plainSize", "(I)I"⟩, 27)]
theorem lw_r4 : ∀ q ∈ lw_privs_4, lw_okq q := List.forall_mem_cons.mpr ⟨lw_p48, List.forall_mem_cons.mpr ⟨lw_p49, List.forall_mem_cons.mpr ⟨lw_p50, List.forall_mem_cons.mpr ⟨lw_p51, List.forall_mem_cons.mpr ⟨lw_p52, List.forall_mem_cons.mpr ⟨lw_p53, List.forall_mem_cons.mpr ⟨lw_p54, List.forall_mem_cons.mpr ⟨lw_p55, List.forall_mem_cons.mpr ⟨lw_p56, List.forall_mem_cons.mpr ⟨lw_p57, List.forall_mem_cons.mpr ⟨lw_p58, List.forall_mem_cons.mpr ⟨lw_p59, List.forall_mem_cons.mpr ⟨lw_p60, List.forall_mem_cons.mpr ⟨lw_p61, List.forall_mem_cons.mpr ⟨lw_p62, List.forall_mem_cons.mpr ⟨lw_p63, fun _ h => absurd h List.not_mem_nil⟩⟩⟩⟩⟩⟩⟩⟩⟩⟩⟩⟩⟩⟩⟩⟩
theorem lw_p64 : lw_okq (⟨"AlphaCourtModel", "plainMark", "(I)I"⟩, 27) := ⟨⟨by decide +kernel, by decide +kernel⟩, List.mem_of_getElem? (i := 721) (by decide +kernel), List.mem_of_getElem? (i := 1091) (by decide +kernel), List.mem_of_getElem? (i := 1092) (by decide +kernel)⟩
theorem lw_p65 : lw_okq (⟨"AlphaCourtModel", "saintMark", "(I)I"⟩, 27) := ⟨⟨by decide +kernel, by decide +kernel⟩, List.mem_of_getElem? (i := 721) (by decide +kernel), List.mem_of_getElem? (i := 1095) (by decide +kernel), List.mem_of_getElem? (i := 1096) (by decide +kernel)⟩
def lw_privs_5 : List (MethodName × Nat) := [(⟨"AlphaCourtModel", "plainMark", "(I)I"⟩, 27), (⟨"AlphaCourtModel", "saintMark", "(I)I"⟩, 27)]
theorem lw_r5 : ∀ q ∈ lw_privs_5, lw_okq q := List.forall_mem_cons.mpr ⟨lw_p64, List.forall_mem_cons.mpr ⟨lw_p65, fun _ h => absurd h List.not_mem_nil⟩⟩
def lw_privs : List (MethodName × Nat) := lw_privs_1 ++ (lw_privs_2 ++ (lw_privs_3 ++ (lw_privs_4 ++ (lw_privs_5))))
def lw_tbl : List Cond := k2_sels lw_privs ++ tables_1
theorem lw_privs_ok : ∀ q ∈ lw_privs, lw_okq q := by
  show ∀ q ∈ lw_privs_1 ++ (lw_privs_2 ++ (lw_privs_3 ++ (lw_privs_4 ++ (lw_privs_5)))), lw_okq q
  exact List.forall_mem_append.mpr ⟨lw_r1, List.forall_mem_append.mpr ⟨lw_r2, List.forall_mem_append.mpr ⟨lw_r3, List.forall_mem_append.mpr ⟨lw_r4, lw_r5⟩⟩⟩⟩
end
section
def RX0 : String := "AlphaCourt$Acts"
def TX0 : u_T := fun k => match k with
  | 0 => ("AlphaCourt$Acts", "sorts", "[I", true)
  | 1 => ("AlphaCourt$Acts", "people", "[I", true)
  | 2 => ("AlphaCourt$Acts", "places", "[I", true)
  | 3 => ("AlphaCourt$Acts", "letters", "[I", true)
  | 4 => ("AlphaCourt$Acts", "oldest", "I", false)
  | _ => ("AlphaCourt$Acts", "size", "I", false)
def tyX0 : Nat → FieldType := fun k => match k with
  | 0 => .array .int
  | 1 => .array .int
  | 2 => .array .int
  | 3 => .array .int
  | 4 => .int
  | _ => .int
theorem nmX0 : ∀ a, a < 6 → ∀ b, b < 6 → a ≠ b → (TX0 a).2.1 ≠ (TX0 b).2.1 := by decide +kernel
theorem tyX0_ok : ∀ k, k < 6 → parseFieldDescriptor (TX0 k).2.2.1 = some (tyX0 k) := by decide +kernel
abbrev cX0_init : ByteArray := prog_2_method_1_code
def yX0_init : MethodName := ⟨RX0, "<init>", "()V"⟩
abbrev cX0_forgetAll : ByteArray := prog_2_method_2_code
def yX0_forgetAll : MethodName := ⟨RX0, "forgetAll", "()V"⟩
abbrev cX0_keepDay : ByteArray := prog_2_method_3_code
def yX0_keepDay : MethodName := ⟨RX0, "keepDay", "()V"⟩
abbrev cX0_keepForged : ByteArray := prog_2_method_4_code
def yX0_keepForged : MethodName := ⟨RX0, "keepForged", "(III)V"⟩
abbrev cX0_keepLost : ByteArray := prog_2_method_5_code
def yX0_keepLost : MethodName := ⟨RX0, "keepLost", "(I)V"⟩
abbrev cX0_keep : ByteArray := prog_2_method_6_code
def yX0_keep : MethodName := ⟨RX0, "keep", "(IIII)V"⟩
abbrev cX0_latestPlace : ByteArray := prog_2_method_7_code
def yX0_latestPlace : MethodName := ⟨RX0, "latestPlace", "()I"⟩
abbrev cX0_takeBack : ByteArray := prog_2_method_8_code
def yX0_takeBack : MethodName := ⟨RX0, "takeBack", "(LAlphaCourt$Court;)V"⟩
def RX1 : String := "AlphaCourt$Asks"
def TX1 : u_T := fun k => match k with
  | 0 => ("AlphaCourt$Asks", "trail", "[I", true)
  | _ => ("AlphaCourt$Asks", "traced", "I", false)
def tyX1 : Nat → FieldType := fun k => match k with
  | 0 => .array .int
  | _ => .int
theorem nmX1 : ∀ a, a < 2 → ∀ b, b < 2 → a ≠ b → (TX1 a).2.1 ≠ (TX1 b).2.1 := by decide +kernel
theorem tyX1_ok : ∀ k, k < 2 → parseFieldDescriptor (TX1 k).2.2.1 = some (tyX1 k) := by decide +kernel
abbrev cX1_init : ByteArray := prog_3_method_1_code
def yX1_init : MethodName := ⟨RX1, "<init>", "()V"⟩
abbrev cX1_answer : ByteArray := prog_3_method_2_code
def yX1_answer : MethodName := ⟨RX1, "answer", "(LAlphaCourt$Court;II)I"⟩
abbrev cX1_leave : ByteArray := prog_3_method_3_code
def yX1_leave : MethodName := ⟨RX1, "leave", "(I)V"⟩
abbrev cX1_give : ByteArray := prog_3_method_4_code
def yX1_give : MethodName := ⟨RX1, "give", "(LAlphaCourt$Court;III)I"⟩
def RX2 : String := "AlphaCourt$Court"
def TX2 : u_T := fun k => match k with
  | 0 => ("AlphaCourt$Court", "stands", "Z", false)
  | 1 => ("AlphaCourt$Court", "people", "I", false)
  | 2 => ("AlphaCourt$Court", "seats", "I", false)
  | 3 => ("AlphaCourt$Court", "turns", "I", false)
  | 4 => ("AlphaCourt$Court", "day", "I", false)
  | 5 => ("AlphaCourt$Court", "lost", "I", false)
  | 6 => ("AlphaCourt$Court", "told", "[I", true)
  | 7 => ("AlphaCourt$Court", "placeInTold", "[I", true)
  | 8 => ("AlphaCourt$Court", "kinds", "[I", true)
  | 9 => ("AlphaCourt$Court", "lengths", "[I", true)
  | 10 => ("AlphaCourt$Court", "letters", "[I", true)
  | 11 => ("AlphaCourt$Court", "terms", "[I", true)
  | 12 => ("AlphaCourt$Court", "lives", "[I", true)
  | 13 => ("AlphaCourt$Court", "seated", "[I", true)
  | 14 => ("AlphaCourt$Court", "newcomers", "[I", true)
  | _ => ("AlphaCourt$Court", "newlySeated", "I", false)
def tyX2 : Nat → FieldType := fun k => match k with
  | 0 => .boolean
  | 1 => .int
  | 2 => .int
  | 3 => .int
  | 4 => .int
  | 5 => .int
  | 6 => .array .int
  | 7 => .array .int
  | 8 => .array .int
  | 9 => .array .int
  | 10 => .array .int
  | 11 => .array .int
  | 12 => .array .int
  | 13 => .array .int
  | 14 => .array .int
  | _ => .int
theorem nmX2 : ∀ a, a < 16 → ∀ b, b < 16 → a ≠ b → (TX2 a).2.1 ≠ (TX2 b).2.1 := by decide +kernel
theorem tyX2_ok : ∀ k, k < 16 → parseFieldDescriptor (TX2 k).2.2.1 = some (tyX2 k) := by decide +kernel
abbrev cX2_init : ByteArray := prog_4_method_1_code
def yX2_init : MethodName := ⟨RX2, "<init>", "()V"⟩
abbrev cX2_takeFrom : ByteArray := prog_4_method_2_code
def yX2_takeFrom : MethodName := ⟨RX2, "takeFrom", "(LAlphaCourt$Court;)V"⟩
abbrev cX2_begin : ByteArray := prog_4_method_3_code
def yX2_begin : MethodName := ⟨RX2, "begin", "()V"⟩
abbrev cX2_tellOrder : ByteArray := prog_4_method_4_code
def yX2_tellOrder : MethodName := ⟨RX2, "tellOrder", "(II)V"⟩
abbrev cX2_letterOf : ByteArray := prog_4_method_5_code
def yX2_letterOf : MethodName := ⟨RX2, "letterOf", "(II)I"⟩
abbrev cX2_putLetter : ByteArray := prog_4_method_6_code
def yX2_putLetter : MethodName := ⟨RX2, "putLetter", "(III)V"⟩
abbrev cX2_lettersAsBits : ByteArray := prog_4_method_7_code
def yX2_lettersAsBits : MethodName := ⟨RX2, "lettersAsBits", "(I)I"⟩
abbrev cX2_turnOn : ByteArray := prog_4_method_8_code
def yX2_turnOn : MethodName := ⟨RX2, "turnOn", "(II)I"⟩
abbrev cX2_letterInOrder : ByteArray := prog_4_method_9_code
def yX2_letterInOrder : MethodName := ⟨RX2, "letterInOrder", "(II)I"⟩
abbrev cX2_placeInOrder : ByteArray := prog_4_method_10_code
def yX2_placeInOrder : MethodName := ⟨RX2, "placeInOrder", "(II)I"⟩
abbrev cX2_letterAsRead : ByteArray := prog_4_method_11_code
def yX2_letterAsRead : MethodName := ⟨RX2, "letterAsRead", "(II)I"⟩
abbrev cX2_compareNames : ByteArray := prog_4_method_12_code
def yX2_compareNames : MethodName := ⟨RX2, "compareNames", "(III)I"⟩
abbrev cX2_isBefore : ByteArray := prog_4_method_13_code
def yX2_isBefore : MethodName := ⟨RX2, "isBefore", "(III)Z"⟩
abbrev cX2_isSeated : ByteArray := prog_4_method_14_code
def yX2_isSeated : MethodName := ⟨RX2, "isSeated", "(I)Z"⟩
abbrev cX2_freeDay : ByteArray := prog_4_method_15_code
def yX2_freeDay : MethodName := ⟨RX2, "freeDay", "(I)I"⟩
abbrev cX2_waitsOn : ByteArray := prog_4_method_16_code
def yX2_waitsOn : MethodName := ⟨RX2, "waitsOn", "(II)Z"⟩
abbrev cX2_servesOn : ByteArray := prog_4_method_17_code
def yX2_servesOn : MethodName := ⟨RX2, "servesOn", "(II)Z"⟩
abbrev cX2_stateOf : ByteArray := prog_4_method_18_code
def yX2_stateOf : MethodName := ⟨RX2, "stateOf", "(I)I"⟩
abbrev cX2_howMany : ByteArray := prog_4_method_19_code
def yX2_howMany : MethodName := ⟨RX2, "howMany", "(I)I"⟩
abbrev cX2_howManyBefore : ByteArray := prog_4_method_20_code
def yX2_howManyBefore : MethodName := ⟨RX2, "howManyBefore", "(I)I"⟩
abbrev cX2_howManyWaitWith : ByteArray := prog_4_method_21_code
def yX2_howManyWaitWith : MethodName := ⟨RX2, "howManyWaitWith", "(I)I"⟩
abbrev cX2_lastWaitingBut : ByteArray := prog_4_method_22_code
def yX2_lastWaitingBut : MethodName := ⟨RX2, "lastWaitingBut", "(II)I"⟩
abbrev cX2_seatTill : ByteArray := prog_4_method_23_code
def yX2_seatTill : MethodName := ⟨RX2, "seatTill", "(II)V"⟩
abbrev cX2_openDay : ByteArray := prog_4_method_24_code
def yX2_openDay : MethodName := ⟨RX2, "openDay", "(I)I"⟩
abbrev cX2_firstOn : ByteArray := prog_4_method_25_code
def yX2_firstOn : MethodName := ⟨RX2, "firstOn", "(II)I"⟩
abbrev cX2_takeBackDay : ByteArray := prog_4_method_26_code
def yX2_takeBackDay : MethodName := ⟨RX2, "takeBackDay", "()V"⟩
abbrev cX2_waitedByAll : ByteArray := prog_4_method_27_code
def yX2_waitedByAll : MethodName := ⟨RX2, "waitedByAll", "()I"⟩
def RX3 : String := "AlphaCourt$Planner"
def TX3 : u_T := fun k => match k with
  | 0 => ("AlphaCourt$Planner", "bestRow", "[I", true)
  | 1 => ("AlphaCourt$Planner", "size", "I", false)
  | 2 => ("AlphaCourt$Planner", "least", "I", false)
  | 3 => ("AlphaCourt$Planner", "row", "[I", true)
  | 4 => ("AlphaCourt$Planner", "openDays", "[I", true)
  | _ => ("AlphaCourt$Planner", "seats", "I", false)
def tyX3 : Nat → FieldType := fun k => match k with
  | 0 => .array .int
  | 1 => .int
  | 2 => .int
  | 3 => .array .int
  | 4 => .array .int
  | _ => .int
theorem nmX3 : ∀ a, a < 6 → ∀ b, b < 6 → a ≠ b → (TX3 a).2.1 ≠ (TX3 b).2.1 := by decide +kernel
theorem tyX3_ok : ∀ k, k < 6 → parseFieldDescriptor (TX3 k).2.2.1 = some (tyX3 k) := by decide +kernel
abbrev cX3_init : ByteArray := prog_5_method_1_code
def yX3_init : MethodName := ⟨RX3, "<init>", "()V"⟩
abbrev cX3_plan : ByteArray := prog_5_method_2_code
def yX3_plan : MethodName := ⟨RX3, "plan", "(LAlphaCourt$Court;)V"⟩
abbrev cX3_openSeats : ByteArray := prog_5_method_3_code
def yX3_openSeats : MethodName := ⟨RX3, "openSeats", "(LAlphaCourt$Court;)V"⟩
abbrev cX3_firstOpenSeat : ByteArray := prog_5_method_4_code
def yX3_firstOpenSeat : MethodName := ⟨RX3, "firstOpenSeat", "()I"⟩
abbrev cX3_seatOneByOne : ByteArray := prog_5_method_5_code
def yX3_seatOneByOne : MethodName := ⟨RX3, "seatOneByOne", "(LAlphaCourt$Court;III)V"⟩
def RX4 : String := "AlphaCourt$Reader"
def TX4 : u_T := fun k => match k with
  | 0 => ("AlphaCourt$Reader", "tape", "[I", true)
  | 1 => ("AlphaCourt$Reader", "length", "I", false)
  | 2 => ("AlphaCourt$Reader", "faultNumber", "I", false)
  | 3 => ("AlphaCourt$Reader", "faultPlace", "I", false)
  | 4 => ("AlphaCourt$Reader", "at", "I", false)
  | 5 => ("AlphaCourt$Reader", "tokenPlace", "I", false)
  | 6 => ("AlphaCourt$Reader", "token", "I", false)
  | _ => ("AlphaCourt$Reader", "number", "I", false)
def tyX4 : Nat → FieldType := fun k => match k with
  | 0 => .array .int
  | 1 => .int
  | 2 => .int
  | 3 => .int
  | 4 => .int
  | 5 => .int
  | 6 => .int
  | _ => .int
theorem nmX4 : ∀ a, a < 8 → ∀ b, b < 8 → a ≠ b → (TX4 a).2.1 ≠ (TX4 b).2.1 := by decide +kernel
theorem tyX4_ok : ∀ k, k < 8 → parseFieldDescriptor (TX4 k).2.2.1 = some (tyX4 k) := by decide +kernel
abbrev cX4_init : ByteArray := prog_6_method_1_code
def yX4_init : MethodName := ⟨RX4, "<init>", "()V"⟩
abbrev cX4_addByte : ByteArray := prog_6_method_2_code
def yX4_addByte : MethodName := ⟨RX4, "addByte", "(I)V"⟩
abbrev cX4_readInto : ByteArray := prog_6_method_3_code
def yX4_readInto : MethodName := ⟨RX4, "readInto", "(LAlphaCourt$Court;)Z"⟩
abbrev cX4_readLaw : ByteArray := prog_6_method_4_code
def yX4_readLaw : MethodName := ⟨RX4, "readLaw", "(LAlphaCourt$Court;)Z"⟩
abbrev cX4_readOrder : ByteArray := prog_6_method_5_code
def yX4_readOrder : MethodName := ⟨RX4, "readOrder", "(LAlphaCourt$Court;)Z"⟩
abbrev cX4_readPeople : ByteArray := prog_6_method_6_code
def yX4_readPeople : MethodName := ⟨RX4, "readPeople", "(LAlphaCourt$Court;)Z"⟩
abbrev cX4_readPerson : ByteArray := prog_6_method_7_code
def yX4_readPerson : MethodName := ⟨RX4, "readPerson", "(LAlphaCourt$Court;I)Z"⟩
abbrev cX4_hasFault : ByteArray := prog_6_method_8_code
def yX4_hasFault : MethodName := ⟨RX4, "hasFault", "(I)Z"⟩
abbrev cX4_passOver : ByteArray := prog_6_method_9_code
def yX4_passOver : MethodName := ⟨RX4, "passOver", "(I)Z"⟩
abbrev cX4_isNumberIn : ByteArray := prog_6_method_10_code
def yX4_isNumberIn : MethodName := ⟨RX4, "isNumberIn", "(II)Z"⟩
abbrev cX4_takeNumber : ByteArray := prog_6_method_11_code
def yX4_takeNumber : MethodName := ⟨RX4, "takeNumber", "()I"⟩
abbrev cX4_isLetter : ByteArray := prog_6_method_12_code
def yX4_isLetter : MethodName := ⟨RX4, "isLetter", "()Z"⟩
abbrev cX4_letterOfToken : ByteArray := prog_6_method_13_code
def yX4_letterOfToken : MethodName := ⟨RX4, "letterOfToken", "()I"⟩
abbrev cX4_isFigureAt : ByteArray := prog_6_method_14_code
def yX4_isFigureAt : MethodName := ⟨RX4, "isFigureAt", "(I)Z"⟩
abbrev cX4_step : ByteArray := prog_6_method_15_code
def yX4_step : MethodName := ⟨RX4, "step", "()V"⟩
def RX5 : String := "AlphaCourt$Renaming"
def TX5 : u_T := fun k => match k with
  | _ => ("AlphaCourt$Renaming", "trial", "LAlphaCourt$Court;", true)
def tyX5 : Nat → FieldType := fun k => match k with
  | _ => .object "AlphaCourt$Court"
theorem nmX5 : ∀ a, a < 1 → ∀ b, b < 1 → a ≠ b → (TX5 a).2.1 ≠ (TX5 b).2.1 := by decide +kernel
theorem tyX5_ok : ∀ k, k < 1 → parseFieldDescriptor (TX5 k).2.2.1 = some (tyX5 k) := by decide +kernel
abbrev cX5_init : ByteArray := prog_7_method_1_code
def yX5_init : MethodName := ⟨RX5, "<init>", "()V"⟩
abbrev cX5_findFewest : ByteArray := prog_7_method_2_code
def yX5_findFewest : MethodName := ⟨RX5, "findFewest", "(LAlphaCourt$Court;I)I"⟩
abbrev cX5_canBeBehind : ByteArray := prog_7_method_3_code
def yX5_canBeBehind : MethodName := ⟨RX5, "canBeBehind", "(III)Z"⟩
abbrev cX5_tryNames : ByteArray := prog_7_method_4_code
def yX5_tryNames : MethodName := ⟨RX5, "tryNames", "(LAlphaCourt$Court;IIIII)Z"⟩
def RX6 : String := "AlphaCourt$Row"
def TX6 : u_T := fun k => match k with
  | 0 => ("AlphaCourt$Row", "items", "[I", true)
  | 1 => ("AlphaCourt$Row", "lane", "I", false)
  | _ => ("AlphaCourt$Row", "size", "I", false)
def tyX6 : Nat → FieldType := fun k => match k with
  | 0 => .array .int
  | 1 => .int
  | _ => .int
theorem nmX6 : ∀ a, a < 3 → ∀ b, b < 3 → a ≠ b → (TX6 a).2.1 ≠ (TX6 b).2.1 := by decide +kernel
theorem tyX6_ok : ∀ k, k < 3 → parseFieldDescriptor (TX6 k).2.2.1 = some (tyX6 k) := by decide +kernel
abbrev cX6_init : ByteArray := prog_8_method_1_code
def yX6_init : MethodName := ⟨RX6, "<init>", "()V"⟩
abbrev cX6_isMissing : ByteArray := prog_8_method_2_code
def yX6_isMissing : MethodName := ⟨RX6, "isMissing", "()Z"⟩
abbrev cX6_begin : ByteArray := prog_8_method_3_code
def yX6_begin : MethodName := ⟨RX6, "begin", "(II)V"⟩
abbrev cX6_cut : ByteArray := prog_8_method_4_code
def yX6_cut : MethodName := ⟨RX6, "cut", "(I)I"⟩
abbrev cX6_hasRange : ByteArray := prog_8_method_5_code
def yX6_hasRange : MethodName := ⟨RX6, "hasRange", "(II)Z"⟩
def RX7 : String := "AlphaCourt"
def TX7 : u_T := fun k => match k with
  | 0 => ("AlphaCourt", "rows", "[LAlphaCourt$Row;", true)
  | 1 => ("AlphaCourt", "reader", "LAlphaCourt$Reader;", true)
  | 2 => ("AlphaCourt", "court", "LAlphaCourt$Court;", true)
  | 3 => ("AlphaCourt", "draft", "LAlphaCourt$Court;", true)
  | 4 => ("AlphaCourt", "images", "[LAlphaCourt$Court;", true)
  | 5 => ("AlphaCourt", "acts", "LAlphaCourt$Acts;", true)
  | 6 => ("AlphaCourt", "renaming", "LAlphaCourt$Renaming;", true)
  | 7 => ("AlphaCourt", "planner", "LAlphaCourt$Planner;", true)
  | 8 => ("AlphaCourt", "asks", "LAlphaCourt$Asks;", true)
  | 9 => ("AlphaCourt", "latestFault", "I", false)
  | _ => ("AlphaCourt", "latestFinding", "I", false)
def tyX7 : Nat → FieldType := fun k => match k with
  | 0 => .array (.object "AlphaCourt$Row")
  | 1 => .object "AlphaCourt$Reader"
  | 2 => .object "AlphaCourt$Court"
  | 3 => .object "AlphaCourt$Court"
  | 4 => .array (.object "AlphaCourt$Court")
  | 5 => .object "AlphaCourt$Acts"
  | 6 => .object "AlphaCourt$Renaming"
  | 7 => .object "AlphaCourt$Planner"
  | 8 => .object "AlphaCourt$Asks"
  | 9 => .int
  | _ => .int
theorem nmX7 : ∀ a, a < 11 → ∀ b, b < 11 → a ≠ b → (TX7 a).2.1 ≠ (TX7 b).2.1 := by decide +kernel
theorem tyX7_ok : ∀ k, k < 11 → parseFieldDescriptor (TX7 k).2.2.1 = some (tyX7 k) := by decide +kernel
abbrev cX7_init : ByteArray := prog_1_method_1_code
def yX7_init : MethodName := ⟨RX7, "<init>", "()V"⟩
abbrev cX7_row : ByteArray := prog_1_method_2_code
def yX7_row : MethodName := ⟨RX7, "row", "(III)I"⟩
abbrev cX7_set : ByteArray := prog_1_method_3_code
def yX7_set : MethodName := ⟨RX7, "set", "(III)I"⟩
abbrev cX7_copy : ByteArray := prog_1_method_4_code
def yX7_copy : MethodName := ⟨RX7, "copy", "(IIIII)I"⟩
abbrev cX7_drop : ByteArray := prog_1_method_5_code
def yX7_drop : MethodName := ⟨RX7, "drop", "(I)I"⟩
abbrev cX7_feed : ByteArray := prog_1_method_6_code
def yX7_feed : MethodName := ⟨RX7, "feed", "(I)I"⟩
abbrev cX7_court : ByteArray := prog_1_method_7_code
def yX7_court : MethodName := ⟨RX7, "court", "()I"⟩
abbrev cX7_fault : ByteArray := prog_1_method_8_code
def yX7_fault : MethodName := ⟨RX7, "fault", "()I"⟩
abbrev cX7_days : ByteArray := prog_1_method_9_code
def yX7_days : MethodName := ⟨RX7, "days", "(I)I"⟩
abbrev cX7_forge : ByteArray := prog_1_method_10_code
def yX7_forge : MethodName := ⟨RX7, "forge", "(III)I"⟩
abbrev cX7_lose : ByteArray := prog_1_method_11_code
def yX7_lose : MethodName := ⟨RX7, "lose", "(II)I"⟩
abbrev cX7_undo : ByteArray := prog_1_method_12_code
def yX7_undo : MethodName := ⟨RX7, "undo", "()I"⟩
abbrev cX7_person : ByteArray := prog_1_method_13_code
def yX7_person : MethodName := ⟨RX7, "person", "(II)I"⟩
abbrev cX7_name : ByteArray := prog_1_method_14_code
def yX7_name : MethodName := ⟨RX7, "name", "(II)I"⟩
abbrev cX7_order : ByteArray := prog_1_method_15_code
def yX7_order : MethodName := ⟨RX7, "order", "(I)I"⟩
abbrev cX7_when : ByteArray := prog_1_method_16_code
def yX7_when : MethodName := ⟨RX7, "when", "(II)I"⟩
abbrev cX7_waited : ByteArray := prog_1_method_17_code
def yX7_waited : MethodName := ⟨RX7, "waited", "()I"⟩
abbrev cX7_last : ByteArray := prog_1_method_18_code
def yX7_last : MethodName := ⟨RX7, "last", "(II)I"⟩
abbrev cX7_best : ByteArray := prog_1_method_19_code
def yX7_best : MethodName := ⟨RX7, "best", "(I)I"⟩
abbrev cX7_warden : ByteArray := prog_1_method_20_code
def yX7_warden : MethodName := ⟨RX7, "warden", "(I)I"⟩
abbrev cX7_frees : ByteArray := prog_1_method_21_code
def yX7_frees : MethodName := ⟨RX7, "frees", "(I)I"⟩
abbrev cX7_ledger : ByteArray := prog_1_method_22_code
def yX7_ledger : MethodName := ⟨RX7, "ledger", "(III)I"⟩
abbrev cX7_image : ByteArray := prog_1_method_23_code
def yX7_image : MethodName := ⟨RX7, "image", "(I)I"⟩
abbrev cX7_restore : ByteArray := prog_1_method_24_code
def yX7_restore : MethodName := ⟨RX7, "restore", "(I)I"⟩
abbrev cX7_kind : ByteArray := prog_1_method_25_code
def yX7_kind : MethodName := ⟨RX7, "kind", "(I)I"⟩
abbrev cX7_as : ByteArray := prog_1_method_26_code
def yX7_as : MethodName := ⟨RX7, "as", "(II)I"⟩
abbrev cX7_ask : ByteArray := prog_1_method_27_code
def yX7_ask : MethodName := ⟨RX7, "ask", "(II)I"⟩
abbrev cX7_trace : ByteArray := prog_1_method_28_code
def yX7_trace : MethodName := ⟨RX7, "trace", "(I)I"⟩
abbrev cX7_count : ByteArray := prog_1_method_29_code
def yX7_count : MethodName := ⟨RX7, "count", "(I)I"⟩
abbrev cX7_status : ByteArray := prog_1_method_30_code
def yX7_status : MethodName := ⟨RX7, "status", "()I"⟩
abbrev cX7_isIn : ByteArray := prog_1_method_31_code
def yX7_isIn : MethodName := ⟨RX7, "isIn", "(II)Z"⟩
abbrev cX7_isOfKind : ByteArray := prog_1_method_32_code
def yX7_isOfKind : MethodName := ⟨RX7, "isOfKind", "(II)Z"⟩
abbrev cX7_found : ByteArray := prog_1_method_33_code
def yX7_found : MethodName := ⟨RX7, "found", "(I)I"⟩
abbrev cX7_unfound : ByteArray := prog_1_method_34_code
def yX7_unfound : MethodName := ⟨RX7, "unfound", "(I)I"⟩
abbrev cX7_isPerson : ByteArray := prog_1_method_35_code
def yX7_isPerson : MethodName := ⟨RX7, "isPerson", "(I)Z"⟩
abbrev cX7_isPlaceOfName : ByteArray := prog_1_method_36_code
def yX7_isPlaceOfName : MethodName := ⟨RX7, "isPlaceOfName", "(II)Z"⟩
abbrev cX7_howManyRows : ByteArray := prog_1_method_37_code
def yX7_howManyRows : MethodName := ⟨RX7, "howManyRows", "()I"⟩
abbrev cX7_foretell : ByteArray := prog_1_method_38_code
def yX7_foretell : MethodName := ⟨RX7, "foretell", "(I)LAlphaCourt$Court;"⟩
abbrev cX7_areAllPeople : ByteArray := prog_1_method_39_code
def yX7_areAllPeople : MethodName := ⟨RX7, "areAllPeople", "(LAlphaCourt$Row;II)Z"⟩
abbrev cX7_areSeatedNext : ByteArray := prog_1_method_40_code
def yX7_areSeatedNext : MethodName := ⟨RX7, "areSeatedNext", "(LAlphaCourt$Row;III)Z"⟩
def RX8 : String := "AlphaCourtModel"
def TX8 : u_T := fun k => match k with
  | 0 => ("AlphaCourtModel", "lane", "[I", true)
  | 1 => ("AlphaCourtModel", "many", "[I", true)
  | 2 => ("AlphaCourtModel", "items", "[I", true)
  | 3 => ("AlphaCourtModel", "spare", "[I", true)
  | 4 => ("AlphaCourtModel", "status", "I", false)
  | 5 => ("AlphaCourtModel", "tape", "[I", true)
  | 6 => ("AlphaCourtModel", "taped", "I", false)
  | 7 => ("AlphaCourtModel", "faultKind", "I", false)
  | 8 => ("AlphaCourtModel", "faultPlace", "I", false)
  | 9 => ("AlphaCourtModel", "at", "I", false)
  | 10 => ("AlphaCourtModel", "start", "I", false)
  | 11 => ("AlphaCourtModel", "token", "I", false)
  | 12 => ("AlphaCourtModel", "value", "I", false)
  | 13 => ("AlphaCourtModel", "now", "[I", true)
  | 14 => ("AlphaCourtModel", "draft", "[I", true)
  | 15 => ("AlphaCourtModel", "tried", "[I", true)
  | 16 => ("AlphaCourtModel", "past", "[I", true)
  | 17 => ("AlphaCourtModel", "acts", "I", false)
  | 18 => ("AlphaCourtModel", "images", "[I", true)
  | 19 => ("AlphaCourtModel", "kept", "[Z", true)
  | 20 => ("AlphaCourtModel", "trace", "[I", true)
  | 21 => ("AlphaCourtModel", "traced", "I", false)
  | 22 => ("AlphaCourtModel", "ledger", "[I", true)
  | 23 => ("AlphaCourtModel", "ledgerMany", "I", false)
  | 24 => ("AlphaCourtModel", "waiting", "[I", true)
  | 25 => ("AlphaCourtModel", "line", "[I", true)
  | _ => ("AlphaCourtModel", "bestLine", "[I", true)
def tyX8 : Nat → FieldType := fun k => match k with
  | 0 => .array .int
  | 1 => .array .int
  | 2 => .array .int
  | 3 => .array .int
  | 4 => .int
  | 5 => .array .int
  | 6 => .int
  | 7 => .int
  | 8 => .int
  | 9 => .int
  | 10 => .int
  | 11 => .int
  | 12 => .int
  | 13 => .array .int
  | 14 => .array .int
  | 15 => .array .int
  | 16 => .array .int
  | 17 => .int
  | 18 => .array .int
  | 19 => .array .boolean
  | 20 => .array .int
  | 21 => .int
  | 22 => .array .int
  | 23 => .int
  | 24 => .array .int
  | 25 => .array .int
  | _ => .array .int
theorem nmX8 : ∀ a, a < 27 → ∀ b, b < 27 → a ≠ b → (TX8 a).2.1 ≠ (TX8 b).2.1 := by decide +kernel
theorem tyX8_ok : ∀ k, k < 27 → parseFieldDescriptor (TX8 k).2.2.1 = some (tyX8 k) := by decide +kernel
abbrev cX8_init : ByteArray := prog_10_method_1_code
def yX8_init : MethodName := ⟨RX8, "<init>", "()V"⟩
abbrev cX8_in : ByteArray := prog_10_method_3_code
def yX8_in : MethodName := ⟨RX8, "in", "(III)Z"⟩
abbrev cX8_has : ByteArray := prog_10_method_4_code
def yX8_has : MethodName := ⟨RX8, "has", "(II)Z"⟩
abbrev cX8_found : ByteArray := prog_10_method_5_code
def yX8_found : MethodName := ⟨RX8, "found", "(I)I"⟩
abbrev cX8_well : ByteArray := prog_10_method_6_code
def yX8_well : MethodName := ⟨RX8, "well", "(I)I"⟩
abbrev cX8_copies : ByteArray := prog_10_method_7_code
def yX8_copies : MethodName := ⟨RX8, "copies", "([II[II)V"⟩
abbrev cX8_isRow : ByteArray := prog_10_method_8_code
def yX8_isRow : MethodName := ⟨RX8, "isRow", "(I)Z"⟩
abbrev cX8_isMissing : ByteArray := prog_10_method_9_code
def yX8_isMissing : MethodName := ⟨RX8, "isMissing", "(I)Z"⟩
abbrev cX8_cut : ByteArray := prog_10_method_10_code
def yX8_cut : MethodName := ⟨RX8, "cut", "(II)I"⟩
abbrev cX8_row : ByteArray := prog_10_method_11_code
def yX8_row : MethodName := ⟨RX8, "row", "(III)I"⟩
abbrev cX8_set : ByteArray := prog_10_method_12_code
def yX8_set : MethodName := ⟨RX8, "set", "(III)I"⟩
abbrev cX8_isPart : ByteArray := prog_10_method_13_code
def yX8_isPart : MethodName := ⟨RX8, "isPart", "(III)Z"⟩
abbrev cX8_copy : ByteArray := prog_10_method_14_code
def yX8_copy : MethodName := ⟨RX8, "copy", "(IIIII)I"⟩
abbrev cX8_drop : ByteArray := prog_10_method_15_code
def yX8_drop : MethodName := ⟨RX8, "drop", "(I)I"⟩
abbrev cX8_feed : ByteArray := prog_10_method_16_code
def yX8_feed : MethodName := ⟨RX8, "feed", "(I)I"⟩
abbrev cX8_byteAt : ByteArray := prog_10_method_17_code
def yX8_byteAt : MethodName := ⟨RX8, "byteAt", "(I)I"⟩
abbrev cX8_advances : ByteArray := prog_10_method_18_code
def yX8_advances : MethodName := ⟨RX8, "advances", "()V"⟩
abbrev cX8_isWell : ByteArray := prog_10_method_19_code
def yX8_isWell : MethodName := ⟨RX8, "isWell", "()Z"⟩
abbrev cX8_takes : ByteArray := prog_10_method_20_code
def yX8_takes : MethodName := ⟨RX8, "takes", "(ZI)I"⟩
abbrev cX8_figure : ByteArray := prog_10_method_21_code
def yX8_figure : MethodName := ⟨RX8, "figure", "(II)I"⟩
abbrev cX8_isName : ByteArray := prog_10_method_22_code
def yX8_isName : MethodName := ⟨RX8, "isName", "()Z"⟩
abbrev cX8_readsOrder : ByteArray := prog_10_method_23_code
def yX8_readsOrder : MethodName := ⟨RX8, "readsOrder", "()V"⟩
abbrev cX8_kindOf : ByteArray := prog_10_method_24_code
def yX8_kindOf : MethodName := ⟨RX8, "kindOf", "(I)I"⟩
abbrev cX8_readsPerson : ByteArray := prog_10_method_25_code
def yX8_readsPerson : MethodName := ⟨RX8, "readsPerson", "()V"⟩
abbrev cX8_takes2 : ByteArray := prog_10_method_26_code
def yX8_takes2 : MethodName := ⟨RX8, "takes2", "(Z)V"⟩
abbrev cX8_court : ByteArray := prog_10_method_27_code
def yX8_court : MethodName := ⟨RX8, "court", "()I"⟩
abbrev cX8_fault : ByteArray := prog_10_method_28_code
def yX8_fault : MethodName := ⟨RX8, "fault", "()I"⟩
abbrev cX8_isCourt : ByteArray := prog_10_method_29_code
def yX8_isCourt : MethodName := ⟨RX8, "isCourt", "()Z"⟩
abbrev cX8_isPerson : ByteArray := prog_10_method_30_code
def yX8_isPerson : MethodName := ⟨RX8, "isPerson", "(I)Z"⟩
abbrev cX8_of : ByteArray := prog_10_method_31_code
def yX8_of : MethodName := ⟨RX8, "of", "([III)I"⟩
abbrev cX8_rank : ByteArray := prog_10_method_32_code
def yX8_rank : MethodName := ⟨RX8, "rank", "([III)I"⟩
abbrev cX8_letterOf : ByteArray := prog_10_method_33_code
def yX8_letterOf : MethodName := ⟨RX8, "letterOf", "([III)I"⟩
abbrev cX8_classOf : ByteArray := prog_10_method_34_code
def yX8_classOf : MethodName := ⟨RX8, "classOf", "([II)I"⟩
abbrev cX8_isBefore : ByteArray := prog_10_method_35_code
def yX8_isBefore : MethodName := ⟨RX8, "isBefore", "([IIII)Z"⟩
abbrev cX8_waits : ByteArray := prog_10_method_36_code
def yX8_waits : MethodName := ⟨RX8, "waits", "([II)Z"⟩
abbrev cX8_manySo : ByteArray := prog_10_method_37_code
def yX8_manySo : MethodName := ⟨RX8, "manySo", "([II)I"⟩
abbrev cX8_isLost : ByteArray := prog_10_method_38_code
def yX8_isLost : MethodName := ⟨RX8, "isLost", "([II)Z"⟩
abbrev cX8_nextBy : ByteArray := prog_10_method_39_code
def yX8_nextBy : MethodName := ⟨RX8, "nextBy", "([II)I"⟩
abbrev cX8_ages : ByteArray := prog_10_method_40_code
def yX8_ages : MethodName := ⟨RX8, "ages", "([I)V"⟩
abbrev cX8_seats : ByteArray := prog_10_method_41_code
def yX8_seats : MethodName := ⟨RX8, "seats", "([II)V"⟩
abbrev cX8_passes : ByteArray := prog_10_method_42_code
def yX8_passes : MethodName := ⟨RX8, "passes", "([II)V"⟩
abbrev cX8_notes : ByteArray := prog_10_method_43_code
def yX8_notes : MethodName := ⟨RX8, "notes", "()V"⟩
abbrev cX8_days : ByteArray := prog_10_method_44_code
def yX8_days : MethodName := ⟨RX8, "days", "(I)I"⟩
abbrev cX8_isPlaceOf : ByteArray := prog_10_method_45_code
def yX8_isPlaceOf : MethodName := ⟨RX8, "isPlaceOf", "(II)Z"⟩
abbrev cX8_forge : ByteArray := prog_10_method_46_code
def yX8_forge : MethodName := ⟨RX8, "forge", "(III)I"⟩
abbrev cX8_lose : ByteArray := prog_10_method_47_code
def yX8_lose : MethodName := ⟨RX8, "lose", "(II)I"⟩
abbrev cX8_undo : ByteArray := prog_10_method_48_code
def yX8_undo : MethodName := ⟨RX8, "undo", "()I"⟩
abbrev cX8_beforeIt : ByteArray := prog_10_method_49_code
def yX8_beforeIt : MethodName := ⟨RX8, "beforeIt", "(I)I"⟩
abbrev cX8_person : ByteArray := prog_10_method_50_code
def yX8_person : MethodName := ⟨RX8, "person", "(II)I"⟩
abbrev cX8_name : ByteArray := prog_10_method_51_code
def yX8_name : MethodName := ⟨RX8, "name", "(II)I"⟩
abbrev cX8_order : ByteArray := prog_10_method_52_code
def yX8_order : MethodName := ⟨RX8, "order", "(I)I"⟩
abbrev cX8_goes : ByteArray := prog_10_method_53_code
def yX8_goes : MethodName := ⟨RX8, "goes", "(I)V"⟩
abbrev cX8_when : ByteArray := prog_10_method_54_code
def yX8_when : MethodName := ⟨RX8, "when", "(II)I"⟩
abbrev cX8_waitedTried : ByteArray := prog_10_method_55_code
def yX8_waitedTried : MethodName := ⟨RX8, "waitedTried", "()I"⟩
abbrev cX8_waited : ByteArray := prog_10_method_56_code
def yX8_waited : MethodName := ⟨RX8, "waited", "()I"⟩
abbrev cX8_isLast : ByteArray := prog_10_method_57_code
def yX8_isLast : MethodName := ⟨RX8, "isLast", "([II)Z"⟩
abbrev cX8_power : ByteArray := prog_10_method_58_code
def yX8_power : MethodName := ⟨RX8, "power", "(II)I"⟩
abbrev cX8_lays : ByteArray := prog_10_method_59_code
def yX8_lays : MethodName := ⟨RX8, "lays", "(II)I"⟩
abbrev cX8_last : ByteArray := prog_10_method_60_code
def yX8_last : MethodName := ⟨RX8, "last", "(II)I"⟩
abbrev cX8_best : ByteArray := prog_10_method_61_code
def yX8_best : MethodName := ⟨RX8, "best", "(I)I"⟩
abbrev cX8_lines : ByteArray := prog_10_method_62_code
def yX8_lines : MethodName := ⟨RX8, "lines", "(II)Z"⟩
abbrev cX8_waitedByLine : ByteArray := prog_10_method_63_code
def yX8_waitedByLine : MethodName := ⟨RX8, "waitedByLine", "(I)I"⟩
abbrev cX8_warden : ByteArray := prog_10_method_64_code
def yX8_warden : MethodName := ⟨RX8, "warden", "(I)I"⟩
abbrev cX8_passedBy : ByteArray := prog_10_method_65_code
def yX8_passedBy : MethodName := ⟨RX8, "passedBy", "(I)I"⟩
abbrev cX8_frees : ByteArray := prog_10_method_66_code
def yX8_frees : MethodName := ⟨RX8, "frees", "(I)I"⟩
abbrev cX8_ledger : ByteArray := prog_10_method_67_code
def yX8_ledger : MethodName := ⟨RX8, "ledger", "(III)I"⟩
abbrev cX8_image : ByteArray := prog_10_method_68_code
def yX8_image : MethodName := ⟨RX8, "image", "(I)I"⟩
abbrev cX8_restore : ByteArray := prog_10_method_69_code
def yX8_restore : MethodName := ⟨RX8, "restore", "(I)I"⟩
abbrev cX8_kind : ByteArray := prog_10_method_70_code
def yX8_kind : MethodName := ⟨RX8, "kind", "(I)I"⟩
abbrev cX8_as : ByteArray := prog_10_method_71_code
def yX8_as : MethodName := ⟨RX8, "as", "(II)I"⟩
abbrev cX8_begins : ByteArray := prog_10_method_72_code
def yX8_begins : MethodName := ⟨RX8, "begins", "(I)V"⟩
abbrev cX8_plainMark : ByteArray := prog_10_method_73_code
def yX8_plainMark : MethodName := ⟨RX8, "plainMark", "(I)I"⟩
abbrev cX8_saintSize : ByteArray := prog_10_method_74_code
def yX8_saintSize : MethodName := ⟨RX8, "saintSize", "(I)I"⟩
abbrev cX8_plainSize : ByteArray := prog_10_method_75_code
def yX8_plainSize : MethodName := ⟨RX8, "plainSize", "(I)I"⟩
abbrev cX8_saintMark : ByteArray := prog_10_method_76_code
def yX8_saintMark : MethodName := ⟨RX8, "saintMark", "(I)I"⟩
abbrev cX8_ask : ByteArray := prog_10_method_77_code
def yX8_ask : MethodName := ⟨RX8, "ask", "(II)I"⟩
abbrev cX8_trace : ByteArray := prog_10_method_78_code
def yX8_trace : MethodName := ⟨RX8, "trace", "(I)I"⟩
abbrev cX8_count : ByteArray := prog_10_method_79_code
def yX8_count : MethodName := ⟨RX8, "count", "(I)I"⟩
abbrev cX8_status : ByteArray := prog_10_method_80_code
def yX8_status : MethodName := ⟨RX8, "status", "()I"⟩
def RL : String := "AlphaCourtLaw"
abbrev cL_law : ByteArray := code
def yL_law : MethodName := ⟨RL, "law", "([I)Z"⟩
abbrev vwCl : List vw_C := [(RX0, TX0, 6), (RX1, TX1, 2), (RX2, TX2, 16), (RX3, TX3, 6), (RX4, TX4, 8), (RX5, TX5, 1), (RX6, TX6, 3), (RX7, TX7, 11), (RX8, TX8, 27)]
end
section
/-! The frame: a memory of whole numbers over a fixed set of cells; G: from here the method comes to its end with Q. -/
abbrev Vl : Type := Int ⊕ Nat
abbrev Mem : Type := Nat → Int → Int
abbrev Mth : Type := String × ByteArray × Nat × Option FieldType × MethodName
def mO (y : Mth) : String := y.1
def mC (y : Mth) : ByteArray := y.2.1
def mL (y : Mth) : Nat := y.2.2.1
def mR (y : Mth) : Option FieldType := y.2.2.2.1
def mN (y : Mth) : MethodName := y.2.2.2.2
def TB : List Cond := lw_tbl.filter goodWord
def mW (y : Mth) : List Cond := Cond.code (mN y) (mC y) (mL y) (mR y) :: TB
/-- the launch, the first of our cells, where each cell lies, the classes, the arrays' classes, the tables that nobody writes, the script's length -/
abbrev Ex : Type := Launch × Nat × (Nat → Nat) × va_G × (Nat → ClassId) × (Nat → Nat → Int) × Nat
def eLn (E : Ex) : Launch := E.1
def eZ (E : Ex) : Nat := E.2.1
def eA (E : Ex) : Nat → Nat := E.2.2.1
def eD (E : Ex) : va_G := E.2.2.2.1
def eK (E : Ex) : Nat → ClassId := E.2.2.2.2.1
def eR (E : Ex) : Nat → Nat → Int := E.2.2.2.2.2.1
def eS (E : Ex) : Nat := E.2.2.2.2.2.2
def fr (E : Ex) : Nat → Prop := fun q => eZ E ≤ q
def roN (E : Ex) (i : Nat) : Nat := if i = 4 then eS E else 6
def tys (E : Ex) : List (ClassId × FieldType) := [(eK E 0, .int), (eK E 1, .boolean), (eK E 2, .object "AlphaCourt$Row"), (eK E 3, .object "AlphaCourt$Court")]
def sC (i : Nat) : String := if i < 2 then "AlphaCourt" else "AlphaCourt$Asks"
def sN (i : Nat) : String := if i = 0 then "WIDER_KIND" else if i = 1 then "GROUP" else if i = 2 then "SIZE_BODY" else "MARK_BODY"
def St (E : Ex) (U : State) (H : Heap) : Prop := va_K (eD E) vwCl (tys E) U ∧ (∀ i, i < 5 → va_T .int (eA E (100 + i)) (roN E i) (fun j => .int (Int32.ofInt (eR E i j))) (fr E) U H) ∧ (∀ i, i < 4 → va_Z (sC i) (sN i) "[I" (.ref (eA E (100 + i))) (fr E) U H) ∧ ∀ (a : String) (i : Nat) (b n d h : String), Cond.fieldLinkNest a i b n d h ∈ lw_tbl → va_Nw (.fieldLinkNest a i b n d h) U
def Eok (E : Ex) : Prop := (∀ i j, i < 100 → j < 100 → eA E i = eA E j → i = j) ∧ (∀ i, i < 100 → eZ E ≤ eA E i) ∧ eS E < 2 ^ 31
/-- the shape of a cell: 0 ints, 1 booleans, 2 rows, 3 courts, 4 + c an object of class c (its fields: 0 a number, r + 1 the cell r) -/
def coL (c : Nat) : List (Nat × Nat × List Nat) := [(6, 16, [0, 0, 0, 0, 0, 0, c + 2, c + 3, c + 4, c + 5, c + 6, c + 7, c + 8, c + 9, c + 10, 0]), (0, 8, []), (0, 8, []), (0, 6, []), (0, 6, []), (0, 24, []), (0, 6, []), (0, 6, []), (0, 6, []), (0, 6, [])]
def roL (c : Nat) : List (Nat × Nat × List Nat) := [(10, 3, [c + 2, 0, 0]), (0, 40, [])]
def shL : List (Nat × Nat × List Nat) := [(11, 11, [2, 3, 5, 15, 25, 26, 31, 42, 46, 0, 0]), (2, 8, [47, 49, 51, 53, 55, 57, 59, 61]), (8, 8, [4, 0, 0, 0, 0, 0, 0, 0]), (0, 120, [])] ++ coL 4 ++ coL 14 ++ [(3, 2, [63, 73]), (4, 6, [27, 28, 29, 30, 0, 0]), (0, 24, []), (0, 24, []), (0, 24, []), (0, 24, []), (9, 1, [32])] ++ coL 31 ++ [(7, 6, [43, 0, 0, 44, 45, 0]), (0, 6, []), (0, 6, []), (0, 4, []), (5, 2, [47, 0]), (0, 16, [])] ++ roL 47 ++ roL 49 ++ roL 51 ++ roL 53 ++ roL 55 ++ roL 57 ++ roL 59 ++ roL 61 ++ coL 63 ++ coL 73 ++ [(12, 27, [85, 86, 87, 88, 0, 89, 0, 0, 0, 0, 0, 0, 0, 90, 91, 92, 93, 0, 94, 95, 96, 0, 97, 0, 98, 99, 100]), (0, 8, []), (0, 8, []), (0, 320, []), (0, 40, []), (0, 120, []), (0, 91, []), (0, 91, []), (0, 91, []), (0, 2184, []), (0, 182, []), (1, 2, []), (0, 16, []), (0, 6, []), (0, 6, []), (0, 6, []), (0, 6, [])]
def shp (k : Nat) : Nat × Nat × List Nat := shL.getD k (0, 0, [])
theorem shL_len : shL.length = 100 := by decide +kernel
theorem shp_lt {k t n : Nat} {rs : List Nat} (h : shp k = (t, n, rs)) (h2 : t ≠ 0 ∨ 0 < n) : k < 100 := by
  rcases Nat.lt_or_ge k 100 with q | q
  · exact q
  · unfold shp at h
    rw [List.getD_eq_getElem?_getD, List.getElem?_eq_none (by rw [shL_len]; exact q)] at h
    simp only [Option.getD_none, Prod.mk.injEq] at h
    obtain ⟨h3, h4, -⟩ := h
    rcases h2 with h2 | h2 <;> omega
def fl (E : Ex) (μ : Mem) (k : Nat) : Nat → List Nat → List Value
  | _, [] => []
  | j, r :: t => (if r = 0 then Value.int (Int32.ofInt (μ k j)) else .ref (eA E (r - 1))) :: fl E μ k (j + 1) t
def ent (E : Ex) (μ : Mem) (k : Nat) : va_E := match shp k with
  | (0, n, _) => .inl (eK E 0, n, .inl (fun j => Int32.ofInt (μ k (j : Nat))))
  | (1, n, _) => .inl (eK E 1, n, .inl (fun j => Int32.ofInt (μ k (j : Nat))))
  | (2, n, rs) => .inl (eK E 2, n, .inr (.inr (.inr (.inr (fun j => (rs[j]?).map (eA E))))))
  | (3, n, rs) => .inl (eK E 3, n, .inr (.inr (.inr (.inr (fun j => (rs[j]?).map (eA E))))))
  | (t + 4, _, rs) => .inr (t, fl E μ k 0 rs)
def wl (E : Ex) (μ : Mem) : va_W := (List.range 100).map (fun k => (eA E k, ent E μ k))
def up (μ : Mem) (k : Nat) (i v : Int) : Mem := fun k' i' => if k' = k ∧ i' = i then v else μ k' i'
theorem wl_at {E : Ex} {μ : Mem} {k : Nat} (hk : k < 100) : (wl E μ)[k]? = some (eA E k, ent E μ k) := by
  unfold wl
  rw [List.getElem?_map, List.getElem?_range hk]
  rfl
theorem wl_some {E : Ex} {μ : Mem} {k : Nat} {q : Nat × va_E} (h : (wl E μ)[k]? = some q) : k < 100 ∧ q = (eA E k, ent E μ k) := by
  have hk : k < 100 := by
    have := (List.getElem?_eq_some_iff.mp h).1
    simpa [wl] using this
  rw [wl_at hk] at h
  exact ⟨hk, (Option.some.inj h).symm⟩
theorem wl_D {E : Ex} {μ : Mem} (hE : Eok E) : va_D (fr E) (wl E μ) := by
  refine ⟨fun i j p q hi hj h => ?_, fun k q hk => ?_⟩
  · obtain ⟨a, rfl⟩ := wl_some hi
    obtain ⟨b, rfl⟩ := wl_some hj
    exact hE.1 i j a b h
  · obtain ⟨a, rfl⟩ := wl_some hk
    exact hE.2.1 k a
theorem fl_congr {E : Ex} {μ μ' : Mem} {k : Nat} (h : μ k = μ' k) : ∀ (rs : List Nat) (j : Nat), fl E μ k j rs = fl E μ' k j rs
  | [], _ => rfl
  | r :: t, j => by rw [fl, fl, h, fl_congr h t]
theorem ent_congr {E : Ex} {μ μ' : Mem} {k : Nat} (h : μ k = μ' k) : ent E μ k = ent E μ' k := by
  unfold ent
  split <;> first | rw [h] | rw [fl_congr h] | rfl
theorem up_ne {μ : Mem} {k k' : Nat} {i v : Int} (h : k' ≠ k) : up μ k i v k' = μ k' := by
  funext j
  simp [up, h]
theorem wl_set {E : Ex} {μ : Mem} {k : Nat} {i v : Int} {x : va_E} (hk : k < 100) (hx : x = ent E (up μ k i v) k) : (wl E μ).set k (eA E k, x) = wl E (up μ k i v) := by
  subst hx
  refine List.ext_getElem? fun j => ?_
  by_cases hj : j = k
  · subst hj
    rw [List.getElem?_set_self (by simpa [wl] using hk), wl_at hk]
  · rw [List.getElem?_set_ne (Ne.symm hj)]
    by_cases hl : j < 100
    · rw [wl_at hl, wl_at hl, ent_congr (up_ne hj)]
    · rw [List.getElem?_eq_none (by simp [wl]; omega), List.getElem?_eq_none (by simp [wl]; omega)]
theorem fl_at {E : Ex} {μ : Mem} {k : Nat} : ∀ (rs : List Nat) (j0 j r : Nat), rs[j]? = some r → (fl E μ k j0 rs)[j]? = some (if r = 0 then Value.int (Int32.ofInt (μ k ((j0 + j : Nat)))) else .ref (eA E (r - 1)))
  | [], j0, j, r, h => by simp at h
  | a :: t, j0, 0, r, h => by
    simp only [List.getElem?_cons_zero, Option.some.injEq] at h
    subst h
    rfl
  | a :: t, j0, j + 1, r, h => by
    rw [List.getElem?_cons_succ] at h
    rw [fl, List.getElem?_cons_succ, fl_at t (j0 + 1) j r h, show j0 + 1 + j = j0 + (j + 1) by omega]
theorem fl_len {E : Ex} {μ : Mem} {k : Nat} : ∀ (rs : List Nat) (j0 : Nat), (fl E μ k j0 rs).length = rs.length
  | [], _ => rfl
  | a :: t, j0 => by rw [fl, List.length_cons, List.length_cons, fl_len t]
theorem fl_set {E : Ex} {μ : Mem} {k : Nat} {v : Int} : ∀ (rs : List Nat) (j0 j : Nat), rs[j]? = some 0 → (fl E μ k j0 rs).set j (.int (Int32.ofInt v)) = fl E (up μ k ((j0 + j : Nat)) v) k j0 rs
  | [], j0, j, h => by simp at h
  | a :: t, j0, 0, h => by
    simp only [List.getElem?_cons_zero, Option.some.injEq] at h
    subst h
    rw [fl, fl, List.set_cons_zero]
    congr 1
    · simp [up]
    · have key : ∀ (rs : List Nat) (j : Nat), j0 < j → fl E μ k j rs = fl E (up μ k ((j0 + 0 : Nat)) v) k j rs := by
        intro rs
        induction rs with
        | nil => intro j _; rfl
        | cons b u ih =>
          intro j hj
          rw [fl, fl, ih (j + 1) (by omega)]
          have : up μ k ((j0 + 0 : Nat)) v k j = μ k j := by
            unfold up
            rw [if_neg]
            rintro ⟨-, h⟩
            omega
          rw [this]
      exact key t (j0 + 1) (by omega)
  | a :: t, j0, j + 1, h => by
    rw [List.getElem?_cons_succ] at h
    rw [fl, fl, List.set_cons_succ, fl_set t (j0 + 1) j h, show j0 + 1 + j = j0 + (j + 1) by omega]
    congr 1
    have : up μ k ((j0 + (j + 1) : Nat)) v k j0 = μ k j0 := by
      unfold up
      rw [if_neg]
      rintro ⟨-, h⟩
      omega
    rw [this]
abbrev inR (x : Int) : Prop := -2147483648 ≤ x ∧ x < 2147483648
theorem inR_toInt {x : Int} (h : inR x) : (Int32.ofInt x).toInt = x := Int32.toInt_ofInt_of_le (by have := h.1; omega) (by have := h.2; omega)
theorem inR_clamp {x : Int} (h : inR x) : (Int32.ofInt x).toNatClampNeg = x.toNat := Int32.toNatClampNeg_ofInt_of_le (by have := h.1; omega) (by have := h.2; omega)
theorem inR_lt {x y : Int} (hx : inR x) (hy : inR y) : Int32.ofInt x < Int32.ofInt y ↔ x < y := by rw [Int32.lt_iff_toInt_lt, inR_toInt hx, inR_toInt hy]
theorem inR_le {x y : Int} (hx : inR x) (hy : inR y) : Int32.ofInt x ≤ Int32.ofInt y ↔ x ≤ y := by rw [Int32.le_iff_toInt_le, inR_toInt hx, inR_toInt hy]
theorem inR_eq {x y : Int} (hx : inR x) (hy : inR y) : Int32.ofInt x = Int32.ofInt y ↔ x = y := by rw [← Int32.toInt_inj, inR_toInt hx, inR_toInt hy]
theorem inR_of (x : Int32) : inR x.toInt := ⟨by have := x.le_toInt; omega, by have := x.toInt_lt; omega⟩
theorem ofI0 : Int32.ofInt 0 = 0 := rfl
theorem inR0 : inR 0 := by unfold inR; omega
theorem inR_vp {x : Int} {n : Nat} (hn : n < 2 ^ 31) (h1 : 0 ≤ x) (h2 : x < n) : vp_in (Int32.ofInt x) n := by
  have hr : inR x := by unfold inR; omega
  rw [vp_in_iff, inR_toInt hr]
  exact ⟨h1, h2⟩
def tv (E : Ex) : Vl → Value
  | .inl x => .int (Int32.ofInt x)
  | .inr k => .ref (eA E k)
theorem tv_cat (E : Ex) (v : Vl) : (tv E v).category = 1 := by cases v <;> rfl
theorem tv_sum (E : Ex) : ∀ st : List Vl, ((st.map (tv E)).map fun v => v.category).sum = st.length
  | [] => rfl
  | a :: t => by rw [List.map_cons, List.map_cons, List.sum_cons, tv_sum E t, tv_cat, List.length_cons]; omega
def LcS (E : Ex) (lsA : Array Slot) (n : Nat) (ls : List (Option Vl)) : Prop := lsA.size = n ∧ lv_wf lsA ∧ ∀ (i : Nat) (v : Vl), ls[i]? = some (some v) → lsA[i]? = some (.val (tv E v))
def lsP (E : Ex) (ls : List (Option Vl)) : List (Nat × Value) := (List.range ls.length).filterMap (fun i => match ls[i]? with | some (some v) => some (i, tv E v) | _ => none)
theorem lsP_mem {E : Ex} {ls : List (Option Vl)} {q : Nat × Value} : q ∈ lsP E ls ↔ ∃ v, ls[q.1]? = some (some v) ∧ q.2 = tv E v := by
  unfold lsP
  rw [List.mem_filterMap]
  constructor
  · rintro ⟨i, hi, h⟩
    split at h
    · next v hv =>
      cases h
      exact ⟨v, hv, rfl⟩
    · cases h
  · rintro ⟨v, h1, h2⟩
    refine ⟨q.1, ?_, ?_⟩
    · rw [List.mem_range]
      exact (List.getElem?_eq_some_iff.mp h1).1
    · rw [h1]
      show some (q.1, tv E v) = some q
      rw [← h2]
theorem LcS.has {E : Ex} {lsA : Array Slot} {n : Nat} {ls : List (Option Vl)} (h : LcS E lsA n ls) : lv_has lsA n (lsP E ls) := by
  refine ⟨h.1, h.2.1, fun q hq => ?_⟩
  obtain ⟨v, h1, h2⟩ := lsP_mem.mp hq
  rw [h2]
  exact h.2.2 q.1 v h1
theorem LcS.set {E : Ex} {lsA : Array Slot} {n i : Nat} {ls : List (Option Vl)} {v : Vl} {w : Value} (hw : w = tv E v) (h : lv_has lsA n ((i, w) :: (lsP E ls).filter (fun q => !(q.1 == i) && !(q.1 + 1 == i && q.2.category == 2)))) : LcS E lsA n (ls.set i (some v)) := by
  subst hw
  refine ⟨h.1, h.2.1, fun j u hj => ?_⟩
  by_cases hij : j = i
  · subst hij
    have hl := (List.getElem?_eq_some_iff.mp hj).1
    rw [List.length_set] at hl
    rw [List.getElem?_set_self hl] at hj
    cases hj
    exact h.2.2 (j, tv E v) List.mem_cons_self
  · rw [List.getElem?_set_ne (Ne.symm hij)] at hj
    refine h.2.2 (j, tv E u) (List.mem_cons_of_mem _ (List.mem_filter.mpr ⟨lsP_mem.mpr ⟨u, hj, rfl⟩, ?_⟩))
    simp [hij, tv_cat]
def en0 (n : Nat) (as : List Vl) : List (Option Vl) := as.map some ++ List.replicate (n - as.length) none
theorem args_mem (E : Ex) : ∀ (as : List Vl) (i0 j : Nat) (v : Vl), as[j]? = some v → (i0 + j, tv E v) ∈ lv_args i0 (as.map (tv E))
  | [], _, _, _, h => by simp at h
  | a :: t, i0, 0, v, h => by
    simp only [List.getElem?_cons_zero, Option.some.injEq] at h
    subst h
    exact List.mem_cons_self
  | a :: t, i0, j + 1, v, h => by
    rw [List.getElem?_cons_succ] at h
    rw [List.map_cons, lv_args, if_neg (by rw [tv_cat]; decide)]
    refine List.mem_cons_of_mem _ ?_
    have := args_mem E t (i0 + 1) j v h
    rwa [show i0 + 1 + j = i0 + (j + 1) by omega] at this
theorem sl_len (E : Ex) : ∀ as : List Vl, (lg_sl (as.map (tv E))).length = as.length
  | [] => rfl
  | a :: t => by
    have := sl_len E t
    simp only [lg_sl, List.map_cons, List.flatMap_cons, tv_cat, List.length_append, List.length_cons] at this ⊢
    rw [if_neg (by decide)]
    simp only [List.length_cons, List.length_nil]
    omega
theorem LcS.entry (E : Ex) {as : List Vl} {n : Nat} (h : as.length ≤ n) : LcS E ((lg_sl (as.map (tv E)) ++ List.replicate (n - (lg_sl (as.map (tv E))).length) Slot.unset).toArray) n (en0 n as) := by
  have hl := lv_entry (as.map (tv E)) (n := n) (by rw [sl_len]; exact h)
  refine ⟨hl.1, hl.2.1, fun i v hi => ?_⟩
  unfold en0 at hi
  have hlt : i < as.length := by
    rcases Nat.lt_or_ge i as.length with q | q
    · exact q
    · rw [List.getElem?_append_right (by simpa using q)] at hi
      have := List.mem_of_getElem? hi
      rw [List.mem_replicate] at this
      exact absurd this.2 (by simp)
  rw [List.getElem?_append_left (by simpa using hlt), List.getElem?_map] at hi
  have hv : as[i]? = some v := by
    cases hq : as[i]? with
    | none => rw [hq] at hi; cases hi
    | some u => rw [hq] at hi; simpa using hi
  have := hl.2.2 _ (args_mem E as 0 i v hv)
  simpa using this
end
section
/-- what holds of the machine in a body of the method y, with room for d frames more -/
def Cx (E : Ex) (y : Mth) (d : Nat) (p : Program) (R : Room) (s : State) (m : MethodId) (args : Array Value) (c : Code) (cells slots : Nat) : Prop :=
  Eok E ∧ p.tables.exec = Jvm.exec ∧ c.code = mC y ∧ c.maxLocals = mL y ∧ s.vm.findClass (mO y) = some m.cls ∧ (∀ w ∈ TB, w.before args s = true) ∧ (d ≤ R.frames ∧ 40 * d + 24 ≤ R.locals) ∧ (cells ≤ R.cells ∧ slots ≤ R.slots) ∧ St E s s.heap
def retOk (y : Mth) (pc : Nat) : Option Vl → Prop
  | none => decode (mC y) pc = .ok (.return_, 1) ∧ mR y = none
  | some (.inl x) => decode (mC y) pc = .ok (.ireturn, 1) ∧ (mR y = some .int ∨ (mR y = some .boolean ∧ (x = 0 ∨ x = 1)))
  | some (.inr _) => decode (mC y) pc = .ok (.areturn, 1) ∧ ∃ C, mR y = some (.object C)
/-- from here the method comes to its end, with an answer and a memory as Q has it -/
def Gg (E : Ex) (d : Nat) (y : Mth) (pc : Nat) (ls : List (Option Vl)) (st : List Vl) (μ : Mem) (Q : Option Vl → Mem → Prop) : Prop :=
  ∀ (p : Program) (e : Env) (R : Room) (s : State) (m : MethodId) (args : Array Value) (below : List Frame) (meth : Method) (c : Code) (H : Heap) (locs : List Loc) (cells slots : Nat) (lsA : Array Slot) (QQ : State → Prop),
    Cx E y d p R s m args c cells slots → va_P (eD E) vwCl (wl E μ) H → va_S (fr E) s.heap H locs → LcS E lsA (mL y) ls →
    (∀ (v : Option Vl) (μ' : Mem) (H' : Heap) (locs' : List Loc) (pc' : Nat) (ls' : Array Slot), Q v μ' → va_P (eD E) vwCl (wl E μ') H' → va_S (fr E) s.heap H' locs' → retOk y pc' v →
      W p (eLn E) e R s m args below meth c H' locs' cells slots QQ (F0 m pc' ls' (v.toList.map (tv E)))) →
    W p (eLn E) e R s m args below meth c H locs cells slots QQ (F0 m pc lsA (st.map (tv E)))
def Cl (E : Ex) (d : Nat) (y : Mth) (as : List Vl) (μ : Mem) (Q : Option Vl → Mem → Prop) : Prop := Gg E d y 0 (en0 (mL y) as) [] μ Q
theorem inR_eq0 {x : Int} (h : inR x) : Int32.ofInt x = 0 ↔ x = 0 := inR_eq h inR0
theorem inR_ne0 {x : Int} (h : inR x) : ¬ Int32.ofInt x = 0 ↔ x ≠ 0 := not_congr (inR_eq h inR0)
theorem inR_lt0 {x : Int} (h : inR x) : Int32.ofInt x < 0 ↔ x < 0 := inR_lt h inR0
theorem inR_ge0 {x : Int} (h : inR x) : 0 ≤ Int32.ofInt x ↔ x ≥ 0 := inR_le inR0 h
theorem inR_gt0 {x : Int} (h : inR x) : 0 < Int32.ofInt x ↔ x > 0 := inR_lt inR0 h
theorem inR_le0 {x : Int} (h : inR x) : Int32.ofInt x ≤ 0 ↔ x ≤ 0 := inR_le h inR0
theorem inR_eq2 {x y : Int} (h : inR x) (k : inR y) : Int32.ofInt x = Int32.ofInt y ↔ x = y := inR_eq h k
theorem inR_ne2 {x y : Int} (h : inR x) (k : inR y) : ¬ Int32.ofInt x = Int32.ofInt y ↔ x ≠ y := not_congr (inR_eq h k)
theorem inR_lt2 {x y : Int} (h : inR x) (k : inR y) : Int32.ofInt x < Int32.ofInt y ↔ x < y := inR_lt h k
theorem inR_ge2 {x y : Int} (h : inR x) (k : inR y) : Int32.ofInt y ≤ Int32.ofInt x ↔ x ≥ y := inR_le k h
theorem inR_gt2 {x y : Int} (h : inR x) (k : inR y) : Int32.ofInt y < Int32.ofInt x ↔ x > y := inR_lt k h
theorem inR_le2 {x y : Int} (h : inR x) (k : inR y) : Int32.ofInt x ≤ Int32.ofInt y ↔ x ≤ y := inR_le h k
section Rules
variable {E : Ex} {d : Nat} {y : Mth} {pc q : Nat} {ls : List (Option Vl)} {st : List Vl} {μ : Mem} {Q : Option Vl → Mem → Prop}
theorem Gg.mono {d' : Nat} (h : d ≤ d') (k : Gg E d y pc ls st μ Q) : Gg E d' y pc ls st μ Q := by
  intro p e R s m args below meth c H locs cells slots lsA QQ C
  obtain ⟨h1, h2, h3, h4, h5, h6, h7, h8, h9⟩ := C
  exact k p e R s m args below meth c H locs cells slots lsA QQ ⟨h1, h2, h3, h4, h5, h6, ⟨Nat.le_trans h h7.1, by have := h7.2; omega⟩, h8, h9⟩
theorem Gg.imp {Q' : Option Vl → Mem → Prop} (k : Gg E d y pc ls st μ Q) (h : ∀ v μ', Q v μ' → Q' v μ') : Gg E d y pc ls st μ Q' := by
  intro p e R s m args below meth c H locs cells slots lsA QQ C hP hS hl hr
  exact k p e R s m args below meth c H locs cells slots lsA QQ C hP hS hl (fun v μ' H' locs' pc' ls' hq => hr v μ' H' locs' pc' ls' (h v μ' hq))
theorem Cl.mono {d' : Nat} {as : List Vl} (h : d ≤ d') (k : Cl E d y as μ Q) : Cl E d' y as μ Q := Gg.mono h k
theorem Cl.imp {Q' : Option Vl → Mem → Prop} {as : List Vl} (k : Cl E d y as μ Q) (h : ∀ v μ', Q v μ' → Q' v μ') : Cl E d y as μ Q' := Gg.imp k h
theorem r_iconst {n : Int} (hd : decode (mC y) pc = .ok (.iconst n, 1)) (hq : pc + 1 = q) (k : Gg E d y q ls (.inl n :: st) μ Q) : Gg E d y pc ls st μ Q := by
  intro p e R s m args below meth c H locs cells slots lsA QQ C hP hS hl hr
  obtain ⟨hE, hx, hb, hml, hown, hts, hR, hc, hSt⟩ := id C
  subst hq
  exact lv_iconst (v := Int32.ofInt n) hx hb hd rfl (k p e R s m args below meth c H locs cells slots lsA QQ C hP hS hl hr)
theorem r_bipush {n : Int} (hd : decode (mC y) pc = .ok (.bipush n, 2)) (hq : pc + 2 = q) (hv : (Int8.ofInt n).toInt32 = Int32.ofInt n) (k : Gg E d y q ls (.inl n :: st) μ Q) : Gg E d y pc ls st μ Q := by
  intro p e R s m args below meth c H locs cells slots lsA QQ C hP hS hl hr
  obtain ⟨hE, hx, hb, hml, hown, hts, hR, hc, hSt⟩ := id C
  subst hq
  exact lv_bipush (v := Int32.ofInt n) hx hb hd hv (k p e R s m args below meth c H locs cells slots lsA QQ C hP hS hl hr)
theorem r_sipush {n : Int} (hd : decode (mC y) pc = .ok (.sipush n, 3)) (hq : pc + 3 = q) (hv : (Int16.ofInt n).toInt32 = Int32.ofInt n) (k : Gg E d y q ls (.inl n :: st) μ Q) : Gg E d y pc ls st μ Q := by
  intro p e R s m args below meth c H locs cells slots lsA QQ C hP hS hl hr
  obtain ⟨hE, hx, hb, hml, hown, hts, hR, hc, hSt⟩ := id C
  subst hq
  exact lv_sipush (v := Int32.ofInt n) hx hb hd hv (k p e R s m args below meth c H locs cells slots lsA QQ C hP hS hl hr)
theorem r_ldc {idx : Nat} {n : Int} (hd : decode (mC y) pc = .ok (.ldc idx, 2)) (hq : pc + 2 = q) (hw : Cond.constant (mO y) idx (Int32.ofInt n) ∈ TB) (k : Gg E d y q ls (.inl n :: st) μ Q) : Gg E d y pc ls st μ Q := by
  intro p e R s m args below meth c H locs cells slots lsA QQ C hP hS hl hr
  obtain ⟨hE, hx, hb, hml, hown, hts, hR, hc, hSt⟩ := id C
  subst hq
  exact lv_ldc (v := Int32.ofInt n) hx hb hown (hts _ hw) hd (k p e R s m args below meth c H locs cells slots lsA QQ C hP hS hl hr)
theorem r_ldcw {idx : Nat} {n : Int} (hd : decode (mC y) pc = .ok (.ldc_w idx, 3)) (hq : pc + 3 = q) (hw : Cond.constant (mO y) idx (Int32.ofInt n) ∈ TB) (k : Gg E d y q ls (.inl n :: st) μ Q) : Gg E d y pc ls st μ Q := by
  intro p e R s m args below meth c H locs cells slots lsA QQ C hP hS hl hr
  obtain ⟨hE, hx, hb, hml, hown, hts, hR, hc, hSt⟩ := id C
  subst hq
  exact lv_ldcw (v := Int32.ofInt n) hx hb hown (hts _ hw) hd (k p e R s m args below meth c H locs cells slots lsA QQ C hP hS hl hr)
theorem r_iloadn {n : Fin 4} {x : Int} (hd : decode (mC y) pc = .ok (.iload_n n, 1)) (hq : pc + 1 = q) (hx0 : ls[(n : Nat)]? = some (some (.inl x))) (k : Gg E d y q ls (.inl x :: st) μ Q) : Gg E d y pc ls st μ Q := by
  intro p e R s m args below meth c H locs cells slots lsA QQ C hP hS hl hr
  obtain ⟨hE, hx, hb, hml, hown, hts, hR, hc, hSt⟩ := id C
  subst hq
  exact lv_iload_n hx hb hd rfl (hl.2.2 _ _ hx0) (k p e R s m args below meth c H locs cells slots lsA QQ C hP hS hl hr)
theorem r_iload {n : Nat} {x : Int} (hd : decode (mC y) pc = .ok (.iload n, 2)) (hq : pc + 2 = q) (hx0 : ls[n]? = some (some (.inl x))) (k : Gg E d y q ls (.inl x :: st) μ Q) : Gg E d y pc ls st μ Q := by
  intro p e R s m args below meth c H locs cells slots lsA QQ C hP hS hl hr
  obtain ⟨hE, hx, hb, hml, hown, hts, hR, hc, hSt⟩ := id C
  subst hq
  exact lv_iload hx hb hd (hl.2.2 _ _ hx0) (k p e R s m args below meth c H locs cells slots lsA QQ C hP hS hl hr)
theorem r_aloadn {n : Fin 4} {x : Nat} (hd : decode (mC y) pc = .ok (.aload_n n, 1)) (hq : pc + 1 = q) (hx0 : ls[(n : Nat)]? = some (some (.inr x))) (k : Gg E d y q ls (.inr x :: st) μ Q) : Gg E d y pc ls st μ Q := by
  intro p e R s m args below meth c H locs cells slots lsA QQ C hP hS hl hr
  obtain ⟨hE, hx, hb, hml, hown, hts, hR, hc, hSt⟩ := id C
  subst hq
  exact lv_aload_n hx hb hd rfl (hl.2.2 _ _ hx0) (k p e R s m args below meth c H locs cells slots lsA QQ C hP hS hl hr)
theorem r_aload {n : Nat} {x : Nat} (hd : decode (mC y) pc = .ok (.aload n, 2)) (hq : pc + 2 = q) (hx0 : ls[n]? = some (some (.inr x))) (k : Gg E d y q ls (.inr x :: st) μ Q) : Gg E d y pc ls st μ Q := by
  intro p e R s m args below meth c H locs cells slots lsA QQ C hP hS hl hr
  obtain ⟨hE, hx, hb, hml, hown, hts, hR, hc, hSt⟩ := id C
  subst hq
  exact lv_aload hx hb hd (hl.2.2 _ _ hx0) (k p e R s m args below meth c H locs cells slots lsA QQ C hP hS hl hr)
theorem r_istoren {n : Fin 4} {x : Int} (hd : decode (mC y) pc = .ok (.istore_n n, 1)) (hq : pc + 1 = q) (hn : (n : Nat) < mL y) (k : Gg E d y q (ls.set (n : Nat) (some (.inl x))) st μ Q) : Gg E d y pc ls (.inl x :: st) μ Q := by
  intro p e R s m args below meth c H locs cells slots lsA QQ C hP hS hl hr
  obtain ⟨hE, hx, hb, hml, hown, hts, hR, hc, hSt⟩ := id C
  subst hq
  exact lv_istore_n hx hb hd rfl hl.has hn rfl (fun ls' h' => k p e R s m args below meth c H locs cells slots ls' QQ C hP hS (LcS.set (v := .inl x) rfl h') hr)
theorem r_istore {n : Nat} {x : Int} (hd : decode (mC y) pc = .ok (.istore n, 2)) (hq : pc + 2 = q) (hn : n < mL y) (k : Gg E d y q (ls.set n (some (.inl x))) st μ Q) : Gg E d y pc ls (.inl x :: st) μ Q := by
  intro p e R s m args below meth c H locs cells slots lsA QQ C hP hS hl hr
  obtain ⟨hE, hx, hb, hml, hown, hts, hR, hc, hSt⟩ := id C
  subst hq
  exact lv_istore hx hb hd hl.has hn rfl (fun ls' h' => k p e R s m args below meth c H locs cells slots ls' QQ C hP hS (LcS.set (v := .inl x) rfl h') hr)
theorem r_astoren {n : Fin 4} {x : Nat} (hd : decode (mC y) pc = .ok (.astore_n n, 1)) (hq : pc + 1 = q) (hn : (n : Nat) < mL y) (k : Gg E d y q (ls.set (n : Nat) (some (.inr x))) st μ Q) : Gg E d y pc ls (.inr x :: st) μ Q := by
  intro p e R s m args below meth c H locs cells slots lsA QQ C hP hS hl hr
  obtain ⟨hE, hx, hb, hml, hown, hts, hR, hc, hSt⟩ := id C
  subst hq
  exact lv_astore_n hx hb hd rfl hl.has hn rfl (fun ls' h' => k p e R s m args below meth c H locs cells slots ls' QQ C hP hS (LcS.set (v := .inr x) rfl h') hr)
theorem r_astore {n : Nat} {x : Nat} (hd : decode (mC y) pc = .ok (.astore n, 2)) (hq : pc + 2 = q) (hn : n < mL y) (k : Gg E d y q (ls.set n (some (.inr x))) st μ Q) : Gg E d y pc ls (.inr x :: st) μ Q := by
  intro p e R s m args below meth c H locs cells slots lsA QQ C hP hS hl hr
  obtain ⟨hE, hx, hb, hml, hown, hts, hR, hc, hSt⟩ := id C
  subst hq
  exact lv_astore hx hb hd hl.has hn rfl (fun ls' h' => k p e R s m args below meth c H locs cells slots ls' QQ C hP hS (LcS.set (v := .inr x) rfl h') hr)
theorem r_iinc {n : Nat} {w x : Int} (hd : decode (mC y) pc = .ok (.iinc n w, 3)) (hq : pc + 3 = q) (hx0 : ls[n]? = some (some (.inl x))) (hn : n < mL y) (k : Gg E d y q (ls.set n (some (.inl (x + w)))) st μ Q) : Gg E d y pc ls st μ Q := by
  intro p e R s m args below meth c H locs cells slots lsA QQ C hP hS hl hr
  obtain ⟨hE, hx, hb, hml, hown, hts, hR, hc, hSt⟩ := id C
  subst hq
  obtain ⟨j, hj⟩ := List.getElem?_of_mem (lsP_mem (E := E) (ls := ls) (q := (n, tv E (.inl x))) |>.mpr ⟨_, hx0, rfl⟩)
  exact lv_iinc (v := Int32.ofInt (x + w)) hx hb hd hl.has hj (by rw [Int32.ofInt_add]) hn rfl (fun ls' h' => k p e R s m args below meth c H locs cells slots ls' QQ C hP hS (LcS.set (v := .inl (x + w)) rfl h') hr)
theorem r_iadd {a b : Int} (hd : decode (mC y) pc = .ok (.iadd, 1)) (hq : pc + 1 = q) (k : Gg E d y q ls (.inl (a + b) :: st) μ Q) : Gg E d y pc ls (.inl b :: .inl a :: st) μ Q := by
  intro p e R s m args below meth c H locs cells slots lsA QQ C hP hS hl hr
  obtain ⟨hE, hx, hb, hml, hown, hts, hR, hc, hSt⟩ := id C
  subst hq
  have := k p e R s m args below meth c H locs cells slots lsA QQ C hP hS hl hr
  simp only [List.map_cons, tv, Int32.ofInt_add] at this
  exact lv_iadd hx hb hd this
theorem r_isub {a b : Int} (hd : decode (mC y) pc = .ok (.isub, 1)) (hq : pc + 1 = q) (k : Gg E d y q ls (.inl (a - b) :: st) μ Q) : Gg E d y pc ls (.inl b :: .inl a :: st) μ Q := by
  intro p e R s m args below meth c H locs cells slots lsA QQ C hP hS hl hr
  obtain ⟨hE, hx, hb, hml, hown, hts, hR, hc, hSt⟩ := id C
  subst hq
  have := k p e R s m args below meth c H locs cells slots lsA QQ C hP hS hl hr
  simp only [List.map_cons, tv, Int32.ofInt_sub] at this
  exact lv_isub hx hb hd this
theorem r_imul {a b : Int} (hd : decode (mC y) pc = .ok (.imul, 1)) (hq : pc + 1 = q) (k : Gg E d y q ls (.inl (a * b) :: st) μ Q) : Gg E d y pc ls (.inl b :: .inl a :: st) μ Q := by
  intro p e R s m args below meth c H locs cells slots lsA QQ C hP hS hl hr
  obtain ⟨hE, hx, hb, hml, hown, hts, hR, hc, hSt⟩ := id C
  subst hq
  have := k p e R s m args below meth c H locs cells slots lsA QQ C hP hS hl hr
  simp only [List.map_cons, tv, Int32.ofInt_mul] at this
  exact lv_imul hx hb hd this
theorem r_ineg {a : Int} (hd : decode (mC y) pc = .ok (.ineg, 1)) (hq : pc + 1 = q) (k : Gg E d y q ls (.inl (-a) :: st) μ Q) : Gg E d y pc ls (.inl a :: st) μ Q := by
  intro p e R s m args below meth c H locs cells slots lsA QQ C hP hS hl hr
  obtain ⟨hE, hx, hb, hml, hown, hts, hR, hc, hSt⟩ := id C
  subst hq
  have := k p e R s m args below meth c H locs cells slots lsA QQ C hP hS hl hr
  simp only [List.map_cons, tv, Int32.ofInt_neg] at this
  exact lv_ineg hx hb hd this
def jand (a b : Int) : Int := (Int32.ofInt a &&& Int32.ofInt b).toInt
def jor (a b : Int) : Int := (Int32.ofInt a ||| Int32.ofInt b).toInt
def jxor (a b : Int) : Int := (Int32.ofInt a ^^^ Int32.ofInt b).toInt
def jshl (a b : Int) : Int := (Int32.ofInt a <<< (Int32.ofInt b &&& 31)).toInt
def jshr (a b : Int) : Int := (Int32.ofInt a >>> (Int32.ofInt b &&& 31)).toInt
def jbyte (a : Int) : Int := (Int32.ofInt a).toInt8.toInt32.toInt
def jshort (a : Int) : Int := (Int32.ofInt a).toInt16.toInt32.toInt
def jdiv (a b : Int) : Int := (Int32.ofInt a / Int32.ofInt b).toInt
def jrem (a b : Int) : Int := (Int32.ofInt a - Int32.ofInt a / Int32.ofInt b * Int32.ofInt b).toInt
theorem r_iand {a b : Int} (hd : decode (mC y) pc = .ok (.iand, 1)) (hq : pc + 1 = q) (k : Gg E d y q ls (.inl (jand a b) :: st) μ Q) : Gg E d y pc ls (.inl b :: .inl a :: st) μ Q := by
  intro p e R s m args below meth c H locs cells slots lsA QQ C hP hS hl hr
  obtain ⟨hE, hx, hb, hml, hown, hts, hR, hc, hSt⟩ := id C
  subst hq
  have := k p e R s m args below meth c H locs cells slots lsA QQ C hP hS hl hr
  simp only [List.map_cons, tv, jand, Int32.ofInt_toInt] at this
  exact lv_iand hx hb hd this
theorem r_ior {a b : Int} (hd : decode (mC y) pc = .ok (.ior, 1)) (hq : pc + 1 = q) (k : Gg E d y q ls (.inl (jor a b) :: st) μ Q) : Gg E d y pc ls (.inl b :: .inl a :: st) μ Q := by
  intro p e R s m args below meth c H locs cells slots lsA QQ C hP hS hl hr
  obtain ⟨hE, hx, hb, hml, hown, hts, hR, hc, hSt⟩ := id C
  subst hq
  have := k p e R s m args below meth c H locs cells slots lsA QQ C hP hS hl hr
  simp only [List.map_cons, tv, jor, Int32.ofInt_toInt] at this
  exact lv_ior hx hb hd this
theorem r_ixor {a b : Int} (hd : decode (mC y) pc = .ok (.ixor, 1)) (hq : pc + 1 = q) (k : Gg E d y q ls (.inl (jxor a b) :: st) μ Q) : Gg E d y pc ls (.inl b :: .inl a :: st) μ Q := by
  intro p e R s m args below meth c H locs cells slots lsA QQ C hP hS hl hr
  obtain ⟨hE, hx, hb, hml, hown, hts, hR, hc, hSt⟩ := id C
  subst hq
  have := k p e R s m args below meth c H locs cells slots lsA QQ C hP hS hl hr
  simp only [List.map_cons, tv, jxor, Int32.ofInt_toInt] at this
  exact lv_ixor hx hb hd this
theorem r_ishl {a b : Int} (hd : decode (mC y) pc = .ok (.ishl, 1)) (hq : pc + 1 = q) (k : Gg E d y q ls (.inl (jshl a b) :: st) μ Q) : Gg E d y pc ls (.inl b :: .inl a :: st) μ Q := by
  intro p e R s m args below meth c H locs cells slots lsA QQ C hP hS hl hr
  obtain ⟨hE, hx, hb, hml, hown, hts, hR, hc, hSt⟩ := id C
  subst hq
  have := k p e R s m args below meth c H locs cells slots lsA QQ C hP hS hl hr
  simp only [List.map_cons, tv, jshl, Int32.ofInt_toInt] at this
  exact lv_ishl hx hb hd this
theorem r_ishr {a b : Int} (hd : decode (mC y) pc = .ok (.ishr, 1)) (hq : pc + 1 = q) (k : Gg E d y q ls (.inl (jshr a b) :: st) μ Q) : Gg E d y pc ls (.inl b :: .inl a :: st) μ Q := by
  intro p e R s m args below meth c H locs cells slots lsA QQ C hP hS hl hr
  obtain ⟨hE, hx, hb, hml, hown, hts, hR, hc, hSt⟩ := id C
  subst hq
  have := k p e R s m args below meth c H locs cells slots lsA QQ C hP hS hl hr
  simp only [List.map_cons, tv, jshr, Int32.ofInt_toInt] at this
  exact lv_ishr hx hb hd this
theorem r_i2b {a : Int} (hd : decode (mC y) pc = .ok (.i2b, 1)) (hq : pc + 1 = q) (k : Gg E d y q ls (.inl (jbyte a) :: st) μ Q) : Gg E d y pc ls (.inl a :: st) μ Q := by
  intro p e R s m args below meth c H locs cells slots lsA QQ C hP hS hl hr
  obtain ⟨hE, hx, hb, hml, hown, hts, hR, hc, hSt⟩ := id C
  subst hq
  have := k p e R s m args below meth c H locs cells slots lsA QQ C hP hS hl hr
  simp only [List.map_cons, tv, jbyte, Int32.ofInt_toInt] at this
  exact lv_i2b hx hb hd rfl this
theorem r_i2s {a : Int} (hd : decode (mC y) pc = .ok (.i2s, 1)) (hq : pc + 1 = q) (k : Gg E d y q ls (.inl (jshort a) :: st) μ Q) : Gg E d y pc ls (.inl a :: st) μ Q := by
  intro p e R s m args below meth c H locs cells slots lsA QQ C hP hS hl hr
  obtain ⟨hE, hx, hb, hml, hown, hts, hR, hc, hSt⟩ := id C
  subst hq
  have := k p e R s m args below meth c H locs cells slots lsA QQ C hP hS hl hr
  simp only [List.map_cons, tv, jshort, Int32.ofInt_toInt] at this
  exact lv_i2s hx hb hd rfl this
theorem r_idiv {a b : Int} (hd : decode (mC y) pc = .ok (.idiv, 1)) (hq : pc + 1 = q) (hn : inR b ∧ b ≠ 0) (k : Gg E d y q ls (.inl (jdiv a b) :: st) μ Q) : Gg E d y pc ls (.inl b :: .inl a :: st) μ Q := by
  intro p e R s m args below meth c H locs cells slots lsA QQ C hP hS hl hr
  obtain ⟨hE, hx, hb, hml, hown, hts, hR, hc, hSt⟩ := id C
  subst hq
  have := k p e R s m args below meth c H locs cells slots lsA QQ C hP hS hl hr
  simp only [List.map_cons, tv, jdiv, Int32.ofInt_toInt] at this
  exact lv_idiv hx hb hd (fun h => hn.2 ((inR_eq hn.1 inR0).mp h)) this
theorem r_irem {a b : Int} (hd : decode (mC y) pc = .ok (.irem, 1)) (hq : pc + 1 = q) (hn : inR b ∧ b ≠ 0) (k : Gg E d y q ls (.inl (jrem a b) :: st) μ Q) : Gg E d y pc ls (.inl b :: .inl a :: st) μ Q := by
  intro p e R s m args below meth c H locs cells slots lsA QQ C hP hS hl hr
  obtain ⟨hE, hx, hb, hml, hown, hts, hR, hc, hSt⟩ := id C
  subst hq
  have := k p e R s m args below meth c H locs cells slots lsA QQ C hP hS hl hr
  simp only [List.map_cons, tv, jrem, Int32.ofInt_toInt] at this
  exact lv_irem hx hb hd (fun h => hn.2 ((inR_eq hn.1 inR0).mp h)) this
theorem r_dup {v : Vl} (hd : decode (mC y) pc = .ok (.dup, 1)) (hq : pc + 1 = q) (k : Gg E d y q ls (v :: v :: st) μ Q) : Gg E d y pc ls (v :: st) μ Q := by
  intro p e R s m args below meth c H locs cells slots lsA QQ C hP hS hl hr
  obtain ⟨hE, hx, hb, hml, hown, hts, hR, hc, hSt⟩ := id C
  subst hq
  exact lv_dup hx hb hd (tv_cat E v) (k p e R s m args below meth c H locs cells slots lsA QQ C hP hS hl hr)
theorem r_pop {v : Vl} (hd : decode (mC y) pc = .ok (.pop, 1)) (hq : pc + 1 = q) (k : Gg E d y q ls st μ Q) : Gg E d y pc ls (v :: st) μ Q := by
  intro p e R s m args below meth c H locs cells slots lsA QQ C hP hS hl hr
  obtain ⟨hE, hx, hb, hml, hown, hts, hR, hc, hSt⟩ := id C
  subst hq
  exact lv_pop hx hb hd (tv_cat E v) (k p e R s m args below meth c H locs cells slots lsA QQ C hP hS hl hr)
theorem r_dup2 {v w : Vl} (hd : decode (mC y) pc = .ok (.dup2, 1)) (hq : pc + 1 = q) (k : Gg E d y q ls (v :: w :: v :: w :: st) μ Q) : Gg E d y pc ls (v :: w :: st) μ Q := by
  intro p e R s m args below meth c H locs cells slots lsA QQ C hP hS hl hr
  obtain ⟨hE, hx, hb, hml, hown, hts, hR, hc, hSt⟩ := id C
  subst hq
  exact lv_dup2_11 hx hb hd (tv_cat E v) (tv_cat E w) (k p e R s m args below meth c H locs cells slots lsA QQ C hP hS hl hr)
theorem r_goto {off : Int} (hd : decode (mC y) pc = .ok (.goto off, 3)) (hq : (pc : Int) + off = (q : Int)) (k : Gg E d y q ls st μ Q) : Gg E d y pc ls st μ Q := by
  intro p e R s m args below meth c H locs cells slots lsA QQ C hP hS hl hr
  obtain ⟨hE, hx, hb, hml, hown, hts, hR, hc, hSt⟩ := id C
  exact lv_goto hx hb hd hq (k p e R s m args below meth c H locs cells slots lsA QQ C hP hS hl hr)
variable {t : Nat} {off : Int}
theorem r_ifeq {x : Int} (hd : decode (mC y) pc = .ok (.ifCond .eq off, 3)) (hq : pc + 3 = q) (ht : (pc : Int) + off = (t : Int)) (h : inR x ∧ (x = 0 → Gg E d y t ls st μ Q) ∧ (¬ x = 0 → Gg E d y q ls st μ Q)) : Gg E d y pc ls (.inl x :: st) μ Q := by
  intro p e R s m args below meth c H locs cells slots lsA QQ C hP hS hl hr
  obtain ⟨hE, hx, hb, hml, hown, hts, hR, hc, hSt⟩ := id C
  subst hq
  obtain ⟨hi, kt, kf⟩ := h
  have hc := inR_eq0 hi
  refine lv_if_eq hx hb hd ht (fun h => kt (hc.mp h) p e R s m args below meth c H locs cells slots lsA QQ C hP hS hl hr) (fun h => kf (fun z => h (hc.mpr z)) p e R s m args below meth c H locs cells slots lsA QQ C hP hS hl hr)
theorem r_ifne {x : Int} (hd : decode (mC y) pc = .ok (.ifCond .ne off, 3)) (hq : pc + 3 = q) (ht : (pc : Int) + off = (t : Int)) (h : inR x ∧ (x ≠ 0 → Gg E d y t ls st μ Q) ∧ (x = 0 → Gg E d y q ls st μ Q)) : Gg E d y pc ls (.inl x :: st) μ Q := by
  intro p e R s m args below meth c H locs cells slots lsA QQ C hP hS hl hr
  obtain ⟨hE, hx, hb, hml, hown, hts, hR, hc, hSt⟩ := id C
  subst hq
  obtain ⟨hi, kt, kf⟩ := h
  have hc := inR_ne0 hi
  refine lv_if_ne hx hb hd ht (fun h => kt (hc.mp h) p e R s m args below meth c H locs cells slots lsA QQ C hP hS hl hr) (fun h => kf ((inR_eq hi inR0).mp h) p e R s m args below meth c H locs cells slots lsA QQ C hP hS hl hr)
theorem r_iflt {x : Int} (hd : decode (mC y) pc = .ok (.ifCond .lt off, 3)) (hq : pc + 3 = q) (ht : (pc : Int) + off = (t : Int)) (h : inR x ∧ (x < 0 → Gg E d y t ls st μ Q) ∧ (¬ x < 0 → Gg E d y q ls st μ Q)) : Gg E d y pc ls (.inl x :: st) μ Q := by
  intro p e R s m args below meth c H locs cells slots lsA QQ C hP hS hl hr
  obtain ⟨hE, hx, hb, hml, hown, hts, hR, hc, hSt⟩ := id C
  subst hq
  obtain ⟨hi, kt, kf⟩ := h
  have hc := inR_lt0 hi
  refine lv_if_lt hx hb hd ht (fun h => kt (hc.mp h) p e R s m args below meth c H locs cells slots lsA QQ C hP hS hl hr) (fun h => kf (fun z => h (hc.mpr z)) p e R s m args below meth c H locs cells slots lsA QQ C hP hS hl hr)
theorem r_ifge {x : Int} (hd : decode (mC y) pc = .ok (.ifCond .ge off, 3)) (hq : pc + 3 = q) (ht : (pc : Int) + off = (t : Int)) (h : inR x ∧ (x ≥ 0 → Gg E d y t ls st μ Q) ∧ (¬ x ≥ 0 → Gg E d y q ls st μ Q)) : Gg E d y pc ls (.inl x :: st) μ Q := by
  intro p e R s m args below meth c H locs cells slots lsA QQ C hP hS hl hr
  obtain ⟨hE, hx, hb, hml, hown, hts, hR, hc, hSt⟩ := id C
  subst hq
  obtain ⟨hi, kt, kf⟩ := h
  have hc := inR_ge0 hi
  refine lv_if_ge hx hb hd ht (fun h => kt (hc.mp h) p e R s m args below meth c H locs cells slots lsA QQ C hP hS hl hr) (fun h => kf (fun z => h (hc.mpr z)) p e R s m args below meth c H locs cells slots lsA QQ C hP hS hl hr)
theorem r_ifgt {x : Int} (hd : decode (mC y) pc = .ok (.ifCond .gt off, 3)) (hq : pc + 3 = q) (ht : (pc : Int) + off = (t : Int)) (h : inR x ∧ (x > 0 → Gg E d y t ls st μ Q) ∧ (¬ x > 0 → Gg E d y q ls st μ Q)) : Gg E d y pc ls (.inl x :: st) μ Q := by
  intro p e R s m args below meth c H locs cells slots lsA QQ C hP hS hl hr
  obtain ⟨hE, hx, hb, hml, hown, hts, hR, hc, hSt⟩ := id C
  subst hq
  obtain ⟨hi, kt, kf⟩ := h
  have hc := inR_gt0 hi
  refine lv_if_gt hx hb hd ht (fun h => kt (hc.mp h) p e R s m args below meth c H locs cells slots lsA QQ C hP hS hl hr) (fun h => kf (fun z => h (hc.mpr z)) p e R s m args below meth c H locs cells slots lsA QQ C hP hS hl hr)
theorem r_ifle {x : Int} (hd : decode (mC y) pc = .ok (.ifCond .le off, 3)) (hq : pc + 3 = q) (ht : (pc : Int) + off = (t : Int)) (h : inR x ∧ (x ≤ 0 → Gg E d y t ls st μ Q) ∧ (¬ x ≤ 0 → Gg E d y q ls st μ Q)) : Gg E d y pc ls (.inl x :: st) μ Q := by
  intro p e R s m args below meth c H locs cells slots lsA QQ C hP hS hl hr
  obtain ⟨hE, hx, hb, hml, hown, hts, hR, hc, hSt⟩ := id C
  subst hq
  obtain ⟨hi, kt, kf⟩ := h
  have hc := inR_le0 hi
  refine lv_if_le hx hb hd ht (fun h => kt (hc.mp h) p e R s m args below meth c H locs cells slots lsA QQ C hP hS hl hr) (fun h => kf (fun z => h (hc.mpr z)) p e R s m args below meth c H locs cells slots lsA QQ C hP hS hl hr)
theorem r_iceq {a b : Int} (hd : decode (mC y) pc = .ok (.if_icmp .eq off, 3)) (hq : pc + 3 = q) (ht : (pc : Int) + off = (t : Int)) (h : (inR a ∧ inR b) ∧ (a = b → Gg E d y t ls st μ Q) ∧ (¬ a = b → Gg E d y q ls st μ Q)) : Gg E d y pc ls (.inl b :: .inl a :: st) μ Q := by
  intro p e R s m args below meth c H locs cells slots lsA QQ C hP hS hl hr
  obtain ⟨hE, hx, hb, hml, hown, hts, hR, hc, hSt⟩ := id C
  subst hq
  obtain ⟨⟨hi, hj⟩, kt, kf⟩ := h
  have hc := inR_eq2 hi hj
  refine lv_icmp_eq hx hb hd ht (fun h => kt (hc.mp h) p e R s m args below meth c H locs cells slots lsA QQ C hP hS hl hr) (fun h => kf (fun z => h (hc.mpr z)) p e R s m args below meth c H locs cells slots lsA QQ C hP hS hl hr)
theorem r_icne {a b : Int} (hd : decode (mC y) pc = .ok (.if_icmp .ne off, 3)) (hq : pc + 3 = q) (ht : (pc : Int) + off = (t : Int)) (h : (inR a ∧ inR b) ∧ (a ≠ b → Gg E d y t ls st μ Q) ∧ (a = b → Gg E d y q ls st μ Q)) : Gg E d y pc ls (.inl b :: .inl a :: st) μ Q := by
  intro p e R s m args below meth c H locs cells slots lsA QQ C hP hS hl hr
  obtain ⟨hE, hx, hb, hml, hown, hts, hR, hc, hSt⟩ := id C
  subst hq
  obtain ⟨⟨hi, hj⟩, kt, kf⟩ := h
  have hc := inR_ne2 hi hj
  refine lv_icmp_ne hx hb hd ht (fun h => kt (hc.mp h) p e R s m args below meth c H locs cells slots lsA QQ C hP hS hl hr) (fun h => kf ((inR_eq hi hj).mp h) p e R s m args below meth c H locs cells slots lsA QQ C hP hS hl hr)
theorem r_iclt {a b : Int} (hd : decode (mC y) pc = .ok (.if_icmp .lt off, 3)) (hq : pc + 3 = q) (ht : (pc : Int) + off = (t : Int)) (h : (inR a ∧ inR b) ∧ (a < b → Gg E d y t ls st μ Q) ∧ (¬ a < b → Gg E d y q ls st μ Q)) : Gg E d y pc ls (.inl b :: .inl a :: st) μ Q := by
  intro p e R s m args below meth c H locs cells slots lsA QQ C hP hS hl hr
  obtain ⟨hE, hx, hb, hml, hown, hts, hR, hc, hSt⟩ := id C
  subst hq
  obtain ⟨⟨hi, hj⟩, kt, kf⟩ := h
  have hc := inR_lt2 hi hj
  refine lv_icmp_lt hx hb hd ht (fun h => kt (hc.mp h) p e R s m args below meth c H locs cells slots lsA QQ C hP hS hl hr) (fun h => kf (fun z => h (hc.mpr z)) p e R s m args below meth c H locs cells slots lsA QQ C hP hS hl hr)
theorem r_icge {a b : Int} (hd : decode (mC y) pc = .ok (.if_icmp .ge off, 3)) (hq : pc + 3 = q) (ht : (pc : Int) + off = (t : Int)) (h : (inR a ∧ inR b) ∧ (a ≥ b → Gg E d y t ls st μ Q) ∧ (¬ a ≥ b → Gg E d y q ls st μ Q)) : Gg E d y pc ls (.inl b :: .inl a :: st) μ Q := by
  intro p e R s m args below meth c H locs cells slots lsA QQ C hP hS hl hr
  obtain ⟨hE, hx, hb, hml, hown, hts, hR, hc, hSt⟩ := id C
  subst hq
  obtain ⟨⟨hi, hj⟩, kt, kf⟩ := h
  have hc := inR_ge2 hi hj
  refine lv_icmp_ge hx hb hd ht (fun h => kt (hc.mp h) p e R s m args below meth c H locs cells slots lsA QQ C hP hS hl hr) (fun h => kf (fun z => h (hc.mpr z)) p e R s m args below meth c H locs cells slots lsA QQ C hP hS hl hr)
theorem r_icgt {a b : Int} (hd : decode (mC y) pc = .ok (.if_icmp .gt off, 3)) (hq : pc + 3 = q) (ht : (pc : Int) + off = (t : Int)) (h : (inR a ∧ inR b) ∧ (a > b → Gg E d y t ls st μ Q) ∧ (¬ a > b → Gg E d y q ls st μ Q)) : Gg E d y pc ls (.inl b :: .inl a :: st) μ Q := by
  intro p e R s m args below meth c H locs cells slots lsA QQ C hP hS hl hr
  obtain ⟨hE, hx, hb, hml, hown, hts, hR, hc, hSt⟩ := id C
  subst hq
  obtain ⟨⟨hi, hj⟩, kt, kf⟩ := h
  have hc := inR_gt2 hi hj
  refine lv_icmp_gt hx hb hd ht (fun h => kt (hc.mp h) p e R s m args below meth c H locs cells slots lsA QQ C hP hS hl hr) (fun h => kf (fun z => h (hc.mpr z)) p e R s m args below meth c H locs cells slots lsA QQ C hP hS hl hr)
theorem r_icle {a b : Int} (hd : decode (mC y) pc = .ok (.if_icmp .le off, 3)) (hq : pc + 3 = q) (ht : (pc : Int) + off = (t : Int)) (h : (inR a ∧ inR b) ∧ (a ≤ b → Gg E d y t ls st μ Q) ∧ (¬ a ≤ b → Gg E d y q ls st μ Q)) : Gg E d y pc ls (.inl b :: .inl a :: st) μ Q := by
  intro p e R s m args below meth c H locs cells slots lsA QQ C hP hS hl hr
  obtain ⟨hE, hx, hb, hml, hown, hts, hR, hc, hSt⟩ := id C
  subst hq
  obtain ⟨⟨hi, hj⟩, kt, kf⟩ := h
  have hc := inR_le2 hi hj
  refine lv_icmp_le hx hb hd ht (fun h => kt (hc.mp h) p e R s m args below meth c H locs cells slots lsA QQ C hP hS hl hr) (fun h => kf (fun z => h (hc.mpr z)) p e R s m args below meth c H locs cells slots lsA QQ C hP hS hl hr)
end Rules
end
section
/-! Fields, arrays, tables, switches, calls, ends. -/
/-- entry idx of the class own is field j of class number ci -/
def Fk (own : String) (idx ci j : Nat) : Prop := ∃ (C : String) (T : u_T) (N : Nat), vwCl[ci]? = some (C, T, N) ∧ j < N ∧ (∀ w ∈ u_ws C T N, w ∈ TB) ∧ Cond.fieldLink own idx (T j).1 (T j).2.1 (T j).2.2.1 ∈ TB
def Fp (own : String) (idx ci j : Nat) (ty : FieldType) : Prop := ∃ (C : String) (T : u_T) (N : Nat) (ty0 : Nat → FieldType), vwCl[ci]? = some (C, T, N) ∧ j < N ∧ (∀ w ∈ u_ws C T N, w ∈ TB) ∧ Cond.fieldLink own idx (T j).1 (T j).2.1 (T j).2.2.1 ∈ TB ∧ (∀ k, k < N → parseFieldDescriptor (T k).2.2.1 = some (ty0 k)) ∧ (∀ a, a < N → ∀ b, b < N → a ≠ b → (T a).2.1 ≠ (T b).2.1) ∧ (T j).2.2.2 = false ∧ parseFieldDescriptor (T j).2.2.1 = some ty
theorem ent_obj {E : Ex} {μ : Mem} {k ci n : Nat} {rs : List Nat} (h : shp k = (ci + 4, n, rs)) : ent E μ k = .inr (ci, fl E μ k 0 rs) := by
  unfold ent; rw [h]
theorem ent_int {E : Ex} {μ : Mem} {k n : Nat} {rs : List Nat} (h : shp k = (0, n, rs)) : ent E μ k = .inl (eK E 0, n, .inl (fun j => Int32.ofInt (μ k (j : Nat)))) := by
  unfold ent; rw [h]
theorem ent_bool {E : Ex} {μ : Mem} {k n : Nat} {rs : List Nat} (h : shp k = (1, n, rs)) : ent E μ k = .inl (eK E 1, n, .inl (fun j => Int32.ofInt (μ k (j : Nat)))) := by
  unfold ent; rw [h]
theorem ent_row {E : Ex} {μ : Mem} {k n : Nat} {rs : List Nat} (h : shp k = (2, n, rs)) : ent E μ k = .inl (eK E 2, n, .inr (.inr (.inr (.inr (fun j => (rs[j]?).map (eA E)))))) := by
  unfold ent; rw [h]
theorem ent_court {E : Ex} {μ : Mem} {k n : Nat} {rs : List Nat} (h : shp k = (3, n, rs)) : ent E μ k = .inl (eK E 3, n, .inr (.inr (.inr (.inr (fun j => (rs[j]?).map (eA E)))))) := by
  unfold ent; rw [h]
theorem ofI_nat {i : Int} (h : 0 ≤ i) : ((i.toNat : Nat) : Int) = i := Int.toNat_of_nonneg h
section Rules2
variable {E : Ex} {d : Nat} {y : Mth} {pc q : Nat} {ls : List (Option Vl)} {st : List Vl} {μ : Mem} {Q : Option Vl → Mem → Prop}
theorem r_getI {idx k ci j n : Nat} {rs : List Nat} (hd : decode (mC y) pc = .ok (.getfield idx, 3)) (hq : pc + 3 = q) (hf : Fk (mO y) idx ci j) (hs : shp k = (ci + 4, n, rs)) (hj : rs[j]? = some 0) (kk : Gg E d y q ls (.inl (μ k j) :: st) μ Q) : Gg E d y pc ls (.inr k :: st) μ Q := by
  intro p e R s m args below meth c H locs cells slots lsA QQ C hP hS hl hr
  obtain ⟨hE, hx, hb, hml, hown, hts, hR, hc, hSt⟩ := id C
  subst hq
  have hk := shp_lt hs (Or.inl (by omega))
  obtain ⟨CC, T, N, hcl, hjN, hin, hlk⟩ := hf
  have := kk p e R s m args below meth c H locs cells slots lsA QQ C hP hS hl hr
  refine va_get (ci := ci) (v := .int (Int32.ofInt (μ k j))) hx hb hts hin hown hSt.1 hP k ((wl_at hk).trans (by rw [ent_obj hs])) hcl j hjN (hts _ hlk) (fun _ h => h) ?_ hd this
  rw [fl_at rs 0 j 0 hj, if_pos rfl, Nat.zero_add]
theorem r_getR {idx k ci j n r : Nat} {rs : List Nat} (hd : decode (mC y) pc = .ok (.getfield idx, 3)) (hq : pc + 3 = q) (hf : Fk (mO y) idx ci j) (hs : shp k = (ci + 4, n, rs)) (hj : rs[j]? = some (r + 1)) (kk : Gg E d y q ls (.inr r :: st) μ Q) : Gg E d y pc ls (.inr k :: st) μ Q := by
  intro p e R s m args below meth c H locs cells slots lsA QQ C hP hS hl hr
  obtain ⟨hE, hx, hb, hml, hown, hts, hR, hc, hSt⟩ := id C
  subst hq
  have hk := shp_lt hs (Or.inl (by omega))
  obtain ⟨CC, T, N, hcl, hjN, hin, hlk⟩ := hf
  have := kk p e R s m args below meth c H locs cells slots lsA QQ C hP hS hl hr
  refine va_get (ci := ci) (v := .ref (eA E r)) hx hb hts hin hown hSt.1 hP k ((wl_at hk).trans (by rw [ent_obj hs])) hcl j hjN (hts _ hlk) (fun _ h => h) ?_ hd this
  rw [fl_at rs 0 j (r + 1) hj, if_neg (by omega), Nat.add_sub_cancel]
theorem nar_ok {ty : FieldType} {x : Int} (h : ty = .int ∨ (ty = .boolean ∧ (x = 0 ∨ x = 1))) : narrow ty (.int (Int32.ofInt x)) = .int (Int32.ofInt x) ∧ fits ty (.int (Int32.ofInt x)) = true := by
  rcases h with rfl | ⟨rfl, rfl | rfl⟩
  · exact ⟨vp_nar_int _, rfl⟩
  · exact ⟨by decide +kernel, by decide +kernel⟩
  · exact ⟨by decide +kernel, by decide +kernel⟩
theorem r_put {idx k ci j n : Nat} {rs : List Nat} {ty : FieldType} {x : Int} (hd : decode (mC y) pc = .ok (.putfield idx, 3)) (hq : pc + 3 = q) (hf : Fp (mO y) idx ci j ty) (hs : shp k = (ci + 4, n, rs)) (hj : rs[j]? = some 0) (hv : ty = .int ∨ (ty = .boolean ∧ (x = 0 ∨ x = 1))) (kk : Gg E d y q ls st (up μ k j x) Q) : Gg E d y pc ls (.inl x :: .inr k :: st) μ Q := by
  intro p e R s m args below meth c H locs cells slots lsA QQ C hP hS hl hr
  obtain ⟨hE, hx, hb, hml, hown, hts, hR, hc, hSt⟩ := id C
  subst hq
  have hk := shp_lt hs (Or.inl (by omega))
  obtain ⟨CC, T, N, ty0, hcl, hjN, hin, hlk, hty, hnm, hfin, hpt⟩ := hf
  obtain ⟨hn1, hn2⟩ := nar_ok hv
  refine va_put (ci := ci) (v := .int (Int32.ofInt x)) hx hb hts hin ty0 hty hnm hown hSt.1 hP (wl_D hE) hS k ((wl_at hk).trans (by rw [ent_obj hs])) hcl j hjN (hts _ hlk) (fun _ h => h) hfin hpt hn1 hn2 (by rw [fl_len]; exact (List.getElem?_eq_some_iff.mp hj).1) hd (fun H1 locs1 hP1 hD1 hS1 => ?_)
  refine kk p e R s m args below meth c H1 locs1 cells slots lsA QQ C ?_ hS1 hl hr
  rw [wl_set (i := (j : Int)) (v := x) hk (by rw [ent_obj hs, fl_set rs 0 j hj, Nat.zero_add])] at hP1
  exact hP1
theorem r_iald {k n : Nat} {rs : List Nat} {i : Int} (hd : decode (mC y) pc = .ok (.iaload, 1)) (hq : pc + 1 = q) (hs : shp k = (0, n, rs)) (hn : n < 2147483648) (h : (0 ≤ i ∧ i < n) ∧ Gg E d y q ls (.inl (μ k i) :: st) μ Q) : Gg E d y pc ls (.inl i :: .inr k :: st) μ Q := by
  intro p e R s m args below meth c H locs cells slots lsA QQ C hP hS hl hr
  obtain ⟨hE, hx, hb, hml, hown, hts, hR, hc, hSt⟩ := id C
  subst hq
  obtain ⟨⟨h1, h2⟩, kk⟩ := h
  have hk := shp_lt hs (Or.inr (by omega))
  have := kk p e R s m args below meth c H locs cells slots lsA QQ C hP hS hl hr
  refine va_iald (cA := eK E 0) (n := n) (f := fun j => Int32.ofInt (μ k (j : Nat))) hx hb hSt.1 hP k 0 ((wl_at hk).trans (by rw [ent_int hs])) rfl (inR_vp hn h1 h2) hd ?_
  show W p (eLn E) e R s m args below meth c H locs cells slots QQ (F0 m (pc + 1) lsA (.int (Int32.ofInt (μ k (((Int32.ofInt i).toNatClampNeg : Nat) : Int))) :: st.map (tv E)))
  rw [inR_clamp (by unfold inR; omega), ofI_nat h1]
  exact this
theorem r_zald {k n : Nat} {rs : List Nat} {i : Int} (hd : decode (mC y) pc = .ok (.baload, 1)) (hq : pc + 1 = q) (hs : shp k = (1, n, rs)) (hn : n < 2147483648) (h : (0 ≤ i ∧ i < n) ∧ Gg E d y q ls (.inl (μ k i) :: st) μ Q) : Gg E d y pc ls (.inl i :: .inr k :: st) μ Q := by
  intro p e R s m args below meth c H locs cells slots lsA QQ C hP hS hl hr
  obtain ⟨hE, hx, hb, hml, hown, hts, hR, hc, hSt⟩ := id C
  subst hq
  obtain ⟨⟨h1, h2⟩, kk⟩ := h
  have hk := shp_lt hs (Or.inr (by omega))
  have := kk p e R s m args below meth c H locs cells slots lsA QQ C hP hS hl hr
  refine va_zald (cA := eK E 1) (n := n) (f := fun j => Int32.ofInt (μ k (j : Nat))) hx hb hSt.1 hP k 1 ((wl_at hk).trans (by rw [ent_bool hs])) rfl (inR_vp hn h1 h2) hd ?_
  show W p (eLn E) e R s m args below meth c H locs cells slots QQ (F0 m (pc + 1) lsA (.int (Int32.ofInt (μ k (((Int32.ofInt i).toNatClampNeg : Nat) : Int))) :: st.map (tv E)))
  rw [inR_clamp (by unfold inR; omega), ofI_nat h1]
  exact this
theorem upd_up {μ : Mem} {k : Nat} {i x : Int} (h1 : 0 ≤ i) (h2 : i < 2147483648) : upd (fun j => Int32.ofInt (μ k (j : Nat))) (Int32.ofInt i).toNatClampNeg (Int32.ofInt x) = fun j => Int32.ofInt (up μ k i x k (j : Nat)) := by
  rw [inR_clamp (by unfold inR; omega)]
  funext j
  unfold upd up
  by_cases hj : j = i.toNat
  · subst hj
    rw [if_pos rfl, ofI_nat h1, if_pos ⟨rfl, rfl⟩]
  · rw [if_neg hj, if_neg]
    rintro ⟨-, h⟩
    omega
theorem r_iast {k n : Nat} {rs : List Nat} {i x : Int} (hd : decode (mC y) pc = .ok (.iastore, 1)) (hq : pc + 1 = q) (hs : shp k = (0, n, rs)) (hn : n < 2147483648) (h : (0 ≤ i ∧ i < n) ∧ Gg E d y q ls st (up μ k i x) Q) : Gg E d y pc ls (.inl x :: .inl i :: .inr k :: st) μ Q := by
  intro p e R s m args below meth c H locs cells slots lsA QQ C hP hS hl hr
  obtain ⟨hE, hx, hb, hml, hown, hts, hR, hc, hSt⟩ := id C
  subst hq
  obtain ⟨⟨h1, h2⟩, kk⟩ := h
  have hk := shp_lt hs (Or.inr (by omega))
  refine va_iast (cA := eK E 0) (n := n) (f := fun j => Int32.ofInt (μ k (j : Nat))) hx hb hSt.1 hP (wl_D hE) hS k 0 ((wl_at hk).trans (by rw [ent_int hs])) rfl (inR_vp hn h1 h2) hd (fun H1 locs1 hP1 hD1 hS1 => ?_)
  refine kk p e R s m args below meth c H1 locs1 cells slots lsA QQ C ?_ hS1 hl hr
  rw [wl_set (i := i) (v := x) hk (by rw [ent_int hs, upd_up h1 (by omega)])] at hP1
  exact hP1
theorem r_zast {k n : Nat} {rs : List Nat} {i x : Int} (hd : decode (mC y) pc = .ok (.bastore, 1)) (hq : pc + 1 = q) (hs : shp k = (1, n, rs)) (hn : n < 2147483648) (hv : x = 0 ∨ x = 1) (h : (0 ≤ i ∧ i < n) ∧ Gg E d y q ls st (up μ k i x) Q) : Gg E d y pc ls (.inl x :: .inl i :: .inr k :: st) μ Q := by
  intro p e R s m args below meth c H locs cells slots lsA QQ C hP hS hl hr
  obtain ⟨hE, hx, hb, hml, hown, hts, hR, hc, hSt⟩ := id C
  subst hq
  obtain ⟨⟨h1, h2⟩, kk⟩ := h
  have hk := shp_lt hs (Or.inr (by omega))
  have hnv : vp_nar .boolean (Int32.ofInt x) = Int32.ofInt x := by rcases hv with rfl | rfl <;> decide +kernel
  refine va_zast (cA := eK E 1) (n := n) (f := fun j => Int32.ofInt (μ k (j : Nat))) hx hb hSt.1 hP (wl_D hE) hS k 1 ((wl_at hk).trans (by rw [ent_bool hs])) rfl (inR_vp hn h1 h2) hd (fun H1 locs1 hP1 hD1 hS1 => ?_)
  refine kk p e R s m args below meth c H1 locs1 cells slots lsA QQ C ?_ hS1 hl hr
  rw [hnv, wl_set (i := i) (v := x) hk (by rw [ent_bool hs, upd_up h1 (by omega)])] at hP1
  exact hP1
theorem r_aaldR {k n r : Nat} {rs : List Nat} {i : Int} (hd : decode (mC y) pc = .ok (.aaload, 1)) (hq : pc + 1 = q) (hs : shp k = (2, n, rs)) (hn : n < 2147483648) (h : ((0 ≤ i ∧ i < n) ∧ rs[i.toNat]? = some r) ∧ Gg E d y q ls (.inr r :: st) μ Q) : Gg E d y pc ls (.inl i :: .inr k :: st) μ Q := by
  intro p e R s m args below meth c H locs cells slots lsA QQ C hP hS hl hr
  obtain ⟨hE, hx, hb, hml, hown, hts, hR, hc, hSt⟩ := id C
  subst hq
  obtain ⟨⟨⟨h1, h2⟩, h3⟩, kk⟩ := h
  have hk := shp_lt hs (Or.inr (by omega))
  have := kk p e R s m args below meth c H locs cells slots lsA QQ C hP hS hl hr
  refine va_aldq (cA := eK E 2) (n := n) (f := fun j => (rs[j]?).map (eA E)) hx hb hSt.1 hP k 2 ((wl_at hk).trans (by rw [ent_row hs])) rfl (inR_vp hn h1 h2) hd ?_
  show W p (eLn E) e R s m args below meth c H locs cells slots QQ (F0 m (pc + 1) lsA (va_rf ((rs[(Int32.ofInt i).toNatClampNeg]?).map (eA E)) :: st.map (tv E)))
  rw [inR_clamp (by unfold inR; omega), h3]
  exact this
theorem r_aaldC {k n r : Nat} {rs : List Nat} {i : Int} (hd : decode (mC y) pc = .ok (.aaload, 1)) (hq : pc + 1 = q) (hs : shp k = (3, n, rs)) (hn : n < 2147483648) (h : ((0 ≤ i ∧ i < n) ∧ rs[i.toNat]? = some r) ∧ Gg E d y q ls (.inr r :: st) μ Q) : Gg E d y pc ls (.inl i :: .inr k :: st) μ Q := by
  intro p e R s m args below meth c H locs cells slots lsA QQ C hP hS hl hr
  obtain ⟨hE, hx, hb, hml, hown, hts, hR, hc, hSt⟩ := id C
  subst hq
  obtain ⟨⟨⟨h1, h2⟩, h3⟩, kk⟩ := h
  have hk := shp_lt hs (Or.inr (by omega))
  have := kk p e R s m args below meth c H locs cells slots lsA QQ C hP hS hl hr
  refine va_aldq (cA := eK E 3) (n := n) (f := fun j => (rs[j]?).map (eA E)) hx hb hSt.1 hP k 3 ((wl_at hk).trans (by rw [ent_court hs])) rfl (inR_vp hn h1 h2) hd ?_
  show W p (eLn E) e R s m args below meth c H locs cells slots QQ (F0 m (pc + 1) lsA (va_rf ((rs[(Int32.ofInt i).toNatClampNeg]?).map (eA E)) :: st.map (tv E)))
  rw [inR_clamp (by unfold inR; omega), h3]
  exact this
/-- the tables that nobody writes: cells 100 to 104 -/
theorem r_tald {t : Nat} {i : Int} (hd : decode (mC y) pc = .ok (.iaload, 1)) (hq : pc + 1 = q) (ht : t < 5) (h : (0 ≤ i ∧ i < roN E t) ∧ Gg E d y q ls (.inl (eR E t i.toNat) :: st) μ Q) : Gg E d y pc ls (.inl i :: .inr (100 + t) :: st) μ Q := by
  intro p e R s m args below meth c H locs cells slots lsA QQ C hP hS hl hr
  obtain ⟨hE, hx, hb, hml, hown, hts, hR, hc, hSt⟩ := id C
  subst hq
  obtain ⟨⟨h1, h2⟩, kk⟩ := h
  have := kk p e R s m args below meth c H locs cells slots lsA QQ C hP hS hl hr
  have hN : roN E t < 2 ^ 31 := by
    unfold roN
    split
    · exact hE.2.2
    · decide
  refine va_ti hx hb (hSt.2.1 t ht) hS (inR_vp hN h1 h2) (v := .int (Int32.ofInt (eR E t i.toNat))) ?_ hd this
  show Value.int (Int32.ofInt (eR E t (Int32.ofInt i).toNatClampNeg)) = _
  rw [inR_clamp (by unfold inR; omega)]
theorem r_alen (hd : decode (mC y) pc = .ok (.arraylength, 1)) (hq : pc + 1 = q) (kk : Gg E d y q ls (.inl (eS E) :: st) μ Q) : Gg E d y pc ls (.inr 104 :: st) μ Q := by
  intro p e R s m args below meth c H locs cells slots lsA QQ C hP hS hl hr
  obtain ⟨hE, hx, hb, hml, hown, hts, hR, hc, hSt⟩ := id C
  subst hq
  have := kk p e R s m args below meth c H locs cells slots lsA QQ C hP hS hl hr
  exact va_tlen hx hb (hSt.2.1 4 (by decide)) hS (v := Int32.ofInt ((eS E : Nat) : Int)) rfl hd this
theorem r_gets {idx t : Nat} (hd : decode (mC y) pc = .ok (.getstatic idx, 3)) (hq : pc + 3 = q) (ht : t < 4) (hlk : Cond.fieldLink (mO y) idx (sC t) (sN t) "[I" ∈ TB) (kk : Gg E d y q ls (.inr (100 + t) :: st) μ Q) : Gg E d y pc ls st μ Q := by
  intro p e R s m args below meth c H locs cells slots lsA QQ C hP hS hl hr
  obtain ⟨hE, hx, hb, hml, hown, hts, hR, hc, hSt⟩ := id C
  subst hq
  exact va_gets hx hb (hSt.2.2.1 t ht) hS hown (hts _ hlk) (fun _ h => h) hd (kk p e R s m args below meth c H locs cells slots lsA QQ C hP hS hl hr)
theorem r_getsN {idx t : Nat} {host : String} (hd : decode (mC y) pc = .ok (.getstatic idx, 3)) (hq : pc + 3 = q) (ht : t < 4) (hlk : Cond.fieldLinkNest (mO y) idx (sC t) (sN t) "[I" host ∈ lw_tbl) (kk : Gg E d y q ls (.inr (100 + t) :: st) μ Q) : Gg E d y pc ls st μ Q := by
  intro p e R s m args below meth c H locs cells slots lsA QQ C hP hS hl hr
  obtain ⟨hE, hx, hb, hml, hown, hts, hR, hc, hSt⟩ := id C
  subst hq
  exact va_getsN hx hb (hSt.2.2.1 t ht) hS hown (va_Nw.use rfl (hSt.2.2.2 _ _ _ _ _ _ hlk)) (fun _ h => h) hd (kk p e R s m args below meth c H locs cells slots lsA QQ C hP hS hl hr)
theorem r_tab {dflt lo hi : Int} {offs : Array Int} {len : Nat} {x : Int} (hd : decode (mC y) pc = .ok (.tableswitch dflt lo hi offs, len)) (hx0 : inR x) (h1 : lo ≤ x → x ≤ hi → ∃ (off : Int) (t : Nat), offs[(x - lo).toNat]? = some off ∧ (pc : Int) + off = (t : Int) ∧ Gg E d y t ls st μ Q) (h2 : (x < lo ∨ hi < x) → ∃ t : Nat, (pc : Int) + dflt = (t : Int) ∧ Gg E d y t ls st μ Q) : Gg E d y pc ls (.inl x :: st) μ Q := by
  intro p e R s m args below meth c H locs cells slots lsA QQ C hP hS hl hr
  obtain ⟨hE, hx, hb, hml, hown, hts, hR, hc, hSt⟩ := id C
  by_cases hc : x < lo ∨ hi < x
  · obtain ⟨t, a, k⟩ := h2 hc
    exact lv_tableOut hx hb hd (by rw [inR_toInt hx0]; exact hc) a (k p e R s m args below meth c H locs cells slots lsA QQ C hP hS hl hr)
  · obtain ⟨off, t, a, b, k⟩ := h1 (by omega) (by omega)
    exact lv_tableIn hx hb hd (by rw [inR_toInt hx0]; omega) (by rw [inR_toInt hx0]; omega) (by rw [inR_toInt hx0]; exact a) b (k p e R s m args below meth c H locs cells slots lsA QQ C hP hS hl hr)
theorem r_lsw {dflt : Int} {ps : Array (Int × Int)} {len : Nat} {x off : Int} (hd : decode (mC y) pc = .ok (.lookupswitch dflt ps, len)) (hx0 : inR x) (hp : (ps.toList.zip (ps.toList.drop 1)).all (fun (a, next) => a.1 < next.1) = true) (ho : Op.lookupswitch.offset ps.toList dflt x = off) (hq : (pc : Int) + off = (q : Int)) (k : Gg E d y q ls st μ Q) : Gg E d y pc ls (.inl x :: st) μ Q := by
  intro p e R s m args below meth c H locs cells slots lsA QQ C hP hS hl hr
  obtain ⟨hE, hx, hb, hml, hown, hts, hR, hc, hSt⟩ := id C
  exact lv_lookup hx hb hd hp (by rw [inR_toInt hx0]; exact ho) hq (k p e R s m args below meth c H locs cells slots lsA QQ C hP hS hl hr)
theorem r_ret {v : Option Vl} (hv : retOk y pc v) (h : Q v μ) : Gg E d y pc ls v.toList μ Q := by
  intro p e R s m args below meth c H locs cells slots lsA QQ C hP hS hl hr
  exact hr v μ H locs pc lsA h hP hS hv
theorem r_min {idx : Nat} {a b : Int} (hd : decode (mC y) pc = .ok (.invokestatic idx, 3)) (hq : pc + 3 = q) (hlk : Cond.methodLink (mO y) idx Lib.Math.min.name ∈ TB) (hst : Cond.static Lib.Math.min.name ∈ TB) (hin : Cond.initialized "java/lang/Math" ∈ TB) (hco : Cond.code Lib.Math.min.name Lib.Math.min.code 2 (some .int) ∈ TB) (hn : 0 < d) (hsz : st.length ≤ 8) (h : (inR a ∧ inR b) ∧ Gg E d y q ls (.inl (if b < a then b else a) :: st) μ Q) : Gg E d y pc ls (.inl b :: .inl a :: st) μ Q := by
  intro p e R s m args below meth c H locs cells slots lsA QQ C hP hS hl hr
  obtain ⟨hE, hx, hb, hml, hown, hts, hR, hc, hSt⟩ := id C
  subst hq
  obtain ⟨⟨h1, h2⟩, k⟩ := h
  have := k p e R s m args below meth c H locs cells slots lsA QQ C hP hS hl hr
  refine va_mmin hx hb (by rw [hml]; exact hl.1.symm) hown (hts _ hlk) (hts _ hst) (hts _ hin) (hts _ hco) (by have := hR.1; omega) (by rw [tv_sum]; have := hR.2; omega) hc.1 hc.2 hd ?_
  have e1 : (if Int32.ofInt b < Int32.ofInt a then Int32.ofInt b else Int32.ofInt a) = Int32.ofInt (if b < a then b else a) := by
    by_cases hba : b < a
    · rw [if_pos hba, if_pos ((inR_lt h2 h1).mpr hba)]
    · rw [if_neg hba, if_neg (fun z => hba ((inR_lt h2 h1).mp z))]
  rw [e1]
  exact this
end Rules2
end
section
/-! Calls. -/
def cpm (μ : Mem) (ks : Nat) (sp : Int) (kd : Nat) (dp n : Int) : Mem := fun k i => if k = kd ∧ dp ≤ i ∧ i < dp + n then μ ks (sp + (i - dp)) else μ k i
theorem cpm_ne {μ : Mem} {ks kd k : Nat} {sp dp n : Int} (h : k ≠ kd) : cpm μ ks sp kd dp n k = μ k := by
  funext j
  simp [cpm, h]
theorem wl_put {E : Ex} {μ μ' : Mem} {k : Nat} {x : va_E} (hk : k < 100) (hx : x = ent E μ' k) (ho : ∀ j, j ≠ k → μ' j = μ j) : (wl E μ).set k (eA E k, x) = wl E μ' := by
  subst hx
  refine List.ext_getElem? fun j => ?_
  by_cases hj : j = k
  · subst hj
    rw [List.getElem?_set_self (by simpa [wl] using hk), wl_at hk]
  · rw [List.getElem?_set_ne (Ne.symm hj)]
    by_cases hl : j < 100
    · rw [wl_at hl, wl_at hl, ent_congr (ho j hj)]
    · rw [List.getElem?_eq_none (by simp [wl]; omega), List.getElem?_eq_none (by simp [wl]; omega)]
theorem cpy_cpm {μ : Mem} {ks kd : Nat} {sp dp n : Int} (h1 : 0 ≤ sp) (h2 : 0 ≤ dp) (h3 : 0 ≤ n) : va_cpy (fun j => Int32.ofInt (μ ks (j : Nat))) (fun j => Int32.ofInt (μ kd (j : Nat))) sp.toNat dp.toNat n.toNat = fun j => Int32.ofInt (cpm μ ks sp kd dp n kd (j : Nat)) := by
  funext j
  unfold va_cpy cpm
  by_cases h : dp.toNat ≤ j ∧ j < dp.toNat + n.toNat
  · rw [if_pos h, if_pos ⟨rfl, by omega, by omega⟩]
    have e : ((sp.toNat + (j - dp.toNat) : Nat) : Int) = sp + ((j : Int) - dp) := by omega
    show Int32.ofInt (μ ks ((sp.toNat + (j - dp.toNat) : Nat) : Int)) = _
    rw [e]
  · rw [if_neg h, if_neg]
    rintro ⟨-, a, b⟩
    exact h ⟨by omega, by omega⟩
theorem tb_mem {w : Cond} (h : w ∈ lw_tbl) (hg : goodWord w = true) : w ∈ TB := List.mem_filter.mpr ⟨h, hg⟩
theorem tb_gi {ws : List Cond} (h : ∀ w ∈ ws, w ∈ TB) : GoodIn TB ws := fun w hw => ⟨h w hw, good_of_word (List.mem_filter.mp (h w hw)).2⟩
def Pcn (E : Ex) (as : List Vl) (μ : Mem) : Array Value → State → Prop := va_Pc (as.map (tv E)) (fun U => va_P (eD E) vwCl (wl E μ) U.heap ∧ St E U U.heap)
def Qcn (E : Ex) (Q : Option Vl → Mem → Prop) : Array Value → State → Outcome → State → Prop := fun _ st oc t => (∃ (v : Option Vl) (μ' : Mem), oc = .returned (v.map (tv E)) ∧ Q v μ' ∧ va_P (eD E) vwCl (wl E μ') t.heap) ∧ va_F (fr E) st t
def rmD (d : Nat) : Room := { frames := d, cells := 0, slots := 0, locals := 40 * d + 24 }
theorem St.moved {E : Ex} {s U : State} {H : Heap} {locs : List Loc} (h : St E s s.heap) (hS : va_S (fr E) s.heap H locs) (hW : s.WarmedH U.vm) : St E U H := by
  refine ⟨va_K.moved hW.alike h.1, fun i hi => ((h.2.1 i hi).moved hW.alike).kept hS.2.1, fun i hi => ((h.2.2.1 i hi).moved hW.alike).kept hS.2.1, fun a i b n d h0 hm => va_Nw.warmF hW (h.2.2.2 a i b n d h0 hm)⟩
theorem St.same {E : Ex} {s U : State} {H : Heap} (h : St E s H) (hv : s.vm = U.vm) : St E U H := by
  have hvm : s.vm.Alike U.vm := by rw [← hv]; exact Vm.Alike.refl s.vm
  exact ⟨va_K.moved hvm h.1, fun i hi => (h.2.1 i hi).moved hvm, fun i hi => (h.2.2.1 i hi).moved hvm, fun a i b n d h0 hm => va_Nw.same rfl hv (h.2.2.2 a i b n d h0 hm)⟩
theorem met_of {E : Ex} {d : Nat} {y : Mth} {as : List Vl} {μ : Mem} {Q : Option Vl → Mem → Prop} (hE : Eok E) (hpl : plainName (mN y).cls = true) (hcl : (mN y).cls = mO y) (hlen : as.length ≤ mL y) (k : Cl E d y as μ Q) : Met (eLn E) (mN y) (mW y) (rmD d) (Pcn E as μ) (Qcn E Q) 0 0 (fr E) := by
  refine Met.ofW (cc := mC y) (maxL := mL y) (ret := mR y) hpl rfl ?_
  intro p e s m args below meth c s₁ B hml hv
  obtain ⟨rfl, hP, hSt⟩ := hv
  have hx := B.exec
  have hb := B.bytes
  have hr := B.returns
  have hts := atoms_spec (ws := mW y) B.pre
  have hown : s.vm.findClass (mN y).cls = some m.cls := findClass_of_methodNamed B.named
  rw [hcl] at hown
  have hlocks := B.notSynchronized
  rw [lg_entry_eq]
  refine k p e _ s m _ below meth c s.heap [] 0 0 _ _ ⟨hE, hx, hb, hml, hown, fun w h => hts w (List.mem_cons_of_mem _ h), ⟨Nat.le_refl d, Nat.le_refl _⟩, ⟨Nat.le_refl 0, Nat.le_refl 0⟩, hSt⟩ hP va_S.rf (LcS.entry E hlen) (fun v μ' H' locs' pc' ls' hq hP' hS' hv => ?_)
  match v, hv with
  | none, hv => exact W.vret hx hb (by rw [hr]; exact hv.2) (fun t ht hW => ⟨⟨none, μ', rfl, hq, by rw [ht]; exact hP'⟩, hS'.F ht⟩) hS'.2.2 hv.1
  | some (.inl x), hv =>
    rcases hv.2 with h1 | ⟨h1, h2⟩
    · exact W.iret (v := Int32.ofInt x) hx hb (by rw [hr]; exact h1) (fun t ht hW => ⟨⟨some (.inl x), μ', rfl, hq, by rw [ht]; exact hP'⟩, hS'.F ht⟩) hS'.2.2 hv.1
    · exact W.zret (v := Int32.ofInt x) hx hb (by rw [hr]; exact h1) (nar_ok (Or.inr ⟨rfl, h2⟩)).1 (fun t ht hW => ⟨⟨some (.inl x), μ', rfl, hq, by rw [ht]; exact hP'⟩, hS'.F ht⟩) hS'.2.2 hv.1
  | some (.inr a), hv =>
    obtain ⟨h0, C, h1⟩ := hv
    exact W.aret (v := .ref (eA E a)) hx hb (by rw [hr]; exact h1) (Or.inl ⟨C, rfl⟩) (Or.inr ⟨_, rfl⟩) (fun t ht hW => ⟨⟨some (.inr a), μ', rfl, hq, by rw [ht]; exact hP'⟩, hS'.F ht⟩) hS'.2.2 h0
theorem pcn_blind {E : Ex} {as : List Vl} {μ : Mem} : FrameBlind (Pcn E as μ) := by
  intro a U g mk h
  obtain ⟨h1, h2, h3⟩ := h
  exact ⟨h1, h2, St.same (U := U.calling g mk a) h3 rfl⟩
def Mb (y : Mth) (n : Nat) : Prop := Cond.initialized (mO y) ∈ TB ∧ Cond.code (mN y) (mC y) (mL y) (mR y) ∈ TB ∧ (mN y).cls = mO y ∧ ((mN y).cls ≠ "java/lang/invoke/MethodHandle" ∧ (mN y).cls ≠ "java/lang/invoke/VarHandle" ∧ (parseMethodDescriptor (mN y).desc).map (fun d => d.parameters.length) = some n) ∧ plainName (mN y).cls = true ∧ mL y ≤ 21
def Mv (y : Mth) (n : Nat) : Prop := Mb y n ∧ Cond.instanceMethod (mN y) ∈ TB ∧ Cond.selects (mO y) (mN y) (mN y) ∈ TB ∧ n + 1 ≤ mL y
def Ms (y : Mth) (n : Nat) : Prop := Mb y n ∧ Cond.static (mN y) ∈ TB ∧ n ≤ mL y
section Calls2
variable {E : Ex} {d : Nat} {y : Mth} {pc q : Nat} {ls : List (Option Vl)} {st stk : List Vl} {μ : Mem} {Q : Option Vl → Mem → Prop}
theorem r_goes {p : Program} {e : Env} {R : Room} {s : State} {m : MethodId} {args : Array Value} {below : List Frame} {meth : Method} {c : Code} {H : Heap} {locs : List Loc} {cells slots : Nat} {lsA : Array Slot} {QQ : State → Prop} {av : Array Value} {y' : Mth} {stv : List Value}
    (C : Cx E y d p R s m args c cells slots) (hS : va_S (fr E) s.heap H locs) (hl : LcS E lsA (mL y) ls)
    (hr : ∀ (v : Option Vl) (μ' : Mem) (H' : Heap) (locs' : List Loc) (pc' : Nat) (ls' : Array Slot), Q v μ' → va_P (eD E) vwCl (wl E μ') H' → va_S (fr E) s.heap H' locs' → retOk y pc' v → W p (eLn E) e R s m args below meth c H' locs' cells slots QQ (F0 m pc' ls' (v.toList.map (tv E))))
    (run : va_Run p (eLn E) e R s m args below meth c H locs cells slots 0 0 (F0 m pc lsA stv) (st.map (tv E)) (Qcn E (fun v μ' => Gg E d y (pc + 3) ls (v.toList ++ st) μ' Q) av) (fr E)) :
    W p (eLn E) e R s m args below meth c H locs cells slots QQ (F0 m pc lsA stv) := by
  intro T hT X
  obtain ⟨v, st₀, t, T', L, h0, X', hL, e1, e2, ⟨⟨w, μ', hv, hG, hP1⟩, hz, hk⟩, go⟩ := run T hT X
  cases hv
  rw [h0] at hz hk
  have hS1 : va_S (fr E) s.heap T'.heap (locs ++ L) := by
    refine ⟨Nat.le_trans hS.1 (by rw [e1]; exact hz), fun q h1 h2 => by rw [e1, hk q (Nat.lt_of_lt_of_le h1 hS.1) h2]; exact hS.2.1 q h1 h2, fun q hq => ?_⟩
    rcases List.mem_append.mp hq with h | h
    · exact hS.2.2 q h
    · exact hL q h
  obtain ⟨t2, a1, b1⟩ := hG p e R s m args below meth c T'.heap (locs ++ L) cells slots lsA QQ C (by rw [e1]; exact hP1) hS1 hl hr T' rfl X'
  refine ⟨t2, go t2 ?_, b1⟩
  have : (Option.map (tv E) w).toList ++ st.map (tv E) = (w.toList ++ st).map (tv E) := by cases w <;> simp
  rw [this]
  exact a1
theorem r_callV {idx d' k ci n N nn : Nat} {y' : Mth} {rs : List Nat} {T : u_T} (as : List Vl) (hd : decode (mC y) pc = .ok (.invokevirtual idx, 3)) (hq : pc + 3 = q) (hM : Mv y' nn) (hlk : Cond.methodLink (mO y) idx (mN y') ∈ TB) (hs : shp k = (ci + 4, n, rs)) (hcl : vwCl[ci]? = some (mO y', T, N)) (hn : as.length = nn) (hdd : d' + 1 ≤ d) (hsz : st.length ≤ 8) (hst : stk = as.reverse ++ .inr k :: st)
    (kk : Cl E d' y' (.inr k :: as) μ (fun v μ' => Gg E d y q ls (v.toList ++ st) μ' Q)) : Gg E d y pc ls stk μ Q := by
  intro p e R s m args below meth c H locs cells slots lsA QQ C hP hS hl hr
  obtain ⟨hE, hx, hb, hml, hown, hts, hR, hc, hSt⟩ := id C
  subst hq; subst hst
  obtain ⟨⟨m1, m2, m3, m4, m5, m6⟩, m7, m8, m9⟩ := hM
  have hk := shp_lt hs (Or.inl (by omega))
  have hMet := met_of hE m5 m3 (by rw [List.length_cons, hn]; exact m9) kk
  refine r_goes (st := st) (y' := y') (stv := (as.reverse ++ .inr k :: st).map (tv E)) (av := ((Value.ref (eA E k)) :: as.map (tv E)).toArray) C hS hl hr ?_
  refine va_runV (As := as.map (tv E)) (rest := st.map (tv E)) ⟨hx, hb, hml, hown, hts⟩ hMet (cwV nn hts (tb_gi ?_) rfl rfl rfl ⟨m3, m4⟩ ⟨?_, ?_⟩) ⟨pcn_blind, va_recv hSt.1 hP hcl ((wl_at hk).trans (by rw [ent_obj hs])), fun U hU hW => ⟨rfl, by rw [hU]; exact hP, ?_⟩⟩ rfl (by rw [List.length_map]; exact hn) hl.1 ?_ (lv_room ?_) hd ⟨by rw [Nat.add_zero]; exact hc.1, by rw [Nat.add_zero]; exact hc.2⟩
  · intro w hw
    rcases List.mem_append.mp hw with h | h
    · simp only [List.mem_cons, List.not_mem_nil, or_false] at h
      rcases h with rfl | rfl | rfl | rfl
      · exact hlk
      · exact m7
      · exact m8
      · exact m1
    · rcases List.mem_cons.mp h with rfl | h
      · exact m2
      · exact h
  · show d' + 1 ≤ R.frames
    exact Nat.le_trans hdd hR.1
  · show 8 + (mL y' + 11) + (40 * d' + 24) ≤ R.locals
    have := hR.2
    omega
  · rw [hU]
    exact St.moved hSt hS hW
  · simp [F0, tv, List.map_append, List.map_reverse]
  · rw [tv_sum]; exact hsz
theorem r_callS {idx d' nn : Nat} {y' : Mth} (as : List Vl) (hd : decode (mC y) pc = .ok (.invokestatic idx, 3)) (hq : pc + 3 = q) (hM : Ms y' nn) (hlk : Cond.methodLink (mO y) idx (mN y') ∈ TB) (hn : as.length = nn) (hdd : d' + 1 ≤ d) (hsz : st.length ≤ 8) (hst : stk = as.reverse ++ st)
    (kk : Cl E d' y' as μ (fun v μ' => Gg E d y q ls (v.toList ++ st) μ' Q)) : Gg E d y pc ls stk μ Q := by
  intro p e R s m args below meth c H locs cells slots lsA QQ C hP hS hl hr
  obtain ⟨hE, hx, hb, hml, hown, hts, hR, hc, hSt⟩ := id C
  subst hq; subst hst
  obtain ⟨⟨m1, m2, m3, m4, m5, m6⟩, m7, m9⟩ := hM
  have hMet := met_of hE m5 m3 (by rw [hn]; exact m9) kk
  refine r_goes (st := st) (y' := y') (stv := (as.reverse ++ st).map (tv E)) (av := (as.map (tv E)).toArray) C hS hl hr ?_
  refine va_runS (As := as.map (tv E)) (rest := st.map (tv E)) ⟨hx, hb, hml, hown, hts⟩ hMet (va_cwS nn hts (tb_gi ?_) rfl rfl rfl m4 ⟨?_, ?_⟩) ⟨pcn_blind, fun U hU hW => ⟨rfl, by rw [hU]; exact hP, ?_⟩⟩ rfl (by rw [List.length_map]; exact hn) hl.1 ?_ (lv_room ?_) hd ⟨by rw [Nat.add_zero]; exact hc.1, by rw [Nat.add_zero]; exact hc.2⟩
  · intro w hw
    rcases List.mem_append.mp hw with h | h
    · simp only [List.mem_cons, List.not_mem_nil, or_false] at h
      rcases h with rfl | rfl | rfl
      · exact hlk
      · exact m7
      · rw [m3]; exact m1
    · rcases List.mem_cons.mp h with rfl | h
      · exact m2
      · exact h
  · show d' + 1 ≤ R.frames
    exact Nat.le_trans hdd hR.1
  · show 8 + (mL y' + 11) + (40 * d' + 24) ≤ R.locals
    have := hR.2
    omega
  · rw [hU]
    exact St.moved hSt hS hW
  · simp [F0, List.map_append, List.map_reverse]
  · rw [tv_sum]; exact hsz
theorem r_acpy {idx ks kd n0 n1 : Nat} {rs0 rs1 : List Nat} {sp dp n : Int} (hd : decode (mC y) pc = .ok (.invokestatic idx, 3)) (hq : pc + 3 = q) (hlk : Cond.methodLink (mO y) idx arraycopyName ∈ TB) (hnat : Cond.native arraycopyName ∈ TB) (hst : Cond.static arraycopyName ∈ TB) (hin : Cond.initialized "java/lang/System" ∈ TB) (hs0 : shp ks = (0, n0, rs0)) (hs1 : shp kd = (0, n1, rs1)) (hn0 : 0 < n0 ∧ n0 < 2147483648) (hn1 : 0 < n1 ∧ n1 < 2147483648) (hn : 0 < d) (hsz : st.length ≤ 8)
    (h : (0 ≤ sp ∧ 0 ≤ dp ∧ 0 ≤ n ∧ sp + n ≤ n0 ∧ dp + n ≤ n1) ∧ Gg E d y q ls st (cpm μ ks sp kd dp n) Q) : Gg E d y pc ls (.inl n :: .inl dp :: .inr kd :: .inl sp :: .inr ks :: st) μ Q := by
  intro p e R s m args below meth c H locs cells slots lsA QQ C hP hS hl hr
  obtain ⟨hE, hx, hb, hml, hown, hts, hR, hc, hSt⟩ := id C
  subst hq
  obtain ⟨⟨h1, h2, h3, h4, h5⟩, kk⟩ := h
  have hk0 := shp_lt hs0 (Or.inr hn0.1)
  have hk1 := shp_lt hs1 (Or.inr hn1.1)
  have i1 : inR sp := by unfold inR; omega
  have i2 : inR dp := by unfold inR; omega
  have i3 : inR n := by unfold inR; omega
  refine va_copyi (ty := .int) (f := fun j => Int32.ofInt (μ ks (j : Nat))) (g := fun j => Int32.ofInt (μ kd (j : Nat))) hx hb (by rw [hml]; exact hl.1.symm) hown (hts _ hlk) (hts _ hnat) (hts _ hst) (hts _ hin) hSt.1 hP (wl_D hE) hS ks kd 0 0 ((wl_at hk0).trans (by rw [ent_int hs0])) ((wl_at hk1).trans (by rw [ent_int hs1])) rfl rfl rfl (by rw [inR_lt0 i1]; omega) (by rw [inR_lt0 i2]; omega) (by rw [inR_lt0 i3]; omega) (by rw [inR_clamp i1, inR_clamp i3]; omega) (by rw [inR_clamp i2, inR_clamp i3]; omega) (fun _ _ => rfl) (by have := hR.1; omega) ?_ hd (fun H1 locs1 hP1 hD1 hS1 => ?_)
  · rw [tv_sum]
    have e1 : nativeFrameWords "java/lang/System" "arraycopy" 5 + 11 ≤ 48 := by decide +kernel
    have := hR.2
    omega
  · refine kk p e R s m args below meth c H1 locs1 cells slots lsA QQ C ?_ hS1 hl hr
    rw [wl_put (μ' := cpm μ ks sp kd dp n) hk1 (by rw [ent_int hs1, inR_clamp i1, inR_clamp i2, inR_clamp i3, cpy_cpm h1 h2 h3]) (fun j hj => cpm_ne hj)] at hP1
    exact hP1
end Calls2
end
section
theorem tb1 {w : Cond} (h : w ∈ tables_1_1) (hg : goodWord w = true) : w ∈ TB := tb_mem (List.mem_append_right _ (List.mem_append_left _ h)) hg
theorem tb2 {w : Cond} (h : w ∈ tables_1_2) (hg : goodWord w = true) : w ∈ TB := tb_mem (List.mem_append_right _ (List.mem_append_right _ (List.mem_append_left _ h))) hg
theorem tb3 {w : Cond} (h : w ∈ tables_1_3) (hg : goodWord w = true) : w ∈ TB := tb_mem (List.mem_append_right _ (List.mem_append_right _ (List.mem_append_right _ (List.mem_append_left _ h)))) hg
theorem tb4 {w : Cond} (h : w ∈ tables_1_4) (hg : goodWord w = true) : w ∈ TB := tb_mem (List.mem_append_right _ (List.mem_append_right _ (List.mem_append_right _ (List.mem_append_right _ (List.mem_append_left _ h))))) hg
theorem tb5 {w : Cond} (h : w ∈ tables_1_5) (hg : goodWord w = true) : w ∈ TB := tb_mem (List.mem_append_right _ (List.mem_append_right _ (List.mem_append_right _ (List.mem_append_right _ (List.mem_append_right _ (h)))))) hg
theorem tbs {q : MethodName × Nat} (h : q ∈ lw_privs) : Cond.selects q.1.cls q.1 q.1 ∈ TB := tb_mem (List.mem_append_left _ (List.mem_map.mpr ⟨q, h, rfl⟩)) rfl
def M_X0_forgetAll : Mth := (RX0, cX0_forgetAll, 1, none, yX0_forgetAll)
def M_X0_init : Mth := (RX0, cX0_init, 1, none, yX0_init)
def M_X0_keep : Mth := (RX0, cX0_keep, 6, none, yX0_keep)
def M_X0_keepDay : Mth := (RX0, cX0_keepDay, 1, none, yX0_keepDay)
def M_X0_keepForged : Mth := (RX0, cX0_keepForged, 4, none, yX0_keepForged)
def M_X0_keepLost : Mth := (RX0, cX0_keepLost, 2, none, yX0_keepLost)
def M_X0_latestPlace : Mth := (RX0, cX0_latestPlace, 1, (some .int), yX0_latestPlace)
def M_X0_takeBack : Mth := (RX0, cX0_takeBack, 3, none, yX0_takeBack)
def M_X1_answer : Mth := (RX1, cX1_answer, 5, (some .int), yX1_answer)
def M_X1_give : Mth := (RX1, cX1_give, 6, (some .int), yX1_give)
def M_X1_init : Mth := (RX1, cX1_init, 1, none, yX1_init)
def M_X1_leave : Mth := (RX1, cX1_leave, 2, none, yX1_leave)
def M_X2_begin : Mth := (RX2, cX2_begin, 2, none, yX2_begin)
def M_X2_compareNames : Mth := (RX2, cX2_compareNames, 8, (some .int), yX2_compareNames)
def M_X2_firstOn : Mth := (RX2, cX2_firstOn, 7, (some .int), yX2_firstOn)
def M_X2_freeDay : Mth := (RX2, cX2_freeDay, 2, (some .int), yX2_freeDay)
def M_X2_howMany : Mth := (RX2, cX2_howMany, 4, (some .int), yX2_howMany)
def M_X2_howManyBefore : Mth := (RX2, cX2_howManyBefore, 5, (some .int), yX2_howManyBefore)
def M_X2_howManyWaitWith : Mth := (RX2, cX2_howManyWaitWith, 4, (some .int), yX2_howManyWaitWith)
def M_X2_init : Mth := (RX2, cX2_init, 1, none, yX2_init)
def M_X2_isBefore : Mth := (RX2, cX2_isBefore, 6, (some .boolean), yX2_isBefore)
def M_X2_isSeated : Mth := (RX2, cX2_isSeated, 2, (some .boolean), yX2_isSeated)
def M_X2_lastWaitingBut : Mth := (RX2, cX2_lastWaitingBut, 5, (some .int), yX2_lastWaitingBut)
def M_X2_letterAsRead : Mth := (RX2, cX2_letterAsRead, 3, (some .int), yX2_letterAsRead)
def M_X2_letterInOrder : Mth := (RX2, cX2_letterInOrder, 3, (some .int), yX2_letterInOrder)
def M_X2_letterOf : Mth := (RX2, cX2_letterOf, 3, (some .int), yX2_letterOf)
def M_X2_lettersAsBits : Mth := (RX2, cX2_lettersAsBits, 4, (some .int), yX2_lettersAsBits)
def M_X2_openDay : Mth := (RX2, cX2_openDay, 5, (some .int), yX2_openDay)
def M_X2_placeInOrder : Mth := (RX2, cX2_placeInOrder, 3, (some .int), yX2_placeInOrder)
def M_X2_putLetter : Mth := (RX2, cX2_putLetter, 4, none, yX2_putLetter)
def M_X2_seatTill : Mth := (RX2, cX2_seatTill, 6, none, yX2_seatTill)
def M_X2_servesOn : Mth := (RX2, cX2_servesOn, 3, (some .boolean), yX2_servesOn)
def M_X2_stateOf : Mth := (RX2, cX2_stateOf, 2, (some .int), yX2_stateOf)
def M_X2_takeBackDay : Mth := (RX2, cX2_takeBackDay, 2, none, yX2_takeBackDay)
def M_X2_takeFrom : Mth := (RX2, cX2_takeFrom, 2, none, yX2_takeFrom)
def M_X2_tellOrder : Mth := (RX2, cX2_tellOrder, 3, none, yX2_tellOrder)
def M_X2_turnOn : Mth := (RX2, cX2_turnOn, 3, (some .int), yX2_turnOn)
def M_X2_waitedByAll : Mth := (RX2, cX2_waitedByAll, 3, (some .int), yX2_waitedByAll)
def M_X2_waitsOn : Mth := (RX2, cX2_waitsOn, 3, (some .boolean), yX2_waitsOn)
def M_X3_firstOpenSeat : Mth := (RX3, cX3_firstOpenSeat, 3, (some .int), yX3_firstOpenSeat)
def M_X3_init : Mth := (RX3, cX3_init, 1, none, yX3_init)
def M_X3_openSeats : Mth := (RX3, cX3_openSeats, 3, none, yX3_openSeats)
def M_X3_plan : Mth := (RX3, cX3_plan, 5, none, yX3_plan)
def M_X3_seatOneByOne : Mth := (RX3, cX3_seatOneByOne, 9, none, yX3_seatOneByOne)
def M_X4_addByte : Mth := (RX4, cX4_addByte, 2, none, yX4_addByte)
def M_X4_hasFault : Mth := (RX4, cX4_hasFault, 2, (some .boolean), yX4_hasFault)
def M_X4_init : Mth := (RX4, cX4_init, 1, none, yX4_init)
def M_X4_isFigureAt : Mth := (RX4, cX4_isFigureAt, 2, (some .boolean), yX4_isFigureAt)
def M_X4_isLetter : Mth := (RX4, cX4_isLetter, 1, (some .boolean), yX4_isLetter)
def M_X4_isNumberIn : Mth := (RX4, cX4_isNumberIn, 3, (some .boolean), yX4_isNumberIn)
def M_X4_letterOfToken : Mth := (RX4, cX4_letterOfToken, 1, (some .int), yX4_letterOfToken)
def M_X4_passOver : Mth := (RX4, cX4_passOver, 2, (some .boolean), yX4_passOver)
def M_X4_readInto : Mth := (RX4, cX4_readInto, 2, (some .boolean), yX4_readInto)
def M_X4_readLaw : Mth := (RX4, cX4_readLaw, 2, (some .boolean), yX4_readLaw)
def M_X4_readOrder : Mth := (RX4, cX4_readOrder, 5, (some .boolean), yX4_readOrder)
def M_X4_readPeople : Mth := (RX4, cX4_readPeople, 3, (some .boolean), yX4_readPeople)
def M_X4_readPerson : Mth := (RX4, cX4_readPerson, 4, (some .boolean), yX4_readPerson)
def M_X4_step : Mth := (RX4, cX4_step, 2, none, yX4_step)
def M_X4_takeNumber : Mth := (RX4, cX4_takeNumber, 2, (some .int), yX4_takeNumber)
def M_X5_canBeBehind : Mth := (RX5, cX5_canBeBehind, 6, (some .boolean), yX5_canBeBehind)
def M_X5_findFewest : Mth := (RX5, cX5_findFewest, 6, (some .int), yX5_findFewest)
def M_X5_init : Mth := (RX5, cX5_init, 1, none, yX5_init)
def M_X5_tryNames : Mth := (RX5, cX5_tryNames, 11, (some .boolean), yX5_tryNames)
def M_X6_begin : Mth := (RX6, cX6_begin, 4, none, yX6_begin)
def M_X6_cut : Mth := (RX6, cX6_cut, 2, (some .int), yX6_cut)
def M_X6_hasRange : Mth := (RX6, cX6_hasRange, 3, (some .boolean), yX6_hasRange)
def M_X6_init : Mth := (RX6, cX6_init, 1, none, yX6_init)
def M_X6_isMissing : Mth := (RX6, cX6_isMissing, 1, (some .boolean), yX6_isMissing)
def M_X7_areAllPeople : Mth := (RX7, cX7_areAllPeople, 5, (some .boolean), yX7_areAllPeople)
def M_X7_areSeatedNext : Mth := (RX7, cX7_areSeatedNext, 6, (some .boolean), yX7_areSeatedNext)
def M_X7_as : Mth := (RX7, cX7_as, 3, (some .int), yX7_as)
def M_X7_ask : Mth := (RX7, cX7_ask, 3, (some .int), yX7_ask)
def M_X7_best : Mth := (RX7, cX7_best, 6, (some .int), yX7_best)
def M_X7_copy : Mth := (RX7, cX7_copy, 8, (some .int), yX7_copy)
def M_X7_count : Mth := (RX7, cX7_count, 2, (some .int), yX7_count)
def M_X7_court : Mth := (RX7, cX7_court, 2, (some .int), yX7_court)
def M_X7_days : Mth := (RX7, cX7_days, 3, (some .int), yX7_days)
def M_X7_drop : Mth := (RX7, cX7_drop, 4, (some .int), yX7_drop)
def M_X7_fault : Mth := (RX7, cX7_fault, 1, (some .int), yX7_fault)
def M_X7_feed : Mth := (RX7, cX7_feed, 2, (some .int), yX7_feed)
def M_X7_foretell : Mth := (RX7, cX7_foretell, 2, (some (.object "AlphaCourt$Court")), yX7_foretell)
def M_X7_forge : Mth := (RX7, cX7_forge, 5, (some .int), yX7_forge)
def M_X7_found : Mth := (RX7, cX7_found, 2, (some .int), yX7_found)
def M_X7_frees : Mth := (RX7, cX7_frees, 6, (some .int), yX7_frees)
def M_X7_howManyRows : Mth := (RX7, cX7_howManyRows, 3, (some .int), yX7_howManyRows)
def M_X7_image : Mth := (RX7, cX7_image, 2, (some .int), yX7_image)
def M_X7_init : Mth := (RX7, cX7_init, 2, none, yX7_init)
def M_X7_isIn : Mth := (RX7, cX7_isIn, 2, (some .boolean), yX7_isIn)
def M_X7_isOfKind : Mth := (RX7, cX7_isOfKind, 4, (some .boolean), yX7_isOfKind)
def M_X7_isPerson : Mth := (RX7, cX7_isPerson, 2, (some .boolean), yX7_isPerson)
def M_X7_isPlaceOfName : Mth := (RX7, cX7_isPlaceOfName, 3, (some .boolean), yX7_isPlaceOfName)
def M_X7_kind : Mth := (RX7, cX7_kind, 2, (some .int), yX7_kind)
def M_X7_last : Mth := (RX7, cX7_last, 4, (some .int), yX7_last)
def M_X7_ledger : Mth := (RX7, cX7_ledger, 7, (some .int), yX7_ledger)
def M_X7_lose : Mth := (RX7, cX7_lose, 3, (some .int), yX7_lose)
def M_X7_name : Mth := (RX7, cX7_name, 3, (some .int), yX7_name)
def M_X7_order : Mth := (RX7, cX7_order, 2, (some .int), yX7_order)
def M_X7_person : Mth := (RX7, cX7_person, 3, (some .int), yX7_person)
def M_X7_restore : Mth := (RX7, cX7_restore, 2, (some .int), yX7_restore)
def M_X7_row : Mth := (RX7, cX7_row, 4, (some .int), yX7_row)
def M_X7_set : Mth := (RX7, cX7_set, 5, (some .int), yX7_set)
def M_X7_status : Mth := (RX7, cX7_status, 1, (some .int), yX7_status)
def M_X7_trace : Mth := (RX7, cX7_trace, 2, (some .int), yX7_trace)
def M_X7_undo : Mth := (RX7, cX7_undo, 1, (some .int), yX7_undo)
def M_X7_unfound : Mth := (RX7, cX7_unfound, 2, (some .int), yX7_unfound)
def M_X7_waited : Mth := (RX7, cX7_waited, 1, (some .int), yX7_waited)
def M_X7_warden : Mth := (RX7, cX7_warden, 2, (some .int), yX7_warden)
def M_X7_when : Mth := (RX7, cX7_when, 4, (some .int), yX7_when)
def M_X8_advances : Mth := (RX8, cX8_advances, 2, none, yX8_advances)
def M_X8_ages : Mth := (RX8, cX8_ages, 3, none, yX8_ages)
def M_X8_as : Mth := (RX8, cX8_as, 5, (some .int), yX8_as)
def M_X8_ask : Mth := (RX8, cX8_ask, 4, (some .int), yX8_ask)
def M_X8_beforeIt : Mth := (RX8, cX8_beforeIt, 4, (some .int), yX8_beforeIt)
def M_X8_begins : Mth := (RX8, cX8_begins, 2, none, yX8_begins)
def M_X8_best : Mth := (RX8, cX8_best, 6, (some .int), yX8_best)
def M_X8_byteAt : Mth := (RX8, cX8_byteAt, 2, (some .int), yX8_byteAt)
def M_X8_classOf : Mth := (RX8, cX8_classOf, 3, (some .int), yX8_classOf)
def M_X8_copies : Mth := (RX8, cX8_copies, 5, none, yX8_copies)
def M_X8_copy : Mth := (RX8, cX8_copy, 7, (some .int), yX8_copy)
def M_X8_count : Mth := (RX8, cX8_count, 4, (some .int), yX8_count)
def M_X8_court : Mth := (RX8, cX8_court, 2, (some .int), yX8_court)
def M_X8_cut : Mth := (RX8, cX8_cut, 2, (some .int), yX8_cut)
def M_X8_days : Mth := (RX8, cX8_days, 3, (some .int), yX8_days)
def M_X8_drop : Mth := (RX8, cX8_drop, 2, (some .int), yX8_drop)
def M_X8_fault : Mth := (RX8, cX8_fault, 1, (some .int), yX8_fault)
def M_X8_feed : Mth := (RX8, cX8_feed, 2, (some .int), yX8_feed)
def M_X8_figure : Mth := (RX8, cX8_figure, 3, (some .int), yX8_figure)
def M_X8_forge : Mth := (RX8, cX8_forge, 5, (some .int), yX8_forge)
def M_X8_found : Mth := (RX8, cX8_found, 2, (some .int), yX8_found)
def M_X8_frees : Mth := (RX8, cX8_frees, 4, (some .int), yX8_frees)
def M_X8_goes : Mth := (RX8, cX8_goes, 3, none, yX8_goes)
def M_X8_has : Mth := (RX8, cX8_has, 2, (some .boolean), yX8_has)
def M_X8_image : Mth := (RX8, cX8_image, 2, (some .int), yX8_image)
def M_X8_in : Mth := (RX8, cX8_in, 3, (some .boolean), yX8_in)
def M_X8_init : Mth := (RX8, cX8_init, 2, none, yX8_init)
def M_X8_isBefore : Mth := (RX8, cX8_isBefore, 7, (some .boolean), yX8_isBefore)
def M_X8_isCourt : Mth := (RX8, cX8_isCourt, 1, (some .boolean), yX8_isCourt)
def M_X8_isLast : Mth := (RX8, cX8_isLast, 5, (some .boolean), yX8_isLast)
def M_X8_isLost : Mth := (RX8, cX8_isLost, 4, (some .boolean), yX8_isLost)
def M_X8_isMissing : Mth := (RX8, cX8_isMissing, 2, (some .boolean), yX8_isMissing)
def M_X8_isName : Mth := (RX8, cX8_isName, 1, (some .boolean), yX8_isName)
def M_X8_isPart : Mth := (RX8, cX8_isPart, 4, (some .boolean), yX8_isPart)
def M_X8_isPerson : Mth := (RX8, cX8_isPerson, 2, (some .boolean), yX8_isPerson)
def M_X8_isPlaceOf : Mth := (RX8, cX8_isPlaceOf, 3, (some .boolean), yX8_isPlaceOf)
def M_X8_isRow : Mth := (RX8, cX8_isRow, 1, (some .boolean), yX8_isRow)
def M_X8_isWell : Mth := (RX8, cX8_isWell, 1, (some .boolean), yX8_isWell)
def M_X8_kind : Mth := (RX8, cX8_kind, 2, (some .int), yX8_kind)
def M_X8_kindOf : Mth := (RX8, cX8_kindOf, 1, (some .int), yX8_kindOf)
def M_X8_last : Mth := (RX8, cX8_last, 7, (some .int), yX8_last)
def M_X8_lays : Mth := (RX8, cX8_lays, 7, (some .int), yX8_lays)
def M_X8_ledger : Mth := (RX8, cX8_ledger, 8, (some .int), yX8_ledger)
def M_X8_letterOf : Mth := (RX8, cX8_letterOf, 4, (some .int), yX8_letterOf)
def M_X8_lines : Mth := (RX8, cX8_lines, 6, (some .boolean), yX8_lines)
def M_X8_lose : Mth := (RX8, cX8_lose, 3, (some .int), yX8_lose)
def M_X8_manySo : Mth := (RX8, cX8_manySo, 4, (some .int), yX8_manySo)
def M_X8_name : Mth := (RX8, cX8_name, 3, (some .int), yX8_name)
def M_X8_nextBy : Mth := (RX8, cX8_nextBy, 4, (some .int), yX8_nextBy)
def M_X8_notes : Mth := (RX8, cX8_notes, 2, none, yX8_notes)
def M_X8_of : Mth := (RX8, cX8_of, 3, (some .int), yX8_of)
def M_X8_order : Mth := (RX8, cX8_order, 3, (some .int), yX8_order)
def M_X8_passedBy : Mth := (RX8, cX8_passedBy, 6, (some .int), yX8_passedBy)
def M_X8_passes : Mth := (RX8, cX8_passes, 4, none, yX8_passes)
def M_X8_person : Mth := (RX8, cX8_person, 3, (some .int), yX8_person)
def M_X8_plainMark : Mth := (RX8, cX8_plainMark, 4, (some .int), yX8_plainMark)
def M_X8_plainSize : Mth := (RX8, cX8_plainSize, 4, (some .int), yX8_plainSize)
def M_X8_power : Mth := (RX8, cX8_power, 4, (some .int), yX8_power)
def M_X8_rank : Mth := (RX8, cX8_rank, 5, (some .int), yX8_rank)
def M_X8_readsOrder : Mth := (RX8, cX8_readsOrder, 4, none, yX8_readsOrder)
def M_X8_readsPerson : Mth := (RX8, cX8_readsPerson, 6, none, yX8_readsPerson)
def M_X8_restore : Mth := (RX8, cX8_restore, 2, (some .int), yX8_restore)
def M_X8_row : Mth := (RX8, cX8_row, 5, (some .int), yX8_row)
def M_X8_saintMark : Mth := (RX8, cX8_saintMark, 2, (some .int), yX8_saintMark)
def M_X8_saintSize : Mth := (RX8, cX8_saintSize, 4, (some .int), yX8_saintSize)
def M_X8_seats : Mth := (RX8, cX8_seats, 3, none, yX8_seats)
def M_X8_set : Mth := (RX8, cX8_set, 4, (some .int), yX8_set)
def M_X8_status : Mth := (RX8, cX8_status, 1, (some .int), yX8_status)
def M_X8_takes : Mth := (RX8, cX8_takes, 4, (some .int), yX8_takes)
def M_X8_takes2 : Mth := (RX8, cX8_takes2, 2, none, yX8_takes2)
def M_X8_trace : Mth := (RX8, cX8_trace, 2, (some .int), yX8_trace)
def M_X8_undo : Mth := (RX8, cX8_undo, 1, (some .int), yX8_undo)
def M_X8_waited : Mth := (RX8, cX8_waited, 1, (some .int), yX8_waited)
def M_X8_waitedByLine : Mth := (RX8, cX8_waitedByLine, 4, (some .int), yX8_waitedByLine)
def M_X8_waitedTried : Mth := (RX8, cX8_waitedTried, 5, (some .int), yX8_waitedTried)
def M_X8_waits : Mth := (RX8, cX8_waits, 2, (some .boolean), yX8_waits)
def M_X8_warden : Mth := (RX8, cX8_warden, 8, (some .int), yX8_warden)
def M_X8_well : Mth := (RX8, cX8_well, 2, (some .int), yX8_well)
def M_X8_when : Mth := (RX8, cX8_when, 3, (some .int), yX8_when)
theorem kM_X0_forgetAll : Mv M_X0_forgetAll 0 := ⟨⟨tb1 (List.mem_of_getElem? (i := 4) (by decide +kernel)) rfl, tb2 (List.mem_of_getElem? (i := 174) (by decide +kernel)) rfl, rfl, ⟨by decide +kernel, by decide +kernel, by decide +kernel⟩, by decide +kernel, by decide +kernel⟩, tb2 (List.mem_of_getElem? (i := 172) (by decide +kernel)) rfl, tb2 (List.mem_of_getElem? (i := 173) (by decide +kernel)) rfl, by decide +kernel⟩
theorem kM_X0_keep : Mv M_X0_keep 4 := ⟨⟨tb1 (List.mem_of_getElem? (i := 4) (by decide +kernel)) rfl, tb3 (List.mem_of_getElem? (i := 13) (by decide +kernel)) rfl, rfl, ⟨by decide +kernel, by decide +kernel, by decide +kernel⟩, by decide +kernel, by decide +kernel⟩, tb3 (List.mem_of_getElem? (i := 12) (by decide +kernel)) rfl, tbs (q := (⟨"AlphaCourt$Acts", "keep", "(IIII)V"⟩, 6)) (List.mem_of_getElem? (i := 20) (by decide +kernel)), by decide +kernel⟩
theorem kM_X0_keepDay : Mv M_X0_keepDay 0 := ⟨⟨tb1 (List.mem_of_getElem? (i := 4) (by decide +kernel)) rfl, tb3 (List.mem_of_getElem? (i := 9) (by decide +kernel)) rfl, rfl, ⟨by decide +kernel, by decide +kernel, by decide +kernel⟩, by decide +kernel, by decide +kernel⟩, tb3 (List.mem_of_getElem? (i := 7) (by decide +kernel)) rfl, tb3 (List.mem_of_getElem? (i := 8) (by decide +kernel)) rfl, by decide +kernel⟩
theorem kM_X0_keepForged : Mv M_X0_keepForged 3 := ⟨⟨tb1 (List.mem_of_getElem? (i := 4) (by decide +kernel)) rfl, tb3 (List.mem_of_getElem? (i := 44) (by decide +kernel)) rfl, rfl, ⟨by decide +kernel, by decide +kernel, by decide +kernel⟩, by decide +kernel, by decide +kernel⟩, tb3 (List.mem_of_getElem? (i := 42) (by decide +kernel)) rfl, tb3 (List.mem_of_getElem? (i := 43) (by decide +kernel)) rfl, by decide +kernel⟩
theorem kM_X0_keepLost : Mv M_X0_keepLost 1 := ⟨⟨tb1 (List.mem_of_getElem? (i := 4) (by decide +kernel)) rfl, tb3 (List.mem_of_getElem? (i := 52) (by decide +kernel)) rfl, rfl, ⟨by decide +kernel, by decide +kernel, by decide +kernel⟩, by decide +kernel, by decide +kernel⟩, tb3 (List.mem_of_getElem? (i := 50) (by decide +kernel)) rfl, tb3 (List.mem_of_getElem? (i := 51) (by decide +kernel)) rfl, by decide +kernel⟩
theorem kM_X0_latestPlace : Mv M_X0_latestPlace 0 := ⟨⟨tb1 (List.mem_of_getElem? (i := 4) (by decide +kernel)) rfl, tb3 (List.mem_of_getElem? (i := 17) (by decide +kernel)) rfl, rfl, ⟨by decide +kernel, by decide +kernel, by decide +kernel⟩, by decide +kernel, by decide +kernel⟩, tb3 (List.mem_of_getElem? (i := 16) (by decide +kernel)) rfl, tbs (q := (⟨"AlphaCourt$Acts", "latestPlace", "()I"⟩, 6)) (List.mem_of_getElem? (i := 21) (by decide +kernel)), by decide +kernel⟩
theorem kM_X0_takeBack : Mv M_X0_takeBack 1 := ⟨⟨tb1 (List.mem_of_getElem? (i := 4) (by decide +kernel)) rfl, tb3 (List.mem_of_getElem? (i := 60) (by decide +kernel)) rfl, rfl, ⟨by decide +kernel, by decide +kernel, by decide +kernel⟩, by decide +kernel, by decide +kernel⟩, tb3 (List.mem_of_getElem? (i := 58) (by decide +kernel)) rfl, tb3 (List.mem_of_getElem? (i := 59) (by decide +kernel)) rfl, by decide +kernel⟩
theorem kM_X1_answer : Mv M_X1_answer 3 := ⟨⟨tb1 (List.mem_of_getElem? (i := 7) (by decide +kernel)) rfl, tb3 (List.mem_of_getElem? (i := 211) (by decide +kernel)) rfl, rfl, ⟨by decide +kernel, by decide +kernel, by decide +kernel⟩, by decide +kernel, by decide +kernel⟩, tb3 (List.mem_of_getElem? (i := 209) (by decide +kernel)) rfl, tb3 (List.mem_of_getElem? (i := 210) (by decide +kernel)) rfl, by decide +kernel⟩
theorem kM_X1_give : Mv M_X1_give 4 := ⟨⟨tb1 (List.mem_of_getElem? (i := 7) (by decide +kernel)) rfl, tb3 (List.mem_of_getElem? (i := 219) (by decide +kernel)) rfl, rfl, ⟨by decide +kernel, by decide +kernel, by decide +kernel⟩, by decide +kernel, by decide +kernel⟩, tb3 (List.mem_of_getElem? (i := 218) (by decide +kernel)) rfl, tbs (q := (⟨"AlphaCourt$Asks", "give", "(LAlphaCourt$Court;III)I"⟩, 2)) (List.mem_of_getElem? (i := 32) (by decide +kernel)), by decide +kernel⟩
theorem kM_X1_leave : Mv M_X1_leave 1 := ⟨⟨tb1 (List.mem_of_getElem? (i := 7) (by decide +kernel)) rfl, tb3 (List.mem_of_getElem? (i := 223) (by decide +kernel)) rfl, rfl, ⟨by decide +kernel, by decide +kernel, by decide +kernel⟩, by decide +kernel, by decide +kernel⟩, tb3 (List.mem_of_getElem? (i := 222) (by decide +kernel)) rfl, tbs (q := (⟨"AlphaCourt$Asks", "leave", "(I)V"⟩, 2)) (List.mem_of_getElem? (i := 33) (by decide +kernel)), by decide +kernel⟩
theorem kM_X2_begin : Mv M_X2_begin 0 := ⟨⟨tb1 (List.mem_of_getElem? (i := 3) (by decide +kernel)) rfl, tb2 (List.mem_of_getElem? (i := 107) (by decide +kernel)) rfl, rfl, ⟨by decide +kernel, by decide +kernel, by decide +kernel⟩, by decide +kernel, by decide +kernel⟩, tb2 (List.mem_of_getElem? (i := 105) (by decide +kernel)) rfl, tb2 (List.mem_of_getElem? (i := 106) (by decide +kernel)) rfl, by decide +kernel⟩
theorem kM_X2_compareNames : Mv M_X2_compareNames 3 := ⟨⟨tb1 (List.mem_of_getElem? (i := 3) (by decide +kernel)) rfl, tb2 (List.mem_of_getElem? (i := 237) (by decide +kernel)) rfl, rfl, ⟨by decide +kernel, by decide +kernel, by decide +kernel⟩, by decide +kernel, by decide +kernel⟩, tb2 (List.mem_of_getElem? (i := 236) (by decide +kernel)) rfl, tbs (q := (⟨"AlphaCourt$Court", "compareNames", "(III)I"⟩, 16)) (List.mem_of_getElem? (i := 17) (by decide +kernel)), by decide +kernel⟩
theorem kM_X2_firstOn : Mv M_X2_firstOn 2 := ⟨⟨tb1 (List.mem_of_getElem? (i := 3) (by decide +kernel)) rfl, tb2 (List.mem_of_getElem? (i := 211) (by decide +kernel)) rfl, rfl, ⟨by decide +kernel, by decide +kernel, by decide +kernel⟩, by decide +kernel, by decide +kernel⟩, tb2 (List.mem_of_getElem? (i := 210) (by decide +kernel)) rfl, tbs (q := (⟨"AlphaCourt$Court", "firstOn", "(II)I"⟩, 16)) (List.mem_of_getElem? (i := 16) (by decide +kernel)), by decide +kernel⟩
theorem kM_X2_freeDay : Mv M_X2_freeDay 1 := ⟨⟨tb1 (List.mem_of_getElem? (i := 3) (by decide +kernel)) rfl, tb2 (List.mem_of_getElem? (i := 204) (by decide +kernel)) rfl, rfl, ⟨by decide +kernel, by decide +kernel, by decide +kernel⟩, by decide +kernel, by decide +kernel⟩, tb2 (List.mem_of_getElem? (i := 202) (by decide +kernel)) rfl, tb2 (List.mem_of_getElem? (i := 203) (by decide +kernel)) rfl, by decide +kernel⟩
theorem kM_X2_howMany : Mv M_X2_howMany 1 := ⟨⟨tb1 (List.mem_of_getElem? (i := 3) (by decide +kernel)) rfl, tb3 (List.mem_of_getElem? (i := 21) (by decide +kernel)) rfl, rfl, ⟨by decide +kernel, by decide +kernel, by decide +kernel⟩, by decide +kernel, by decide +kernel⟩, tb3 (List.mem_of_getElem? (i := 19) (by decide +kernel)) rfl, tb3 (List.mem_of_getElem? (i := 20) (by decide +kernel)) rfl, by decide +kernel⟩
theorem kM_X2_howManyBefore : Mv M_X2_howManyBefore 1 := ⟨⟨tb1 (List.mem_of_getElem? (i := 3) (by decide +kernel)) rfl, tb3 (List.mem_of_getElem? (i := 75) (by decide +kernel)) rfl, rfl, ⟨by decide +kernel, by decide +kernel, by decide +kernel⟩, by decide +kernel, by decide +kernel⟩, tb3 (List.mem_of_getElem? (i := 73) (by decide +kernel)) rfl, tb3 (List.mem_of_getElem? (i := 74) (by decide +kernel)) rfl, by decide +kernel⟩
theorem kM_X2_howManyWaitWith : Mv M_X2_howManyWaitWith 1 := ⟨⟨tb1 (List.mem_of_getElem? (i := 3) (by decide +kernel)) rfl, tb3 (List.mem_of_getElem? (i := 170) (by decide +kernel)) rfl, rfl, ⟨by decide +kernel, by decide +kernel, by decide +kernel⟩, by decide +kernel, by decide +kernel⟩, tb3 (List.mem_of_getElem? (i := 168) (by decide +kernel)) rfl, tb3 (List.mem_of_getElem? (i := 169) (by decide +kernel)) rfl, by decide +kernel⟩
theorem kM_X2_isBefore : Mv M_X2_isBefore 3 := ⟨⟨tb1 (List.mem_of_getElem? (i := 3) (by decide +kernel)) rfl, tb2 (List.mem_of_getElem? (i := 231) (by decide +kernel)) rfl, rfl, ⟨by decide +kernel, by decide +kernel, by decide +kernel⟩, by decide +kernel, by decide +kernel⟩, tb2 (List.mem_of_getElem? (i := 229) (by decide +kernel)) rfl, tb2 (List.mem_of_getElem? (i := 230) (by decide +kernel)) rfl, by decide +kernel⟩
theorem kM_X2_isSeated : Mv M_X2_isSeated 1 := ⟨⟨tb1 (List.mem_of_getElem? (i := 3) (by decide +kernel)) rfl, tb2 (List.mem_of_getElem? (i := 200) (by decide +kernel)) rfl, rfl, ⟨by decide +kernel, by decide +kernel, by decide +kernel⟩, by decide +kernel, by decide +kernel⟩, tb2 (List.mem_of_getElem? (i := 198) (by decide +kernel)) rfl, tb2 (List.mem_of_getElem? (i := 199) (by decide +kernel)) rfl, by decide +kernel⟩
theorem kM_X2_lastWaitingBut : Mv M_X2_lastWaitingBut 2 := ⟨⟨tb1 (List.mem_of_getElem? (i := 3) (by decide +kernel)) rfl, tb3 (List.mem_of_getElem? (i := 120) (by decide +kernel)) rfl, rfl, ⟨by decide +kernel, by decide +kernel, by decide +kernel⟩, by decide +kernel, by decide +kernel⟩, tb3 (List.mem_of_getElem? (i := 118) (by decide +kernel)) rfl, tb3 (List.mem_of_getElem? (i := 119) (by decide +kernel)) rfl, by decide +kernel⟩
theorem kM_X2_letterAsRead : Mv M_X2_letterAsRead 2 := ⟨⟨tb1 (List.mem_of_getElem? (i := 3) (by decide +kernel)) rfl, tb3 (List.mem_of_getElem? (i := 1) (by decide +kernel)) rfl, rfl, ⟨by decide +kernel, by decide +kernel, by decide +kernel⟩, by decide +kernel, by decide +kernel⟩, tb3 (List.mem_of_getElem? (i := 0) (by decide +kernel)) rfl, tbs (q := (⟨"AlphaCourt$Court", "letterAsRead", "(II)I"⟩, 16)) (List.mem_of_getElem? (i := 18) (by decide +kernel)), by decide +kernel⟩
theorem kM_X2_letterInOrder : Mv M_X2_letterInOrder 2 := ⟨⟨tb1 (List.mem_of_getElem? (i := 3) (by decide +kernel)) rfl, tb3 (List.mem_of_getElem? (i := 89) (by decide +kernel)) rfl, rfl, ⟨by decide +kernel, by decide +kernel, by decide +kernel⟩, by decide +kernel, by decide +kernel⟩, tb3 (List.mem_of_getElem? (i := 87) (by decide +kernel)) rfl, tb3 (List.mem_of_getElem? (i := 88) (by decide +kernel)) rfl, by decide +kernel⟩
theorem kM_X2_letterOf : Mv M_X2_letterOf 2 := ⟨⟨tb1 (List.mem_of_getElem? (i := 3) (by decide +kernel)) rfl, tb2 (List.mem_of_getElem? (i := 227) (by decide +kernel)) rfl, rfl, ⟨by decide +kernel, by decide +kernel, by decide +kernel⟩, by decide +kernel, by decide +kernel⟩, tb2 (List.mem_of_getElem? (i := 225) (by decide +kernel)) rfl, tb2 (List.mem_of_getElem? (i := 226) (by decide +kernel)) rfl, by decide +kernel⟩
theorem kM_X2_lettersAsBits : Mv M_X2_lettersAsBits 1 := ⟨⟨tb1 (List.mem_of_getElem? (i := 3) (by decide +kernel)) rfl, tb2 (List.mem_of_getElem? (i := 223) (by decide +kernel)) rfl, rfl, ⟨by decide +kernel, by decide +kernel, by decide +kernel⟩, by decide +kernel, by decide +kernel⟩, tb2 (List.mem_of_getElem? (i := 221) (by decide +kernel)) rfl, tb2 (List.mem_of_getElem? (i := 222) (by decide +kernel)) rfl, by decide +kernel⟩
theorem kM_X2_openDay : Mv M_X2_openDay 1 := ⟨⟨tb1 (List.mem_of_getElem? (i := 3) (by decide +kernel)) rfl, tb2 (List.mem_of_getElem? (i := 191) (by decide +kernel)) rfl, rfl, ⟨by decide +kernel, by decide +kernel, by decide +kernel⟩, by decide +kernel, by decide +kernel⟩, tb2 (List.mem_of_getElem? (i := 190) (by decide +kernel)) rfl, tbs (q := (⟨"AlphaCourt$Court", "openDay", "(I)I"⟩, 16)) (List.mem_of_getElem? (i := 14) (by decide +kernel)), by decide +kernel⟩
theorem kM_X2_placeInOrder : Mv M_X2_placeInOrder 2 := ⟨⟨tb1 (List.mem_of_getElem? (i := 3) (by decide +kernel)) rfl, tb3 (List.mem_of_getElem? (i := 5) (by decide +kernel)) rfl, rfl, ⟨by decide +kernel, by decide +kernel, by decide +kernel⟩, by decide +kernel, by decide +kernel⟩, tb3 (List.mem_of_getElem? (i := 4) (by decide +kernel)) rfl, tbs (q := (⟨"AlphaCourt$Court", "placeInOrder", "(II)I"⟩, 16)) (List.mem_of_getElem? (i := 19) (by decide +kernel)), by decide +kernel⟩
theorem kM_X2_putLetter : Mv M_X2_putLetter 3 := ⟨⟨tb1 (List.mem_of_getElem? (i := 3) (by decide +kernel)) rfl, tb2 (List.mem_of_getElem? (i := 164) (by decide +kernel)) rfl, rfl, ⟨by decide +kernel, by decide +kernel, by decide +kernel⟩, by decide +kernel, by decide +kernel⟩, tb2 (List.mem_of_getElem? (i := 162) (by decide +kernel)) rfl, tb2 (List.mem_of_getElem? (i := 163) (by decide +kernel)) rfl, by decide +kernel⟩
theorem kM_X2_seatTill : Mv M_X2_seatTill 2 := ⟨⟨tb1 (List.mem_of_getElem? (i := 3) (by decide +kernel)) rfl, tb2 (List.mem_of_getElem? (i := 187) (by decide +kernel)) rfl, rfl, ⟨by decide +kernel, by decide +kernel, by decide +kernel⟩, by decide +kernel, by decide +kernel⟩, tb2 (List.mem_of_getElem? (i := 185) (by decide +kernel)) rfl, tb2 (List.mem_of_getElem? (i := 186) (by decide +kernel)) rfl, by decide +kernel⟩
theorem kM_X2_servesOn : Mv M_X2_servesOn 2 := ⟨⟨tb1 (List.mem_of_getElem? (i := 3) (by decide +kernel)) rfl, tb2 (List.mem_of_getElem? (i := 196) (by decide +kernel)) rfl, rfl, ⟨by decide +kernel, by decide +kernel, by decide +kernel⟩, by decide +kernel, by decide +kernel⟩, tb2 (List.mem_of_getElem? (i := 195) (by decide +kernel)) rfl, tbs (q := (⟨"AlphaCourt$Court", "servesOn", "(II)Z"⟩, 16)) (List.mem_of_getElem? (i := 15) (by decide +kernel)), by decide +kernel⟩
theorem kM_X2_stateOf : Mv M_X2_stateOf 1 := ⟨⟨tb1 (List.mem_of_getElem? (i := 3) (by decide +kernel)) rfl, tb3 (List.mem_of_getElem? (i := 25) (by decide +kernel)) rfl, rfl, ⟨by decide +kernel, by decide +kernel, by decide +kernel⟩, by decide +kernel, by decide +kernel⟩, tb3 (List.mem_of_getElem? (i := 23) (by decide +kernel)) rfl, tb3 (List.mem_of_getElem? (i := 24) (by decide +kernel)) rfl, by decide +kernel⟩
theorem kM_X2_takeBackDay : Mv M_X2_takeBackDay 0 := ⟨⟨tb1 (List.mem_of_getElem? (i := 3) (by decide +kernel)) rfl, tb3 (List.mem_of_getElem? (i := 64) (by decide +kernel)) rfl, rfl, ⟨by decide +kernel, by decide +kernel, by decide +kernel⟩, by decide +kernel, by decide +kernel⟩, tb3 (List.mem_of_getElem? (i := 62) (by decide +kernel)) rfl, tb3 (List.mem_of_getElem? (i := 63) (by decide +kernel)) rfl, by decide +kernel⟩
theorem kM_X2_takeFrom : Mv M_X2_takeFrom 1 := ⟨⟨tb1 (List.mem_of_getElem? (i := 3) (by decide +kernel)) rfl, tb2 (List.mem_of_getElem? (i := 169) (by decide +kernel)) rfl, rfl, ⟨by decide +kernel, by decide +kernel, by decide +kernel⟩, by decide +kernel, by decide +kernel⟩, tb2 (List.mem_of_getElem? (i := 167) (by decide +kernel)) rfl, tb2 (List.mem_of_getElem? (i := 168) (by decide +kernel)) rfl, by decide +kernel⟩
theorem kM_X2_tellOrder : Mv M_X2_tellOrder 2 := ⟨⟨tb1 (List.mem_of_getElem? (i := 3) (by decide +kernel)) rfl, tb2 (List.mem_of_getElem? (i := 152) (by decide +kernel)) rfl, rfl, ⟨by decide +kernel, by decide +kernel, by decide +kernel⟩, by decide +kernel, by decide +kernel⟩, tb2 (List.mem_of_getElem? (i := 150) (by decide +kernel)) rfl, tb2 (List.mem_of_getElem? (i := 151) (by decide +kernel)) rfl, by decide +kernel⟩
theorem kM_X2_turnOn : Mv M_X2_turnOn 2 := ⟨⟨tb1 (List.mem_of_getElem? (i := 3) (by decide +kernel)) rfl, tb2 (List.mem_of_getElem? (i := 215) (by decide +kernel)) rfl, rfl, ⟨by decide +kernel, by decide +kernel, by decide +kernel⟩, by decide +kernel, by decide +kernel⟩, tb2 (List.mem_of_getElem? (i := 213) (by decide +kernel)) rfl, tb2 (List.mem_of_getElem? (i := 214) (by decide +kernel)) rfl, by decide +kernel⟩
theorem kM_X2_waitedByAll : Mv M_X2_waitedByAll 0 := ⟨⟨tb1 (List.mem_of_getElem? (i := 3) (by decide +kernel)) rfl, tb3 (List.mem_of_getElem? (i := 106) (by decide +kernel)) rfl, rfl, ⟨by decide +kernel, by decide +kernel, by decide +kernel⟩, by decide +kernel, by decide +kernel⟩, tb3 (List.mem_of_getElem? (i := 104) (by decide +kernel)) rfl, tb3 (List.mem_of_getElem? (i := 105) (by decide +kernel)) rfl, by decide +kernel⟩
theorem kM_X2_waitsOn : Mv M_X2_waitsOn 2 := ⟨⟨tb1 (List.mem_of_getElem? (i := 3) (by decide +kernel)) rfl, tb2 (List.mem_of_getElem? (i := 219) (by decide +kernel)) rfl, rfl, ⟨by decide +kernel, by decide +kernel, by decide +kernel⟩, by decide +kernel, by decide +kernel⟩, tb2 (List.mem_of_getElem? (i := 217) (by decide +kernel)) rfl, tb2 (List.mem_of_getElem? (i := 218) (by decide +kernel)) rfl, by decide +kernel⟩
theorem kM_X3_firstOpenSeat : Mv M_X3_firstOpenSeat 0 := ⟨⟨tb1 (List.mem_of_getElem? (i := 6) (by decide +kernel)) rfl, tb3 (List.mem_of_getElem? (i := 162) (by decide +kernel)) rfl, rfl, ⟨by decide +kernel, by decide +kernel, by decide +kernel⟩, by decide +kernel, by decide +kernel⟩, tb3 (List.mem_of_getElem? (i := 161) (by decide +kernel)) rfl, tbs (q := (⟨"AlphaCourt$Planner", "firstOpenSeat", "()I"⟩, 6)) (List.mem_of_getElem? (i := 29) (by decide +kernel)), by decide +kernel⟩
theorem kM_X3_openSeats : Mv M_X3_openSeats 1 := ⟨⟨tb1 (List.mem_of_getElem? (i := 6) (by decide +kernel)) rfl, tb3 (List.mem_of_getElem? (i := 149) (by decide +kernel)) rfl, rfl, ⟨by decide +kernel, by decide +kernel, by decide +kernel⟩, by decide +kernel, by decide +kernel⟩, tb3 (List.mem_of_getElem? (i := 148) (by decide +kernel)) rfl, tbs (q := (⟨"AlphaCourt$Planner", "openSeats", "(LAlphaCourt$Court;)V"⟩, 6)) (List.mem_of_getElem? (i := 27) (by decide +kernel)), by decide +kernel⟩
theorem kM_X3_plan : Mv M_X3_plan 1 := ⟨⟨tb1 (List.mem_of_getElem? (i := 6) (by decide +kernel)) rfl, tb3 (List.mem_of_getElem? (i := 145) (by decide +kernel)) rfl, rfl, ⟨by decide +kernel, by decide +kernel, by decide +kernel⟩, by decide +kernel, by decide +kernel⟩, tb3 (List.mem_of_getElem? (i := 143) (by decide +kernel)) rfl, tb3 (List.mem_of_getElem? (i := 144) (by decide +kernel)) rfl, by decide +kernel⟩
theorem kM_X3_seatOneByOne : Mv M_X3_seatOneByOne 4 := ⟨⟨tb1 (List.mem_of_getElem? (i := 6) (by decide +kernel)) rfl, tb3 (List.mem_of_getElem? (i := 157) (by decide +kernel)) rfl, rfl, ⟨by decide +kernel, by decide +kernel, by decide +kernel⟩, by decide +kernel, by decide +kernel⟩, tb3 (List.mem_of_getElem? (i := 156) (by decide +kernel)) rfl, tbs (q := (⟨"AlphaCourt$Planner", "seatOneByOne", "(LAlphaCourt$Court;III)V"⟩, 6)) (List.mem_of_getElem? (i := 28) (by decide +kernel)), by decide +kernel⟩
theorem kM_X4_addByte : Mv M_X4_addByte 1 := ⟨⟨tb1 (List.mem_of_getElem? (i := 2) (by decide +kernel)) rfl, tb2 (List.mem_of_getElem? (i := 95) (by decide +kernel)) rfl, rfl, ⟨by decide +kernel, by decide +kernel, by decide +kernel⟩, by decide +kernel, by decide +kernel⟩, tb2 (List.mem_of_getElem? (i := 93) (by decide +kernel)) rfl, tb2 (List.mem_of_getElem? (i := 94) (by decide +kernel)) rfl, by decide +kernel⟩
theorem kM_X4_hasFault : Mv M_X4_hasFault 1 := ⟨⟨tb1 (List.mem_of_getElem? (i := 2) (by decide +kernel)) rfl, tb2 (List.mem_of_getElem? (i := 128) (by decide +kernel)) rfl, rfl, ⟨by decide +kernel, by decide +kernel, by decide +kernel⟩, by decide +kernel, by decide +kernel⟩, tb2 (List.mem_of_getElem? (i := 127) (by decide +kernel)) rfl, tbs (q := (⟨"AlphaCourt$Reader", "hasFault", "(I)Z"⟩, 8)) (List.mem_of_getElem? (i := 6) (by decide +kernel)), by decide +kernel⟩
theorem kM_X4_isFigureAt : Mv M_X4_isFigureAt 1 := ⟨⟨tb1 (List.mem_of_getElem? (i := 2) (by decide +kernel)) rfl, tb2 (List.mem_of_getElem? (i := 116) (by decide +kernel)) rfl, rfl, ⟨by decide +kernel, by decide +kernel, by decide +kernel⟩, by decide +kernel, by decide +kernel⟩, tb2 (List.mem_of_getElem? (i := 115) (by decide +kernel)) rfl, tbs (q := (⟨"AlphaCourt$Reader", "isFigureAt", "(I)Z"⟩, 8)) (List.mem_of_getElem? (i := 3) (by decide +kernel)), by decide +kernel⟩
theorem kM_X4_isLetter : Mv M_X4_isLetter 0 := ⟨⟨tb1 (List.mem_of_getElem? (i := 2) (by decide +kernel)) rfl, tb2 (List.mem_of_getElem? (i := 144) (by decide +kernel)) rfl, rfl, ⟨by decide +kernel, by decide +kernel, by decide +kernel⟩, by decide +kernel, by decide +kernel⟩, tb2 (List.mem_of_getElem? (i := 143) (by decide +kernel)) rfl, tbs (q := (⟨"AlphaCourt$Reader", "isLetter", "()Z"⟩, 8)) (List.mem_of_getElem? (i := 10) (by decide +kernel)), by decide +kernel⟩
theorem kM_X4_isNumberIn : Mv M_X4_isNumberIn 2 := ⟨⟨tb1 (List.mem_of_getElem? (i := 2) (by decide +kernel)) rfl, tb2 (List.mem_of_getElem? (i := 132) (by decide +kernel)) rfl, rfl, ⟨by decide +kernel, by decide +kernel, by decide +kernel⟩, by decide +kernel, by decide +kernel⟩, tb2 (List.mem_of_getElem? (i := 131) (by decide +kernel)) rfl, tbs (q := (⟨"AlphaCourt$Reader", "isNumberIn", "(II)Z"⟩, 8)) (List.mem_of_getElem? (i := 7) (by decide +kernel)), by decide +kernel⟩
theorem kM_X4_letterOfToken : Mv M_X4_letterOfToken 0 := ⟨⟨tb1 (List.mem_of_getElem? (i := 2) (by decide +kernel)) rfl, tb2 (List.mem_of_getElem? (i := 148) (by decide +kernel)) rfl, rfl, ⟨by decide +kernel, by decide +kernel, by decide +kernel⟩, by decide +kernel, by decide +kernel⟩, tb2 (List.mem_of_getElem? (i := 147) (by decide +kernel)) rfl, tbs (q := (⟨"AlphaCourt$Reader", "letterOfToken", "()I"⟩, 8)) (List.mem_of_getElem? (i := 11) (by decide +kernel)), by decide +kernel⟩
theorem kM_X4_passOver : Mv M_X4_passOver 1 := ⟨⟨tb1 (List.mem_of_getElem? (i := 2) (by decide +kernel)) rfl, tb2 (List.mem_of_getElem? (i := 124) (by decide +kernel)) rfl, rfl, ⟨by decide +kernel, by decide +kernel, by decide +kernel⟩, by decide +kernel, by decide +kernel⟩, tb2 (List.mem_of_getElem? (i := 123) (by decide +kernel)) rfl, tbs (q := (⟨"AlphaCourt$Reader", "passOver", "(I)Z"⟩, 8)) (List.mem_of_getElem? (i := 5) (by decide +kernel)), by decide +kernel⟩
theorem kM_X4_readInto : Mv M_X4_readInto 1 := ⟨⟨tb1 (List.mem_of_getElem? (i := 2) (by decide +kernel)) rfl, tb2 (List.mem_of_getElem? (i := 103) (by decide +kernel)) rfl, rfl, ⟨by decide +kernel, by decide +kernel, by decide +kernel⟩, by decide +kernel, by decide +kernel⟩, tb2 (List.mem_of_getElem? (i := 101) (by decide +kernel)) rfl, tb2 (List.mem_of_getElem? (i := 102) (by decide +kernel)) rfl, by decide +kernel⟩
theorem kM_X4_readLaw : Mv M_X4_readLaw 1 := ⟨⟨tb1 (List.mem_of_getElem? (i := 2) (by decide +kernel)) rfl, tb2 (List.mem_of_getElem? (i := 120) (by decide +kernel)) rfl, rfl, ⟨by decide +kernel, by decide +kernel, by decide +kernel⟩, by decide +kernel, by decide +kernel⟩, tb2 (List.mem_of_getElem? (i := 119) (by decide +kernel)) rfl, tbs (q := (⟨"AlphaCourt$Reader", "readLaw", "(LAlphaCourt$Court;)Z"⟩, 8)) (List.mem_of_getElem? (i := 4) (by decide +kernel)), by decide +kernel⟩
theorem kM_X4_readOrder : Mv M_X4_readOrder 1 := ⟨⟨tb1 (List.mem_of_getElem? (i := 2) (by decide +kernel)) rfl, tb2 (List.mem_of_getElem? (i := 140) (by decide +kernel)) rfl, rfl, ⟨by decide +kernel, by decide +kernel, by decide +kernel⟩, by decide +kernel, by decide +kernel⟩, tb2 (List.mem_of_getElem? (i := 139) (by decide +kernel)) rfl, tbs (q := (⟨"AlphaCourt$Reader", "readOrder", "(LAlphaCourt$Court;)Z"⟩, 8)) (List.mem_of_getElem? (i := 9) (by decide +kernel)), by decide +kernel⟩
theorem kM_X4_readPeople : Mv M_X4_readPeople 1 := ⟨⟨tb1 (List.mem_of_getElem? (i := 2) (by decide +kernel)) rfl, tb2 (List.mem_of_getElem? (i := 156) (by decide +kernel)) rfl, rfl, ⟨by decide +kernel, by decide +kernel, by decide +kernel⟩, by decide +kernel, by decide +kernel⟩, tb2 (List.mem_of_getElem? (i := 155) (by decide +kernel)) rfl, tbs (q := (⟨"AlphaCourt$Reader", "readPeople", "(LAlphaCourt$Court;)Z"⟩, 8)) (List.mem_of_getElem? (i := 12) (by decide +kernel)), by decide +kernel⟩
theorem kM_X4_readPerson : Mv M_X4_readPerson 2 := ⟨⟨tb1 (List.mem_of_getElem? (i := 2) (by decide +kernel)) rfl, tb2 (List.mem_of_getElem? (i := 160) (by decide +kernel)) rfl, rfl, ⟨by decide +kernel, by decide +kernel, by decide +kernel⟩, by decide +kernel, by decide +kernel⟩, tb2 (List.mem_of_getElem? (i := 159) (by decide +kernel)) rfl, tbs (q := (⟨"AlphaCourt$Reader", "readPerson", "(LAlphaCourt$Court;I)Z"⟩, 8)) (List.mem_of_getElem? (i := 13) (by decide +kernel)), by decide +kernel⟩
theorem kM_X4_step : Mv M_X4_step 0 := ⟨⟨tb1 (List.mem_of_getElem? (i := 2) (by decide +kernel)) rfl, tb2 (List.mem_of_getElem? (i := 112) (by decide +kernel)) rfl, rfl, ⟨by decide +kernel, by decide +kernel, by decide +kernel⟩, by decide +kernel, by decide +kernel⟩, tb2 (List.mem_of_getElem? (i := 111) (by decide +kernel)) rfl, tbs (q := (⟨"AlphaCourt$Reader", "step", "()V"⟩, 8)) (List.mem_of_getElem? (i := 2) (by decide +kernel)), by decide +kernel⟩
theorem kM_X4_takeNumber : Mv M_X4_takeNumber 0 := ⟨⟨tb1 (List.mem_of_getElem? (i := 2) (by decide +kernel)) rfl, tb2 (List.mem_of_getElem? (i := 136) (by decide +kernel)) rfl, rfl, ⟨by decide +kernel, by decide +kernel, by decide +kernel⟩, by decide +kernel, by decide +kernel⟩, tb2 (List.mem_of_getElem? (i := 135) (by decide +kernel)) rfl, tbs (q := (⟨"AlphaCourt$Reader", "takeNumber", "()I"⟩, 8)) (List.mem_of_getElem? (i := 8) (by decide +kernel)), by decide +kernel⟩
theorem kM_X5_canBeBehind : Mv M_X5_canBeBehind 3 := ⟨⟨tb1 (List.mem_of_getElem? (i := 5) (by decide +kernel)) rfl, tb3 (List.mem_of_getElem? (i := 124) (by decide +kernel)) rfl, rfl, ⟨by decide +kernel, by decide +kernel, by decide +kernel⟩, by decide +kernel, by decide +kernel⟩, tb3 (List.mem_of_getElem? (i := 123) (by decide +kernel)) rfl, tbs (q := (⟨"AlphaCourt$Renaming", "canBeBehind", "(III)Z"⟩, 1)) (List.mem_of_getElem? (i := 25) (by decide +kernel)), by decide +kernel⟩
theorem kM_X5_findFewest : Mv M_X5_findFewest 2 := ⟨⟨tb1 (List.mem_of_getElem? (i := 5) (by decide +kernel)) rfl, tb3 (List.mem_of_getElem? (i := 114) (by decide +kernel)) rfl, rfl, ⟨by decide +kernel, by decide +kernel, by decide +kernel⟩, by decide +kernel, by decide +kernel⟩, tb3 (List.mem_of_getElem? (i := 112) (by decide +kernel)) rfl, tb3 (List.mem_of_getElem? (i := 113) (by decide +kernel)) rfl, by decide +kernel⟩
theorem kM_X5_tryNames : Mv M_X5_tryNames 6 := ⟨⟨tb1 (List.mem_of_getElem? (i := 5) (by decide +kernel)) rfl, tb3 (List.mem_of_getElem? (i := 132) (by decide +kernel)) rfl, rfl, ⟨by decide +kernel, by decide +kernel, by decide +kernel⟩, by decide +kernel, by decide +kernel⟩, tb3 (List.mem_of_getElem? (i := 131) (by decide +kernel)) rfl, tbs (q := (⟨"AlphaCourt$Renaming", "tryNames", "(LAlphaCourt$Court;IIIII)Z"⟩, 1)) (List.mem_of_getElem? (i := 26) (by decide +kernel)), by decide +kernel⟩
theorem kM_X6_begin : Mv M_X6_begin 2 := ⟨⟨tb1 (List.mem_of_getElem? (i := 8) (by decide +kernel)) rfl, tb2 (List.mem_of_getElem? (i := 55) (by decide +kernel)) rfl, rfl, ⟨by decide +kernel, by decide +kernel, by decide +kernel⟩, by decide +kernel, by decide +kernel⟩, tb2 (List.mem_of_getElem? (i := 53) (by decide +kernel)) rfl, tb2 (List.mem_of_getElem? (i := 54) (by decide +kernel)) rfl, by decide +kernel⟩
theorem kM_X6_cut : Mv M_X6_cut 1 := ⟨⟨tb1 (List.mem_of_getElem? (i := 8) (by decide +kernel)) rfl, tb2 (List.mem_of_getElem? (i := 71) (by decide +kernel)) rfl, rfl, ⟨by decide +kernel, by decide +kernel, by decide +kernel⟩, by decide +kernel, by decide +kernel⟩, tb2 (List.mem_of_getElem? (i := 69) (by decide +kernel)) rfl, tb2 (List.mem_of_getElem? (i := 70) (by decide +kernel)) rfl, by decide +kernel⟩
theorem kM_X6_hasRange : Mv M_X6_hasRange 2 := ⟨⟨tb1 (List.mem_of_getElem? (i := 8) (by decide +kernel)) rfl, tb2 (List.mem_of_getElem? (i := 79) (by decide +kernel)) rfl, rfl, ⟨by decide +kernel, by decide +kernel, by decide +kernel⟩, by decide +kernel, by decide +kernel⟩, tb2 (List.mem_of_getElem? (i := 77) (by decide +kernel)) rfl, tb2 (List.mem_of_getElem? (i := 78) (by decide +kernel)) rfl, by decide +kernel⟩
theorem kM_X6_isMissing : Mv M_X6_isMissing 0 := ⟨⟨tb1 (List.mem_of_getElem? (i := 8) (by decide +kernel)) rfl, tb2 (List.mem_of_getElem? (i := 67) (by decide +kernel)) rfl, rfl, ⟨by decide +kernel, by decide +kernel, by decide +kernel⟩, by decide +kernel, by decide +kernel⟩, tb2 (List.mem_of_getElem? (i := 65) (by decide +kernel)) rfl, tb2 (List.mem_of_getElem? (i := 66) (by decide +kernel)) rfl, by decide +kernel⟩
theorem kM_X7_areAllPeople : Mv M_X7_areAllPeople 3 := ⟨⟨tb1 (List.mem_of_getElem? (i := 1) (by decide +kernel)) rfl, tb3 (List.mem_of_getElem? (i := 178) (by decide +kernel)) rfl, rfl, ⟨by decide +kernel, by decide +kernel, by decide +kernel⟩, by decide +kernel, by decide +kernel⟩, tb3 (List.mem_of_getElem? (i := 177) (by decide +kernel)) rfl, tbs (q := (⟨"AlphaCourt", "areAllPeople", "(LAlphaCourt$Row;II)Z"⟩, 11)) (List.mem_of_getElem? (i := 30) (by decide +kernel)), by decide +kernel⟩
theorem kM_X7_areSeatedNext : Mv M_X7_areSeatedNext 4 := ⟨⟨tb1 (List.mem_of_getElem? (i := 1) (by decide +kernel)) rfl, tb3 (List.mem_of_getElem? (i := 182) (by decide +kernel)) rfl, rfl, ⟨by decide +kernel, by decide +kernel, by decide +kernel⟩, by decide +kernel, by decide +kernel⟩, tb3 (List.mem_of_getElem? (i := 181) (by decide +kernel)) rfl, tbs (q := (⟨"AlphaCourt", "areSeatedNext", "(LAlphaCourt$Row;III)Z"⟩, 11)) (List.mem_of_getElem? (i := 31) (by decide +kernel)), by decide +kernel⟩
theorem kM_X7_as : Mv M_X7_as 2 := ⟨⟨tb1 (List.mem_of_getElem? (i := 1) (by decide +kernel)) rfl, tb3 (List.mem_of_getElem? (i := 198) (by decide +kernel)) rfl, rfl, ⟨by decide +kernel, by decide +kernel, by decide +kernel⟩, by decide +kernel, by decide +kernel⟩, tb3 (List.mem_of_getElem? (i := 196) (by decide +kernel)) rfl, tb3 (List.mem_of_getElem? (i := 197) (by decide +kernel)) rfl, by decide +kernel⟩
theorem kM_X7_ask : Mv M_X7_ask 2 := ⟨⟨tb1 (List.mem_of_getElem? (i := 1) (by decide +kernel)) rfl, tb3 (List.mem_of_getElem? (i := 207) (by decide +kernel)) rfl, rfl, ⟨by decide +kernel, by decide +kernel, by decide +kernel⟩, by decide +kernel, by decide +kernel⟩, tb3 (List.mem_of_getElem? (i := 205) (by decide +kernel)) rfl, tb3 (List.mem_of_getElem? (i := 206) (by decide +kernel)) rfl, by decide +kernel⟩
theorem kM_X7_best : Mv M_X7_best 1 := ⟨⟨tb1 (List.mem_of_getElem? (i := 1) (by decide +kernel)) rfl, tb3 (List.mem_of_getElem? (i := 137) (by decide +kernel)) rfl, rfl, ⟨by decide +kernel, by decide +kernel, by decide +kernel⟩, by decide +kernel, by decide +kernel⟩, tb3 (List.mem_of_getElem? (i := 135) (by decide +kernel)) rfl, tb3 (List.mem_of_getElem? (i := 136) (by decide +kernel)) rfl, by decide +kernel⟩
theorem kM_X7_copy : Mv M_X7_copy 5 := ⟨⟨tb1 (List.mem_of_getElem? (i := 1) (by decide +kernel)) rfl, tb2 (List.mem_of_getElem? (i := 75) (by decide +kernel)) rfl, rfl, ⟨by decide +kernel, by decide +kernel, by decide +kernel⟩, by decide +kernel, by decide +kernel⟩, tb2 (List.mem_of_getElem? (i := 73) (by decide +kernel)) rfl, tb2 (List.mem_of_getElem? (i := 74) (by decide +kernel)) rfl, by decide +kernel⟩
theorem kM_X7_count : Mv M_X7_count 1 := ⟨⟨tb1 (List.mem_of_getElem? (i := 1) (by decide +kernel)) rfl, tb3 (List.mem_of_getElem? (i := 231) (by decide +kernel)) rfl, rfl, ⟨by decide +kernel, by decide +kernel, by decide +kernel⟩, by decide +kernel, by decide +kernel⟩, tb3 (List.mem_of_getElem? (i := 229) (by decide +kernel)) rfl, tb3 (List.mem_of_getElem? (i := 230) (by decide +kernel)) rfl, by decide +kernel⟩
theorem kM_X7_court : Mv M_X7_court 0 := ⟨⟨tb1 (List.mem_of_getElem? (i := 1) (by decide +kernel)) rfl, tb2 (List.mem_of_getElem? (i := 99) (by decide +kernel)) rfl, rfl, ⟨by decide +kernel, by decide +kernel, by decide +kernel⟩, by decide +kernel, by decide +kernel⟩, tb2 (List.mem_of_getElem? (i := 97) (by decide +kernel)) rfl, tb2 (List.mem_of_getElem? (i := 98) (by decide +kernel)) rfl, by decide +kernel⟩
theorem kM_X7_days : Mv M_X7_days 1 := ⟨⟨tb1 (List.mem_of_getElem? (i := 1) (by decide +kernel)) rfl, tb2 (List.mem_of_getElem? (i := 182) (by decide +kernel)) rfl, rfl, ⟨by decide +kernel, by decide +kernel, by decide +kernel⟩, by decide +kernel, by decide +kernel⟩, tb2 (List.mem_of_getElem? (i := 180) (by decide +kernel)) rfl, tb2 (List.mem_of_getElem? (i := 181) (by decide +kernel)) rfl, by decide +kernel⟩
theorem kM_X7_drop : Mv M_X7_drop 1 := ⟨⟨tb1 (List.mem_of_getElem? (i := 1) (by decide +kernel)) rfl, tb2 (List.mem_of_getElem? (i := 86) (by decide +kernel)) rfl, rfl, ⟨by decide +kernel, by decide +kernel, by decide +kernel⟩, by decide +kernel, by decide +kernel⟩, tb2 (List.mem_of_getElem? (i := 84) (by decide +kernel)) rfl, tb2 (List.mem_of_getElem? (i := 85) (by decide +kernel)) rfl, by decide +kernel⟩
theorem kM_X7_fault : Mv M_X7_fault 0 := ⟨⟨tb1 (List.mem_of_getElem? (i := 1) (by decide +kernel)) rfl, tb2 (List.mem_of_getElem? (i := 178) (by decide +kernel)) rfl, rfl, ⟨by decide +kernel, by decide +kernel, by decide +kernel⟩, by decide +kernel, by decide +kernel⟩, tb2 (List.mem_of_getElem? (i := 176) (by decide +kernel)) rfl, tb2 (List.mem_of_getElem? (i := 177) (by decide +kernel)) rfl, by decide +kernel⟩
theorem kM_X7_feed : Mv M_X7_feed 1 := ⟨⟨tb1 (List.mem_of_getElem? (i := 1) (by decide +kernel)) rfl, tb2 (List.mem_of_getElem? (i := 90) (by decide +kernel)) rfl, rfl, ⟨by decide +kernel, by decide +kernel, by decide +kernel⟩, by decide +kernel, by decide +kernel⟩, tb2 (List.mem_of_getElem? (i := 88) (by decide +kernel)) rfl, tb2 (List.mem_of_getElem? (i := 89) (by decide +kernel)) rfl, by decide +kernel⟩
theorem kM_X7_foretell : Mv M_X7_foretell 1 := ⟨⟨tb1 (List.mem_of_getElem? (i := 1) (by decide +kernel)) rfl, tb3 (List.mem_of_getElem? (i := 97) (by decide +kernel)) rfl, rfl, ⟨by decide +kernel, by decide +kernel, by decide +kernel⟩, by decide +kernel, by decide +kernel⟩, tb3 (List.mem_of_getElem? (i := 96) (by decide +kernel)) rfl, tbs (q := (⟨"AlphaCourt", "foretell", "(I)LAlphaCourt$Court;"⟩, 11)) (List.mem_of_getElem? (i := 24) (by decide +kernel)), by decide +kernel⟩
theorem kM_X7_forge : Mv M_X7_forge 3 := ⟨⟨tb1 (List.mem_of_getElem? (i := 1) (by decide +kernel)) rfl, tb3 (List.mem_of_getElem? (i := 29) (by decide +kernel)) rfl, rfl, ⟨by decide +kernel, by decide +kernel, by decide +kernel⟩, by decide +kernel, by decide +kernel⟩, tb3 (List.mem_of_getElem? (i := 27) (by decide +kernel)) rfl, tb3 (List.mem_of_getElem? (i := 28) (by decide +kernel)) rfl, by decide +kernel⟩
theorem kM_X7_found : Mv M_X7_found 1 := ⟨⟨tb1 (List.mem_of_getElem? (i := 1) (by decide +kernel)) rfl, tb2 (List.mem_of_getElem? (i := 50) (by decide +kernel)) rfl, rfl, ⟨by decide +kernel, by decide +kernel, by decide +kernel⟩, by decide +kernel, by decide +kernel⟩, tb2 (List.mem_of_getElem? (i := 49) (by decide +kernel)) rfl, tbs (q := (⟨"AlphaCourt", "found", "(I)I"⟩, 11)) (List.mem_of_getElem? (i := 0) (by decide +kernel)), by decide +kernel⟩
theorem kM_X7_frees : Mv M_X7_frees 1 := ⟨⟨tb1 (List.mem_of_getElem? (i := 1) (by decide +kernel)) rfl, tb3 (List.mem_of_getElem? (i := 166) (by decide +kernel)) rfl, rfl, ⟨by decide +kernel, by decide +kernel, by decide +kernel⟩, by decide +kernel, by decide +kernel⟩, tb3 (List.mem_of_getElem? (i := 164) (by decide +kernel)) rfl, tb3 (List.mem_of_getElem? (i := 165) (by decide +kernel)) rfl, by decide +kernel⟩
theorem kM_X7_howManyRows : Mv M_X7_howManyRows 0 := ⟨⟨tb1 (List.mem_of_getElem? (i := 1) (by decide +kernel)) rfl, tb3 (List.mem_of_getElem? (i := 235) (by decide +kernel)) rfl, rfl, ⟨by decide +kernel, by decide +kernel, by decide +kernel⟩, by decide +kernel, by decide +kernel⟩, tb3 (List.mem_of_getElem? (i := 234) (by decide +kernel)) rfl, tbs (q := (⟨"AlphaCourt", "howManyRows", "()I"⟩, 11)) (List.mem_of_getElem? (i := 34) (by decide +kernel)), by decide +kernel⟩
theorem kM_X7_image : Mv M_X7_image 1 := ⟨⟨tb1 (List.mem_of_getElem? (i := 1) (by decide +kernel)) rfl, tb3 (List.mem_of_getElem? (i := 186) (by decide +kernel)) rfl, rfl, ⟨by decide +kernel, by decide +kernel, by decide +kernel⟩, by decide +kernel, by decide +kernel⟩, tb3 (List.mem_of_getElem? (i := 184) (by decide +kernel)) rfl, tb3 (List.mem_of_getElem? (i := 185) (by decide +kernel)) rfl, by decide +kernel⟩
theorem kM_X7_isIn : Ms M_X7_isIn 2 := ⟨⟨tb1 (List.mem_of_getElem? (i := 1) (by decide +kernel)) rfl, tb2 (List.mem_of_getElem? (i := 45) (by decide +kernel)) rfl, rfl, ⟨by decide +kernel, by decide +kernel, by decide +kernel⟩, by decide +kernel, by decide +kernel⟩, tb2 (List.mem_of_getElem? (i := 44) (by decide +kernel)) rfl, by decide +kernel⟩
theorem kM_X7_isOfKind : Ms M_X7_isOfKind 2 := ⟨⟨tb1 (List.mem_of_getElem? (i := 1) (by decide +kernel)) rfl, tb3 (List.mem_of_getElem? (i := 201) (by decide +kernel)) rfl, rfl, ⟨by decide +kernel, by decide +kernel, by decide +kernel⟩, by decide +kernel, by decide +kernel⟩, tb3 (List.mem_of_getElem? (i := 200) (by decide +kernel)) rfl, by decide +kernel⟩
theorem kM_X7_isPerson : Mv M_X7_isPerson 1 := ⟨⟨tb1 (List.mem_of_getElem? (i := 1) (by decide +kernel)) rfl, tb3 (List.mem_of_getElem? (i := 37) (by decide +kernel)) rfl, rfl, ⟨by decide +kernel, by decide +kernel, by decide +kernel⟩, by decide +kernel, by decide +kernel⟩, tb3 (List.mem_of_getElem? (i := 36) (by decide +kernel)) rfl, tbs (q := (⟨"AlphaCourt", "isPerson", "(I)Z"⟩, 11)) (List.mem_of_getElem? (i := 23) (by decide +kernel)), by decide +kernel⟩
theorem kM_X7_isPlaceOfName : Mv M_X7_isPlaceOfName 2 := ⟨⟨tb1 (List.mem_of_getElem? (i := 1) (by decide +kernel)) rfl, tb3 (List.mem_of_getElem? (i := 33) (by decide +kernel)) rfl, rfl, ⟨by decide +kernel, by decide +kernel, by decide +kernel⟩, by decide +kernel, by decide +kernel⟩, tb3 (List.mem_of_getElem? (i := 32) (by decide +kernel)) rfl, tbs (q := (⟨"AlphaCourt", "isPlaceOfName", "(II)Z"⟩, 11)) (List.mem_of_getElem? (i := 22) (by decide +kernel)), by decide +kernel⟩
theorem kM_X7_kind : Mv M_X7_kind 1 := ⟨⟨tb1 (List.mem_of_getElem? (i := 1) (by decide +kernel)) rfl, tb3 (List.mem_of_getElem? (i := 194) (by decide +kernel)) rfl, rfl, ⟨by decide +kernel, by decide +kernel, by decide +kernel⟩, by decide +kernel, by decide +kernel⟩, tb3 (List.mem_of_getElem? (i := 192) (by decide +kernel)) rfl, tb3 (List.mem_of_getElem? (i := 193) (by decide +kernel)) rfl, by decide +kernel⟩
theorem kM_X7_last : Mv M_X7_last 2 := ⟨⟨tb1 (List.mem_of_getElem? (i := 1) (by decide +kernel)) rfl, tb3 (List.mem_of_getElem? (i := 110) (by decide +kernel)) rfl, rfl, ⟨by decide +kernel, by decide +kernel, by decide +kernel⟩, by decide +kernel, by decide +kernel⟩, tb3 (List.mem_of_getElem? (i := 108) (by decide +kernel)) rfl, tb3 (List.mem_of_getElem? (i := 109) (by decide +kernel)) rfl, by decide +kernel⟩
theorem kM_X7_ledger : Mv M_X7_ledger 3 := ⟨⟨tb1 (List.mem_of_getElem? (i := 1) (by decide +kernel)) rfl, tb3 (List.mem_of_getElem? (i := 174) (by decide +kernel)) rfl, rfl, ⟨by decide +kernel, by decide +kernel, by decide +kernel⟩, by decide +kernel, by decide +kernel⟩, tb3 (List.mem_of_getElem? (i := 172) (by decide +kernel)) rfl, tb3 (List.mem_of_getElem? (i := 173) (by decide +kernel)) rfl, by decide +kernel⟩
theorem kM_X7_lose : Mv M_X7_lose 2 := ⟨⟨tb1 (List.mem_of_getElem? (i := 1) (by decide +kernel)) rfl, tb3 (List.mem_of_getElem? (i := 48) (by decide +kernel)) rfl, rfl, ⟨by decide +kernel, by decide +kernel, by decide +kernel⟩, by decide +kernel, by decide +kernel⟩, tb3 (List.mem_of_getElem? (i := 46) (by decide +kernel)) rfl, tb3 (List.mem_of_getElem? (i := 47) (by decide +kernel)) rfl, by decide +kernel⟩
theorem kM_X7_name : Mv M_X7_name 2 := ⟨⟨tb1 (List.mem_of_getElem? (i := 1) (by decide +kernel)) rfl, tb3 (List.mem_of_getElem? (i := 80) (by decide +kernel)) rfl, rfl, ⟨by decide +kernel, by decide +kernel, by decide +kernel⟩, by decide +kernel, by decide +kernel⟩, tb3 (List.mem_of_getElem? (i := 78) (by decide +kernel)) rfl, tb3 (List.mem_of_getElem? (i := 79) (by decide +kernel)) rfl, by decide +kernel⟩
theorem kM_X7_order : Mv M_X7_order 1 := ⟨⟨tb1 (List.mem_of_getElem? (i := 1) (by decide +kernel)) rfl, tb3 (List.mem_of_getElem? (i := 84) (by decide +kernel)) rfl, rfl, ⟨by decide +kernel, by decide +kernel, by decide +kernel⟩, by decide +kernel, by decide +kernel⟩, tb3 (List.mem_of_getElem? (i := 82) (by decide +kernel)) rfl, tb3 (List.mem_of_getElem? (i := 83) (by decide +kernel)) rfl, by decide +kernel⟩
theorem kM_X7_person : Mv M_X7_person 2 := ⟨⟨tb1 (List.mem_of_getElem? (i := 1) (by decide +kernel)) rfl, tb3 (List.mem_of_getElem? (i := 69) (by decide +kernel)) rfl, rfl, ⟨by decide +kernel, by decide +kernel, by decide +kernel⟩, by decide +kernel, by decide +kernel⟩, tb3 (List.mem_of_getElem? (i := 67) (by decide +kernel)) rfl, tb3 (List.mem_of_getElem? (i := 68) (by decide +kernel)) rfl, by decide +kernel⟩
theorem kM_X7_restore : Mv M_X7_restore 1 := ⟨⟨tb1 (List.mem_of_getElem? (i := 1) (by decide +kernel)) rfl, tb3 (List.mem_of_getElem? (i := 190) (by decide +kernel)) rfl, rfl, ⟨by decide +kernel, by decide +kernel, by decide +kernel⟩, by decide +kernel, by decide +kernel⟩, tb3 (List.mem_of_getElem? (i := 188) (by decide +kernel)) rfl, tb3 (List.mem_of_getElem? (i := 189) (by decide +kernel)) rfl, by decide +kernel⟩
theorem kM_X7_row : Mv M_X7_row 3 := ⟨⟨tb1 (List.mem_of_getElem? (i := 1) (by decide +kernel)) rfl, tb2 (List.mem_of_getElem? (i := 42) (by decide +kernel)) rfl, rfl, ⟨by decide +kernel, by decide +kernel, by decide +kernel⟩, by decide +kernel, by decide +kernel⟩, tb2 (List.mem_of_getElem? (i := 40) (by decide +kernel)) rfl, tb2 (List.mem_of_getElem? (i := 41) (by decide +kernel)) rfl, by decide +kernel⟩
theorem kM_X7_set : Mv M_X7_set 3 := ⟨⟨tb1 (List.mem_of_getElem? (i := 1) (by decide +kernel)) rfl, tb2 (List.mem_of_getElem? (i := 63) (by decide +kernel)) rfl, rfl, ⟨by decide +kernel, by decide +kernel, by decide +kernel⟩, by decide +kernel, by decide +kernel⟩, tb2 (List.mem_of_getElem? (i := 61) (by decide +kernel)) rfl, tb2 (List.mem_of_getElem? (i := 62) (by decide +kernel)) rfl, by decide +kernel⟩
theorem kM_X7_status : Mv M_X7_status 0 := ⟨⟨tb1 (List.mem_of_getElem? (i := 1) (by decide +kernel)) rfl, tb3 (List.mem_of_getElem? (i := 239) (by decide +kernel)) rfl, rfl, ⟨by decide +kernel, by decide +kernel, by decide +kernel⟩, by decide +kernel, by decide +kernel⟩, tb3 (List.mem_of_getElem? (i := 237) (by decide +kernel)) rfl, tb3 (List.mem_of_getElem? (i := 238) (by decide +kernel)) rfl, by decide +kernel⟩
theorem kM_X7_trace : Mv M_X7_trace 1 := ⟨⟨tb1 (List.mem_of_getElem? (i := 1) (by decide +kernel)) rfl, tb3 (List.mem_of_getElem? (i := 227) (by decide +kernel)) rfl, rfl, ⟨by decide +kernel, by decide +kernel, by decide +kernel⟩, by decide +kernel, by decide +kernel⟩, tb3 (List.mem_of_getElem? (i := 225) (by decide +kernel)) rfl, tb3 (List.mem_of_getElem? (i := 226) (by decide +kernel)) rfl, by decide +kernel⟩
theorem kM_X7_undo : Mv M_X7_undo 0 := ⟨⟨tb1 (List.mem_of_getElem? (i := 1) (by decide +kernel)) rfl, tb3 (List.mem_of_getElem? (i := 56) (by decide +kernel)) rfl, rfl, ⟨by decide +kernel, by decide +kernel, by decide +kernel⟩, by decide +kernel, by decide +kernel⟩, tb3 (List.mem_of_getElem? (i := 54) (by decide +kernel)) rfl, tb3 (List.mem_of_getElem? (i := 55) (by decide +kernel)) rfl, by decide +kernel⟩
theorem kM_X7_unfound : Mv M_X7_unfound 1 := ⟨⟨tb1 (List.mem_of_getElem? (i := 1) (by decide +kernel)) rfl, tb2 (List.mem_of_getElem? (i := 59) (by decide +kernel)) rfl, rfl, ⟨by decide +kernel, by decide +kernel, by decide +kernel⟩, by decide +kernel, by decide +kernel⟩, tb2 (List.mem_of_getElem? (i := 58) (by decide +kernel)) rfl, tbs (q := (⟨"AlphaCourt", "unfound", "(I)I"⟩, 11)) (List.mem_of_getElem? (i := 1) (by decide +kernel)), by decide +kernel⟩
theorem kM_X7_waited : Mv M_X7_waited 0 := ⟨⟨tb1 (List.mem_of_getElem? (i := 1) (by decide +kernel)) rfl, tb3 (List.mem_of_getElem? (i := 102) (by decide +kernel)) rfl, rfl, ⟨by decide +kernel, by decide +kernel, by decide +kernel⟩, by decide +kernel, by decide +kernel⟩, tb3 (List.mem_of_getElem? (i := 100) (by decide +kernel)) rfl, tb3 (List.mem_of_getElem? (i := 101) (by decide +kernel)) rfl, by decide +kernel⟩
theorem kM_X7_warden : Mv M_X7_warden 1 := ⟨⟨tb1 (List.mem_of_getElem? (i := 1) (by decide +kernel)) rfl, tb3 (List.mem_of_getElem? (i := 141) (by decide +kernel)) rfl, rfl, ⟨by decide +kernel, by decide +kernel, by decide +kernel⟩, by decide +kernel, by decide +kernel⟩, tb3 (List.mem_of_getElem? (i := 139) (by decide +kernel)) rfl, tb3 (List.mem_of_getElem? (i := 140) (by decide +kernel)) rfl, by decide +kernel⟩
theorem kM_X7_when : Mv M_X7_when 2 := ⟨⟨tb1 (List.mem_of_getElem? (i := 1) (by decide +kernel)) rfl, tb3 (List.mem_of_getElem? (i := 93) (by decide +kernel)) rfl, rfl, ⟨by decide +kernel, by decide +kernel, by decide +kernel⟩, by decide +kernel, by decide +kernel⟩, tb3 (List.mem_of_getElem? (i := 91) (by decide +kernel)) rfl, tb3 (List.mem_of_getElem? (i := 92) (by decide +kernel)) rfl, by decide +kernel⟩
theorem kM_X8_advances : Mv M_X8_advances 0 := ⟨⟨tb1 (List.mem_of_getElem? (i := 9) (by decide +kernel)) rfl, tb4 (List.mem_of_getElem? (i := 145) (by decide +kernel)) rfl, rfl, ⟨by decide +kernel, by decide +kernel, by decide +kernel⟩, by decide +kernel, by decide +kernel⟩, tb4 (List.mem_of_getElem? (i := 144) (by decide +kernel)) rfl, tbs (q := (⟨"AlphaCourtModel", "advances", "()V"⟩, 27)) (List.mem_of_getElem? (i := 39) (by decide +kernel)), by decide +kernel⟩
theorem kM_X8_ages : Ms M_X8_ages 1 := ⟨⟨tb1 (List.mem_of_getElem? (i := 9) (by decide +kernel)) rfl, tb4 (List.mem_of_getElem? (i := 211) (by decide +kernel)) rfl, rfl, ⟨by decide +kernel, by decide +kernel, by decide +kernel⟩, by decide +kernel, by decide +kernel⟩, tb4 (List.mem_of_getElem? (i := 210) (by decide +kernel)) rfl, by decide +kernel⟩
theorem kM_X8_as : Mv M_X8_as 2 := ⟨⟨tb1 (List.mem_of_getElem? (i := 9) (by decide +kernel)) rfl, tb5 (List.mem_of_getElem? (i := 113) (by decide +kernel)) rfl, rfl, ⟨by decide +kernel, by decide +kernel, by decide +kernel⟩, by decide +kernel, by decide +kernel⟩, tb5 (List.mem_of_getElem? (i := 111) (by decide +kernel)) rfl, tb5 (List.mem_of_getElem? (i := 112) (by decide +kernel)) rfl, by decide +kernel⟩
theorem kM_X8_ask : Mv M_X8_ask 2 := ⟨⟨tb1 (List.mem_of_getElem? (i := 9) (by decide +kernel)) rfl, tb5 (List.mem_of_getElem? (i := 117) (by decide +kernel)) rfl, rfl, ⟨by decide +kernel, by decide +kernel, by decide +kernel⟩, by decide +kernel, by decide +kernel⟩, tb5 (List.mem_of_getElem? (i := 115) (by decide +kernel)) rfl, tb5 (List.mem_of_getElem? (i := 116) (by decide +kernel)) rfl, by decide +kernel⟩
theorem kM_X8_beforeIt : Mv M_X8_beforeIt 1 := ⟨⟨tb1 (List.mem_of_getElem? (i := 9) (by decide +kernel)) rfl, tb5 (List.mem_of_getElem? (i := 29) (by decide +kernel)) rfl, rfl, ⟨by decide +kernel, by decide +kernel, by decide +kernel⟩, by decide +kernel, by decide +kernel⟩, tb5 (List.mem_of_getElem? (i := 28) (by decide +kernel)) rfl, tbs (q := (⟨"AlphaCourtModel", "beforeIt", "(I)I"⟩, 27)) (List.mem_of_getElem? (i := 53) (by decide +kernel)), by decide +kernel⟩
theorem kM_X8_begins : Mv M_X8_begins 1 := ⟨⟨tb1 (List.mem_of_getElem? (i := 9) (by decide +kernel)) rfl, tb5 (List.mem_of_getElem? (i := 125) (by decide +kernel)) rfl, rfl, ⟨by decide +kernel, by decide +kernel, by decide +kernel⟩, by decide +kernel, by decide +kernel⟩, tb5 (List.mem_of_getElem? (i := 124) (by decide +kernel)) rfl, tbs (q := (⟨"AlphaCourtModel", "begins", "(I)V"⟩, 27)) (List.mem_of_getElem? (i := 62) (by decide +kernel)), by decide +kernel⟩
theorem kM_X8_best : Mv M_X8_best 1 := ⟨⟨tb1 (List.mem_of_getElem? (i := 9) (by decide +kernel)) rfl, tb5 (List.mem_of_getElem? (i := 72) (by decide +kernel)) rfl, rfl, ⟨by decide +kernel, by decide +kernel, by decide +kernel⟩, by decide +kernel, by decide +kernel⟩, tb5 (List.mem_of_getElem? (i := 70) (by decide +kernel)) rfl, tb5 (List.mem_of_getElem? (i := 71) (by decide +kernel)) rfl, by decide +kernel⟩
theorem kM_X8_byteAt : Mv M_X8_byteAt 1 := ⟨⟨tb1 (List.mem_of_getElem? (i := 9) (by decide +kernel)) rfl, tb4 (List.mem_of_getElem? (i := 149) (by decide +kernel)) rfl, rfl, ⟨by decide +kernel, by decide +kernel, by decide +kernel⟩, by decide +kernel, by decide +kernel⟩, tb4 (List.mem_of_getElem? (i := 148) (by decide +kernel)) rfl, tbs (q := (⟨"AlphaCourtModel", "byteAt", "(I)I"⟩, 27)) (List.mem_of_getElem? (i := 40) (by decide +kernel)), by decide +kernel⟩
theorem kM_X8_classOf : Ms M_X8_classOf 2 := ⟨⟨tb1 (List.mem_of_getElem? (i := 9) (by decide +kernel)) rfl, tb4 (List.mem_of_getElem? (i := 229) (by decide +kernel)) rfl, rfl, ⟨by decide +kernel, by decide +kernel, by decide +kernel⟩, by decide +kernel, by decide +kernel⟩, tb4 (List.mem_of_getElem? (i := 228) (by decide +kernel)) rfl, by decide +kernel⟩
theorem kM_X8_copies : Ms M_X8_copies 4 := ⟨⟨tb1 (List.mem_of_getElem? (i := 9) (by decide +kernel)) rfl, tb4 (List.mem_of_getElem? (i := 187) (by decide +kernel)) rfl, rfl, ⟨by decide +kernel, by decide +kernel, by decide +kernel⟩, by decide +kernel, by decide +kernel⟩, tb4 (List.mem_of_getElem? (i := 186) (by decide +kernel)) rfl, by decide +kernel⟩
theorem kM_X8_copy : Mv M_X8_copy 5 := ⟨⟨tb1 (List.mem_of_getElem? (i := 9) (by decide +kernel)) rfl, tb4 (List.mem_of_getElem? (i := 124) (by decide +kernel)) rfl, rfl, ⟨by decide +kernel, by decide +kernel, by decide +kernel⟩, by decide +kernel, by decide +kernel⟩, tb4 (List.mem_of_getElem? (i := 122) (by decide +kernel)) rfl, tb4 (List.mem_of_getElem? (i := 123) (by decide +kernel)) rfl, by decide +kernel⟩
theorem kM_X8_count : Mv M_X8_count 1 := ⟨⟨tb1 (List.mem_of_getElem? (i := 9) (by decide +kernel)) rfl, tb5 (List.mem_of_getElem? (i := 145) (by decide +kernel)) rfl, rfl, ⟨by decide +kernel, by decide +kernel, by decide +kernel⟩, by decide +kernel, by decide +kernel⟩, tb5 (List.mem_of_getElem? (i := 143) (by decide +kernel)) rfl, tb5 (List.mem_of_getElem? (i := 144) (by decide +kernel)) rfl, by decide +kernel⟩
theorem kM_X8_court : Mv M_X8_court 0 := ⟨⟨tb1 (List.mem_of_getElem? (i := 9) (by decide +kernel)) rfl, tb4 (List.mem_of_getElem? (i := 141) (by decide +kernel)) rfl, rfl, ⟨by decide +kernel, by decide +kernel, by decide +kernel⟩, by decide +kernel, by decide +kernel⟩, tb4 (List.mem_of_getElem? (i := 139) (by decide +kernel)) rfl, tb4 (List.mem_of_getElem? (i := 140) (by decide +kernel)) rfl, by decide +kernel⟩
theorem kM_X8_cut : Ms M_X8_cut 2 := ⟨⟨tb1 (List.mem_of_getElem? (i := 9) (by decide +kernel)) rfl, tb4 (List.mem_of_getElem? (i := 120) (by decide +kernel)) rfl, rfl, ⟨by decide +kernel, by decide +kernel, by decide +kernel⟩, by decide +kernel, by decide +kernel⟩, tb4 (List.mem_of_getElem? (i := 119) (by decide +kernel)) rfl, by decide +kernel⟩
theorem kM_X8_days : Mv M_X8_days 1 := ⟨⟨tb1 (List.mem_of_getElem? (i := 9) (by decide +kernel)) rfl, tb4 (List.mem_of_getElem? (i := 195) (by decide +kernel)) rfl, rfl, ⟨by decide +kernel, by decide +kernel, by decide +kernel⟩, by decide +kernel, by decide +kernel⟩, tb4 (List.mem_of_getElem? (i := 193) (by decide +kernel)) rfl, tb4 (List.mem_of_getElem? (i := 194) (by decide +kernel)) rfl, by decide +kernel⟩
theorem kM_X8_drop : Mv M_X8_drop 1 := ⟨⟨tb1 (List.mem_of_getElem? (i := 9) (by decide +kernel)) rfl, tb4 (List.mem_of_getElem? (i := 132) (by decide +kernel)) rfl, rfl, ⟨by decide +kernel, by decide +kernel, by decide +kernel⟩, by decide +kernel, by decide +kernel⟩, tb4 (List.mem_of_getElem? (i := 130) (by decide +kernel)) rfl, tb4 (List.mem_of_getElem? (i := 131) (by decide +kernel)) rfl, by decide +kernel⟩
theorem kM_X8_fault : Mv M_X8_fault 0 := ⟨⟨tb1 (List.mem_of_getElem? (i := 9) (by decide +kernel)) rfl, tb4 (List.mem_of_getElem? (i := 191) (by decide +kernel)) rfl, rfl, ⟨by decide +kernel, by decide +kernel, by decide +kernel⟩, by decide +kernel, by decide +kernel⟩, tb4 (List.mem_of_getElem? (i := 189) (by decide +kernel)) rfl, tb4 (List.mem_of_getElem? (i := 190) (by decide +kernel)) rfl, by decide +kernel⟩
theorem kM_X8_feed : Mv M_X8_feed 1 := ⟨⟨tb1 (List.mem_of_getElem? (i := 9) (by decide +kernel)) rfl, tb4 (List.mem_of_getElem? (i := 136) (by decide +kernel)) rfl, rfl, ⟨by decide +kernel, by decide +kernel, by decide +kernel⟩, by decide +kernel, by decide +kernel⟩, tb4 (List.mem_of_getElem? (i := 134) (by decide +kernel)) rfl, tb4 (List.mem_of_getElem? (i := 135) (by decide +kernel)) rfl, by decide +kernel⟩
theorem kM_X8_figure : Mv M_X8_figure 2 := ⟨⟨tb1 (List.mem_of_getElem? (i := 9) (by decide +kernel)) rfl, tb4 (List.mem_of_getElem? (i := 161) (by decide +kernel)) rfl, rfl, ⟨by decide +kernel, by decide +kernel, by decide +kernel⟩, by decide +kernel, by decide +kernel⟩, tb4 (List.mem_of_getElem? (i := 160) (by decide +kernel)) rfl, tbs (q := (⟨"AlphaCourtModel", "figure", "(II)I"⟩, 27)) (List.mem_of_getElem? (i := 43) (by decide +kernel)), by decide +kernel⟩
theorem kM_X8_forge : Mv M_X8_forge 3 := ⟨⟨tb1 (List.mem_of_getElem? (i := 9) (by decide +kernel)) rfl, tb5 (List.mem_of_getElem? (i := 5) (by decide +kernel)) rfl, rfl, ⟨by decide +kernel, by decide +kernel, by decide +kernel⟩, by decide +kernel, by decide +kernel⟩, tb5 (List.mem_of_getElem? (i := 3) (by decide +kernel)) rfl, tb5 (List.mem_of_getElem? (i := 4) (by decide +kernel)) rfl, by decide +kernel⟩
theorem kM_X8_found : Mv M_X8_found 1 := ⟨⟨tb1 (List.mem_of_getElem? (i := 9) (by decide +kernel)) rfl, tb4 (List.mem_of_getElem? (i := 104) (by decide +kernel)) rfl, rfl, ⟨by decide +kernel, by decide +kernel, by decide +kernel⟩, by decide +kernel, by decide +kernel⟩, tb4 (List.mem_of_getElem? (i := 103) (by decide +kernel)) rfl, tbs (q := (⟨"AlphaCourtModel", "found", "(I)I"⟩, 27)) (List.mem_of_getElem? (i := 35) (by decide +kernel)), by decide +kernel⟩
theorem kM_X8_frees : Mv M_X8_frees 1 := ⟨⟨tb1 (List.mem_of_getElem? (i := 9) (by decide +kernel)) rfl, tb5 (List.mem_of_getElem? (i := 89) (by decide +kernel)) rfl, rfl, ⟨by decide +kernel, by decide +kernel, by decide +kernel⟩, by decide +kernel, by decide +kernel⟩, tb5 (List.mem_of_getElem? (i := 87) (by decide +kernel)) rfl, tb5 (List.mem_of_getElem? (i := 88) (by decide +kernel)) rfl, by decide +kernel⟩
theorem kM_X8_goes : Mv M_X8_goes 1 := ⟨⟨tb1 (List.mem_of_getElem? (i := 9) (by decide +kernel)) rfl, tb5 (List.mem_of_getElem? (i := 45) (by decide +kernel)) rfl, rfl, ⟨by decide +kernel, by decide +kernel, by decide +kernel⟩, by decide +kernel, by decide +kernel⟩, tb5 (List.mem_of_getElem? (i := 44) (by decide +kernel)) rfl, tbs (q := (⟨"AlphaCourtModel", "goes", "(I)V"⟩, 27)) (List.mem_of_getElem? (i := 54) (by decide +kernel)), by decide +kernel⟩
theorem kM_X8_has : Ms M_X8_has 2 := ⟨⟨tb1 (List.mem_of_getElem? (i := 9) (by decide +kernel)) rfl, tb4 (List.mem_of_getElem? (i := 172) (by decide +kernel)) rfl, rfl, ⟨by decide +kernel, by decide +kernel, by decide +kernel⟩, by decide +kernel, by decide +kernel⟩, tb4 (List.mem_of_getElem? (i := 171) (by decide +kernel)) rfl, by decide +kernel⟩
theorem kM_X8_image : Mv M_X8_image 1 := ⟨⟨tb1 (List.mem_of_getElem? (i := 9) (by decide +kernel)) rfl, tb5 (List.mem_of_getElem? (i := 101) (by decide +kernel)) rfl, rfl, ⟨by decide +kernel, by decide +kernel, by decide +kernel⟩, by decide +kernel, by decide +kernel⟩, tb5 (List.mem_of_getElem? (i := 99) (by decide +kernel)) rfl, tb5 (List.mem_of_getElem? (i := 100) (by decide +kernel)) rfl, by decide +kernel⟩
theorem kM_X8_in : Ms M_X8_in 3 := ⟨⟨tb1 (List.mem_of_getElem? (i := 9) (by decide +kernel)) rfl, tb4 (List.mem_of_getElem? (i := 99) (by decide +kernel)) rfl, rfl, ⟨by decide +kernel, by decide +kernel, by decide +kernel⟩, by decide +kernel, by decide +kernel⟩, tb4 (List.mem_of_getElem? (i := 98) (by decide +kernel)) rfl, by decide +kernel⟩
theorem kM_X8_isBefore : Ms M_X8_isBefore 4 := ⟨⟨tb1 (List.mem_of_getElem? (i := 9) (by decide +kernel)) rfl, tb4 (List.mem_of_getElem? (i := 226) (by decide +kernel)) rfl, rfl, ⟨by decide +kernel, by decide +kernel, by decide +kernel⟩, by decide +kernel, by decide +kernel⟩, tb4 (List.mem_of_getElem? (i := 225) (by decide +kernel)) rfl, by decide +kernel⟩
theorem kM_X8_isCourt : Mv M_X8_isCourt 0 := ⟨⟨tb1 (List.mem_of_getElem? (i := 9) (by decide +kernel)) rfl, tb4 (List.mem_of_getElem? (i := 199) (by decide +kernel)) rfl, rfl, ⟨by decide +kernel, by decide +kernel, by decide +kernel⟩, by decide +kernel, by decide +kernel⟩, tb4 (List.mem_of_getElem? (i := 198) (by decide +kernel)) rfl, tbs (q := (⟨"AlphaCourtModel", "isCourt", "()Z"⟩, 27)) (List.mem_of_getElem? (i := 48) (by decide +kernel)), by decide +kernel⟩
theorem kM_X8_isLast : Mv M_X8_isLast 2 := ⟨⟨tb1 (List.mem_of_getElem? (i := 9) (by decide +kernel)) rfl, tb5 (List.mem_of_getElem? (i := 68) (by decide +kernel)) rfl, rfl, ⟨by decide +kernel, by decide +kernel, by decide +kernel⟩, by decide +kernel, by decide +kernel⟩, tb5 (List.mem_of_getElem? (i := 67) (by decide +kernel)) rfl, tbs (q := (⟨"AlphaCourtModel", "isLast", "([II)Z"⟩, 27)) (List.mem_of_getElem? (i := 57) (by decide +kernel)), by decide +kernel⟩
theorem kM_X8_isLost : Ms M_X8_isLost 2 := ⟨⟨tb1 (List.mem_of_getElem? (i := 9) (by decide +kernel)) rfl, tb4 (List.mem_of_getElem? (i := 223) (by decide +kernel)) rfl, rfl, ⟨by decide +kernel, by decide +kernel, by decide +kernel⟩, by decide +kernel, by decide +kernel⟩, tb4 (List.mem_of_getElem? (i := 222) (by decide +kernel)) rfl, by decide +kernel⟩
theorem kM_X8_isMissing : Mv M_X8_isMissing 1 := ⟨⟨tb1 (List.mem_of_getElem? (i := 9) (by decide +kernel)) rfl, tb4 (List.mem_of_getElem? (i := 117) (by decide +kernel)) rfl, rfl, ⟨by decide +kernel, by decide +kernel, by decide +kernel⟩, by decide +kernel, by decide +kernel⟩, tb4 (List.mem_of_getElem? (i := 116) (by decide +kernel)) rfl, tbs (q := (⟨"AlphaCourtModel", "isMissing", "(I)Z"⟩, 27)) (List.mem_of_getElem? (i := 37) (by decide +kernel)), by decide +kernel⟩
theorem kM_X8_isName : Mv M_X8_isName 0 := ⟨⟨tb1 (List.mem_of_getElem? (i := 9) (by decide +kernel)) rfl, tb4 (List.mem_of_getElem? (i := 169) (by decide +kernel)) rfl, rfl, ⟨by decide +kernel, by decide +kernel, by decide +kernel⟩, by decide +kernel, by decide +kernel⟩, tb4 (List.mem_of_getElem? (i := 168) (by decide +kernel)) rfl, tbs (q := (⟨"AlphaCourtModel", "isName", "()Z"⟩, 27)) (List.mem_of_getElem? (i := 45) (by decide +kernel)), by decide +kernel⟩
theorem kM_X8_isPart : Mv M_X8_isPart 3 := ⟨⟨tb1 (List.mem_of_getElem? (i := 9) (by decide +kernel)) rfl, tb4 (List.mem_of_getElem? (i := 128) (by decide +kernel)) rfl, rfl, ⟨by decide +kernel, by decide +kernel, by decide +kernel⟩, by decide +kernel, by decide +kernel⟩, tb4 (List.mem_of_getElem? (i := 127) (by decide +kernel)) rfl, tbs (q := (⟨"AlphaCourtModel", "isPart", "(III)Z"⟩, 27)) (List.mem_of_getElem? (i := 38) (by decide +kernel)), by decide +kernel⟩
theorem kM_X8_isPerson : Mv M_X8_isPerson 1 := ⟨⟨tb1 (List.mem_of_getElem? (i := 9) (by decide +kernel)) rfl, tb5 (List.mem_of_getElem? (i := 13) (by decide +kernel)) rfl, rfl, ⟨by decide +kernel, by decide +kernel, by decide +kernel⟩, by decide +kernel, by decide +kernel⟩, tb5 (List.mem_of_getElem? (i := 12) (by decide +kernel)) rfl, tbs (q := (⟨"AlphaCourtModel", "isPerson", "(I)Z"⟩, 27)) (List.mem_of_getElem? (i := 52) (by decide +kernel)), by decide +kernel⟩
theorem kM_X8_isPlaceOf : Mv M_X8_isPlaceOf 2 := ⟨⟨tb1 (List.mem_of_getElem? (i := 9) (by decide +kernel)) rfl, tb5 (List.mem_of_getElem? (i := 9) (by decide +kernel)) rfl, rfl, ⟨by decide +kernel, by decide +kernel, by decide +kernel⟩, by decide +kernel, by decide +kernel⟩, tb5 (List.mem_of_getElem? (i := 8) (by decide +kernel)) rfl, tbs (q := (⟨"AlphaCourtModel", "isPlaceOf", "(II)Z"⟩, 27)) (List.mem_of_getElem? (i := 51) (by decide +kernel)), by decide +kernel⟩
theorem kM_X8_isRow : Ms M_X8_isRow 1 := ⟨⟨tb1 (List.mem_of_getElem? (i := 9) (by decide +kernel)) rfl, tb4 (List.mem_of_getElem? (i := 96) (by decide +kernel)) rfl, rfl, ⟨by decide +kernel, by decide +kernel, by decide +kernel⟩, by decide +kernel, by decide +kernel⟩, tb4 (List.mem_of_getElem? (i := 95) (by decide +kernel)) rfl, by decide +kernel⟩
theorem kM_X8_isWell : Mv M_X8_isWell 0 := ⟨⟨tb1 (List.mem_of_getElem? (i := 9) (by decide +kernel)) rfl, tb4 (List.mem_of_getElem? (i := 157) (by decide +kernel)) rfl, rfl, ⟨by decide +kernel, by decide +kernel, by decide +kernel⟩, by decide +kernel, by decide +kernel⟩, tb4 (List.mem_of_getElem? (i := 156) (by decide +kernel)) rfl, tbs (q := (⟨"AlphaCourtModel", "isWell", "()Z"⟩, 27)) (List.mem_of_getElem? (i := 42) (by decide +kernel)), by decide +kernel⟩
theorem kM_X8_kind : Mv M_X8_kind 1 := ⟨⟨tb1 (List.mem_of_getElem? (i := 9) (by decide +kernel)) rfl, tb5 (List.mem_of_getElem? (i := 109) (by decide +kernel)) rfl, rfl, ⟨by decide +kernel, by decide +kernel, by decide +kernel⟩, by decide +kernel, by decide +kernel⟩, tb5 (List.mem_of_getElem? (i := 107) (by decide +kernel)) rfl, tb5 (List.mem_of_getElem? (i := 108) (by decide +kernel)) rfl, by decide +kernel⟩
theorem kM_X8_kindOf : Ms M_X8_kindOf 1 := ⟨⟨tb1 (List.mem_of_getElem? (i := 9) (by decide +kernel)) rfl, tb4 (List.mem_of_getElem? (i := 175) (by decide +kernel)) rfl, rfl, ⟨by decide +kernel, by decide +kernel, by decide +kernel⟩, by decide +kernel, by decide +kernel⟩, tb4 (List.mem_of_getElem? (i := 174) (by decide +kernel)) rfl, by decide +kernel⟩
theorem kM_X8_last : Mv M_X8_last 2 := ⟨⟨tb1 (List.mem_of_getElem? (i := 9) (by decide +kernel)) rfl, tb5 (List.mem_of_getElem? (i := 57) (by decide +kernel)) rfl, rfl, ⟨by decide +kernel, by decide +kernel, by decide +kernel⟩, by decide +kernel, by decide +kernel⟩, tb5 (List.mem_of_getElem? (i := 55) (by decide +kernel)) rfl, tb5 (List.mem_of_getElem? (i := 56) (by decide +kernel)) rfl, by decide +kernel⟩
theorem kM_X8_lays : Mv M_X8_lays 2 := ⟨⟨tb1 (List.mem_of_getElem? (i := 9) (by decide +kernel)) rfl, tb5 (List.mem_of_getElem? (i := 64) (by decide +kernel)) rfl, rfl, ⟨by decide +kernel, by decide +kernel, by decide +kernel⟩, by decide +kernel, by decide +kernel⟩, tb5 (List.mem_of_getElem? (i := 63) (by decide +kernel)) rfl, tbs (q := (⟨"AlphaCourtModel", "lays", "(II)I"⟩, 27)) (List.mem_of_getElem? (i := 56) (by decide +kernel)), by decide +kernel⟩
theorem kM_X8_ledger : Mv M_X8_ledger 3 := ⟨⟨tb1 (List.mem_of_getElem? (i := 9) (by decide +kernel)) rfl, tb5 (List.mem_of_getElem? (i := 97) (by decide +kernel)) rfl, rfl, ⟨by decide +kernel, by decide +kernel, by decide +kernel⟩, by decide +kernel, by decide +kernel⟩, tb5 (List.mem_of_getElem? (i := 95) (by decide +kernel)) rfl, tb5 (List.mem_of_getElem? (i := 96) (by decide +kernel)) rfl, by decide +kernel⟩
theorem kM_X8_letterOf : Ms M_X8_letterOf 3 := ⟨⟨tb1 (List.mem_of_getElem? (i := 9) (by decide +kernel)) rfl, tb4 (List.mem_of_getElem? (i := 232) (by decide +kernel)) rfl, rfl, ⟨by decide +kernel, by decide +kernel, by decide +kernel⟩, by decide +kernel, by decide +kernel⟩, tb4 (List.mem_of_getElem? (i := 231) (by decide +kernel)) rfl, by decide +kernel⟩
theorem kM_X8_lines : Mv M_X8_lines 2 := ⟨⟨tb1 (List.mem_of_getElem? (i := 9) (by decide +kernel)) rfl, tb5 (List.mem_of_getElem? (i := 80) (by decide +kernel)) rfl, rfl, ⟨by decide +kernel, by decide +kernel, by decide +kernel⟩, by decide +kernel, by decide +kernel⟩, tb5 (List.mem_of_getElem? (i := 79) (by decide +kernel)) rfl, tbs (q := (⟨"AlphaCourtModel", "lines", "(II)Z"⟩, 27)) (List.mem_of_getElem? (i := 58) (by decide +kernel)), by decide +kernel⟩
theorem kM_X8_lose : Mv M_X8_lose 2 := ⟨⟨tb1 (List.mem_of_getElem? (i := 9) (by decide +kernel)) rfl, tb5 (List.mem_of_getElem? (i := 17) (by decide +kernel)) rfl, rfl, ⟨by decide +kernel, by decide +kernel, by decide +kernel⟩, by decide +kernel, by decide +kernel⟩, tb5 (List.mem_of_getElem? (i := 15) (by decide +kernel)) rfl, tb5 (List.mem_of_getElem? (i := 16) (by decide +kernel)) rfl, by decide +kernel⟩
theorem kM_X8_manySo : Ms M_X8_manySo 2 := ⟨⟨tb1 (List.mem_of_getElem? (i := 9) (by decide +kernel)) rfl, tb4 (List.mem_of_getElem? (i := 238) (by decide +kernel)) rfl, rfl, ⟨by decide +kernel, by decide +kernel, by decide +kernel⟩, by decide +kernel, by decide +kernel⟩, tb4 (List.mem_of_getElem? (i := 237) (by decide +kernel)) rfl, by decide +kernel⟩
theorem kM_X8_name : Mv M_X8_name 2 := ⟨⟨tb1 (List.mem_of_getElem? (i := 9) (by decide +kernel)) rfl, tb5 (List.mem_of_getElem? (i := 33) (by decide +kernel)) rfl, rfl, ⟨by decide +kernel, by decide +kernel, by decide +kernel⟩, by decide +kernel, by decide +kernel⟩, tb5 (List.mem_of_getElem? (i := 31) (by decide +kernel)) rfl, tb5 (List.mem_of_getElem? (i := 32) (by decide +kernel)) rfl, by decide +kernel⟩
theorem kM_X8_nextBy : Ms M_X8_nextBy 2 := ⟨⟨tb1 (List.mem_of_getElem? (i := 9) (by decide +kernel)) rfl, tb4 (List.mem_of_getElem? (i := 214) (by decide +kernel)) rfl, rfl, ⟨by decide +kernel, by decide +kernel, by decide +kernel⟩, by decide +kernel, by decide +kernel⟩, tb4 (List.mem_of_getElem? (i := 213) (by decide +kernel)) rfl, by decide +kernel⟩
theorem kM_X8_notes : Mv M_X8_notes 0 := ⟨⟨tb1 (List.mem_of_getElem? (i := 9) (by decide +kernel)) rfl, tb4 (List.mem_of_getElem? (i := 204) (by decide +kernel)) rfl, rfl, ⟨by decide +kernel, by decide +kernel, by decide +kernel⟩, by decide +kernel, by decide +kernel⟩, tb4 (List.mem_of_getElem? (i := 203) (by decide +kernel)) rfl, tbs (q := (⟨"AlphaCourtModel", "notes", "()V"⟩, 27)) (List.mem_of_getElem? (i := 49) (by decide +kernel)), by decide +kernel⟩
theorem kM_X8_of : Ms M_X8_of 3 := ⟨⟨tb1 (List.mem_of_getElem? (i := 9) (by decide +kernel)) rfl, tb4 (List.mem_of_getElem? (i := 220) (by decide +kernel)) rfl, rfl, ⟨by decide +kernel, by decide +kernel, by decide +kernel⟩, by decide +kernel, by decide +kernel⟩, tb4 (List.mem_of_getElem? (i := 219) (by decide +kernel)) rfl, by decide +kernel⟩
theorem kM_X8_order : Mv M_X8_order 1 := ⟨⟨tb1 (List.mem_of_getElem? (i := 9) (by decide +kernel)) rfl, tb5 (List.mem_of_getElem? (i := 37) (by decide +kernel)) rfl, rfl, ⟨by decide +kernel, by decide +kernel, by decide +kernel⟩, by decide +kernel, by decide +kernel⟩, tb5 (List.mem_of_getElem? (i := 35) (by decide +kernel)) rfl, tb5 (List.mem_of_getElem? (i := 36) (by decide +kernel)) rfl, by decide +kernel⟩
theorem kM_X8_passedBy : Mv M_X8_passedBy 1 := ⟨⟨tb1 (List.mem_of_getElem? (i := 9) (by decide +kernel)) rfl, tb5 (List.mem_of_getElem? (i := 93) (by decide +kernel)) rfl, rfl, ⟨by decide +kernel, by decide +kernel, by decide +kernel⟩, by decide +kernel, by decide +kernel⟩, tb5 (List.mem_of_getElem? (i := 92) (by decide +kernel)) rfl, tbs (q := (⟨"AlphaCourtModel", "passedBy", "(I)I"⟩, 27)) (List.mem_of_getElem? (i := 60) (by decide +kernel)), by decide +kernel⟩
theorem kM_X8_passes : Mv M_X8_passes 2 := ⟨⟨tb1 (List.mem_of_getElem? (i := 9) (by decide +kernel)) rfl, tb4 (List.mem_of_getElem? (i := 208) (by decide +kernel)) rfl, rfl, ⟨by decide +kernel, by decide +kernel, by decide +kernel⟩, by decide +kernel, by decide +kernel⟩, tb4 (List.mem_of_getElem? (i := 207) (by decide +kernel)) rfl, tbs (q := (⟨"AlphaCourtModel", "passes", "([II)V"⟩, 27)) (List.mem_of_getElem? (i := 50) (by decide +kernel)), by decide +kernel⟩
theorem kM_X8_person : Mv M_X8_person 2 := ⟨⟨tb1 (List.mem_of_getElem? (i := 9) (by decide +kernel)) rfl, tb5 (List.mem_of_getElem? (i := 25) (by decide +kernel)) rfl, rfl, ⟨by decide +kernel, by decide +kernel, by decide +kernel⟩, by decide +kernel, by decide +kernel⟩, tb5 (List.mem_of_getElem? (i := 23) (by decide +kernel)) rfl, tb5 (List.mem_of_getElem? (i := 24) (by decide +kernel)) rfl, by decide +kernel⟩
theorem kM_X8_plainMark : Mv M_X8_plainMark 1 := ⟨⟨tb1 (List.mem_of_getElem? (i := 9) (by decide +kernel)) rfl, tb5 (List.mem_of_getElem? (i := 133) (by decide +kernel)) rfl, rfl, ⟨by decide +kernel, by decide +kernel, by decide +kernel⟩, by decide +kernel, by decide +kernel⟩, tb5 (List.mem_of_getElem? (i := 132) (by decide +kernel)) rfl, tbs (q := (⟨"AlphaCourtModel", "plainMark", "(I)I"⟩, 27)) (List.mem_of_getElem? (i := 64) (by decide +kernel)), by decide +kernel⟩
theorem kM_X8_plainSize : Mv M_X8_plainSize 1 := ⟨⟨tb1 (List.mem_of_getElem? (i := 9) (by decide +kernel)) rfl, tb5 (List.mem_of_getElem? (i := 129) (by decide +kernel)) rfl, rfl, ⟨by decide +kernel, by decide +kernel, by decide +kernel⟩, by decide +kernel, by decide +kernel⟩, tb5 (List.mem_of_getElem? (i := 128) (by decide +kernel)) rfl, tbs (q := (⟨"AlphaCourtModel", "plainSize", "(I)I"⟩, 27)) (List.mem_of_getElem? (i := 63) (by decide +kernel)), by decide +kernel⟩
theorem kM_X8_power : Ms M_X8_power 2 := ⟨⟨tb1 (List.mem_of_getElem? (i := 9) (by decide +kernel)) rfl, tb5 (List.mem_of_getElem? (i := 60) (by decide +kernel)) rfl, rfl, ⟨by decide +kernel, by decide +kernel, by decide +kernel⟩, by decide +kernel, by decide +kernel⟩, tb5 (List.mem_of_getElem? (i := 59) (by decide +kernel)) rfl, by decide +kernel⟩
theorem kM_X8_rank : Ms M_X8_rank 3 := ⟨⟨tb1 (List.mem_of_getElem? (i := 9) (by decide +kernel)) rfl, tb4 (List.mem_of_getElem? (i := 235) (by decide +kernel)) rfl, rfl, ⟨by decide +kernel, by decide +kernel, by decide +kernel⟩, by decide +kernel, by decide +kernel⟩, tb4 (List.mem_of_getElem? (i := 234) (by decide +kernel)) rfl, by decide +kernel⟩
theorem kM_X8_readsOrder : Mv M_X8_readsOrder 0 := ⟨⟨tb1 (List.mem_of_getElem? (i := 9) (by decide +kernel)) rfl, tb4 (List.mem_of_getElem? (i := 165) (by decide +kernel)) rfl, rfl, ⟨by decide +kernel, by decide +kernel, by decide +kernel⟩, by decide +kernel, by decide +kernel⟩, tb4 (List.mem_of_getElem? (i := 164) (by decide +kernel)) rfl, tbs (q := (⟨"AlphaCourtModel", "readsOrder", "()V"⟩, 27)) (List.mem_of_getElem? (i := 44) (by decide +kernel)), by decide +kernel⟩
theorem kM_X8_readsPerson : Mv M_X8_readsPerson 0 := ⟨⟨tb1 (List.mem_of_getElem? (i := 9) (by decide +kernel)) rfl, tb4 (List.mem_of_getElem? (i := 179) (by decide +kernel)) rfl, rfl, ⟨by decide +kernel, by decide +kernel, by decide +kernel⟩, by decide +kernel, by decide +kernel⟩, tb4 (List.mem_of_getElem? (i := 178) (by decide +kernel)) rfl, tbs (q := (⟨"AlphaCourtModel", "readsPerson", "()V"⟩, 27)) (List.mem_of_getElem? (i := 46) (by decide +kernel)), by decide +kernel⟩
theorem kM_X8_restore : Mv M_X8_restore 1 := ⟨⟨tb1 (List.mem_of_getElem? (i := 9) (by decide +kernel)) rfl, tb5 (List.mem_of_getElem? (i := 105) (by decide +kernel)) rfl, rfl, ⟨by decide +kernel, by decide +kernel, by decide +kernel⟩, by decide +kernel, by decide +kernel⟩, tb5 (List.mem_of_getElem? (i := 103) (by decide +kernel)) rfl, tb5 (List.mem_of_getElem? (i := 104) (by decide +kernel)) rfl, by decide +kernel⟩
theorem kM_X8_row : Mv M_X8_row 3 := ⟨⟨tb1 (List.mem_of_getElem? (i := 9) (by decide +kernel)) rfl, tb4 (List.mem_of_getElem? (i := 93) (by decide +kernel)) rfl, rfl, ⟨by decide +kernel, by decide +kernel, by decide +kernel⟩, by decide +kernel, by decide +kernel⟩, tb4 (List.mem_of_getElem? (i := 91) (by decide +kernel)) rfl, tb4 (List.mem_of_getElem? (i := 92) (by decide +kernel)) rfl, by decide +kernel⟩
theorem kM_X8_saintMark : Mv M_X8_saintMark 1 := ⟨⟨tb1 (List.mem_of_getElem? (i := 9) (by decide +kernel)) rfl, tb5 (List.mem_of_getElem? (i := 137) (by decide +kernel)) rfl, rfl, ⟨by decide +kernel, by decide +kernel, by decide +kernel⟩, by decide +kernel, by decide +kernel⟩, tb5 (List.mem_of_getElem? (i := 136) (by decide +kernel)) rfl, tbs (q := (⟨"AlphaCourtModel", "saintMark", "(I)I"⟩, 27)) (List.mem_of_getElem? (i := 65) (by decide +kernel)), by decide +kernel⟩
theorem kM_X8_saintSize : Mv M_X8_saintSize 1 := ⟨⟨tb1 (List.mem_of_getElem? (i := 9) (by decide +kernel)) rfl, tb5 (List.mem_of_getElem? (i := 121) (by decide +kernel)) rfl, rfl, ⟨by decide +kernel, by decide +kernel, by decide +kernel⟩, by decide +kernel, by decide +kernel⟩, tb5 (List.mem_of_getElem? (i := 120) (by decide +kernel)) rfl, tbs (q := (⟨"AlphaCourtModel", "saintSize", "(I)I"⟩, 27)) (List.mem_of_getElem? (i := 61) (by decide +kernel)), by decide +kernel⟩
theorem kM_X8_seats : Ms M_X8_seats 2 := ⟨⟨tb1 (List.mem_of_getElem? (i := 9) (by decide +kernel)) rfl, tb5 (List.mem_of_getElem? (i := 1) (by decide +kernel)) rfl, rfl, ⟨by decide +kernel, by decide +kernel, by decide +kernel⟩, by decide +kernel, by decide +kernel⟩, tb5 (List.mem_of_getElem? (i := 0) (by decide +kernel)) rfl, by decide +kernel⟩
theorem kM_X8_set : Mv M_X8_set 3 := ⟨⟨tb1 (List.mem_of_getElem? (i := 9) (by decide +kernel)) rfl, tb4 (List.mem_of_getElem? (i := 113) (by decide +kernel)) rfl, rfl, ⟨by decide +kernel, by decide +kernel, by decide +kernel⟩, by decide +kernel, by decide +kernel⟩, tb4 (List.mem_of_getElem? (i := 111) (by decide +kernel)) rfl, tb4 (List.mem_of_getElem? (i := 112) (by decide +kernel)) rfl, by decide +kernel⟩
theorem kM_X8_status : Mv M_X8_status 0 := ⟨⟨tb1 (List.mem_of_getElem? (i := 9) (by decide +kernel)) rfl, tb5 (List.mem_of_getElem? (i := 149) (by decide +kernel)) rfl, rfl, ⟨by decide +kernel, by decide +kernel, by decide +kernel⟩, by decide +kernel, by decide +kernel⟩, tb5 (List.mem_of_getElem? (i := 147) (by decide +kernel)) rfl, tb5 (List.mem_of_getElem? (i := 148) (by decide +kernel)) rfl, by decide +kernel⟩
theorem kM_X8_takes : Mv M_X8_takes 2 := ⟨⟨tb1 (List.mem_of_getElem? (i := 9) (by decide +kernel)) rfl, tb4 (List.mem_of_getElem? (i := 153) (by decide +kernel)) rfl, rfl, ⟨by decide +kernel, by decide +kernel, by decide +kernel⟩, by decide +kernel, by decide +kernel⟩, tb4 (List.mem_of_getElem? (i := 152) (by decide +kernel)) rfl, tbs (q := (⟨"AlphaCourtModel", "takes", "(ZI)I"⟩, 27)) (List.mem_of_getElem? (i := 41) (by decide +kernel)), by decide +kernel⟩
theorem kM_X8_takes2 : Mv M_X8_takes2 1 := ⟨⟨tb1 (List.mem_of_getElem? (i := 9) (by decide +kernel)) rfl, tb4 (List.mem_of_getElem? (i := 183) (by decide +kernel)) rfl, rfl, ⟨by decide +kernel, by decide +kernel, by decide +kernel⟩, by decide +kernel, by decide +kernel⟩, tb4 (List.mem_of_getElem? (i := 182) (by decide +kernel)) rfl, tbs (q := (⟨"AlphaCourtModel", "takes2", "(Z)V"⟩, 27)) (List.mem_of_getElem? (i := 47) (by decide +kernel)), by decide +kernel⟩
theorem kM_X8_trace : Mv M_X8_trace 1 := ⟨⟨tb1 (List.mem_of_getElem? (i := 9) (by decide +kernel)) rfl, tb5 (List.mem_of_getElem? (i := 141) (by decide +kernel)) rfl, rfl, ⟨by decide +kernel, by decide +kernel, by decide +kernel⟩, by decide +kernel, by decide +kernel⟩, tb5 (List.mem_of_getElem? (i := 139) (by decide +kernel)) rfl, tb5 (List.mem_of_getElem? (i := 140) (by decide +kernel)) rfl, by decide +kernel⟩
theorem kM_X8_undo : Mv M_X8_undo 0 := ⟨⟨tb1 (List.mem_of_getElem? (i := 9) (by decide +kernel)) rfl, tb5 (List.mem_of_getElem? (i := 21) (by decide +kernel)) rfl, rfl, ⟨by decide +kernel, by decide +kernel, by decide +kernel⟩, by decide +kernel, by decide +kernel⟩, tb5 (List.mem_of_getElem? (i := 19) (by decide +kernel)) rfl, tb5 (List.mem_of_getElem? (i := 20) (by decide +kernel)) rfl, by decide +kernel⟩
theorem kM_X8_waited : Mv M_X8_waited 0 := ⟨⟨tb1 (List.mem_of_getElem? (i := 9) (by decide +kernel)) rfl, tb5 (List.mem_of_getElem? (i := 49) (by decide +kernel)) rfl, rfl, ⟨by decide +kernel, by decide +kernel, by decide +kernel⟩, by decide +kernel, by decide +kernel⟩, tb5 (List.mem_of_getElem? (i := 47) (by decide +kernel)) rfl, tb5 (List.mem_of_getElem? (i := 48) (by decide +kernel)) rfl, by decide +kernel⟩
theorem kM_X8_waitedByLine : Mv M_X8_waitedByLine 1 := ⟨⟨tb1 (List.mem_of_getElem? (i := 9) (by decide +kernel)) rfl, tb5 (List.mem_of_getElem? (i := 84) (by decide +kernel)) rfl, rfl, ⟨by decide +kernel, by decide +kernel, by decide +kernel⟩, by decide +kernel, by decide +kernel⟩, tb5 (List.mem_of_getElem? (i := 83) (by decide +kernel)) rfl, tbs (q := (⟨"AlphaCourtModel", "waitedByLine", "(I)I"⟩, 27)) (List.mem_of_getElem? (i := 59) (by decide +kernel)), by decide +kernel⟩
theorem kM_X8_waitedTried : Mv M_X8_waitedTried 0 := ⟨⟨tb1 (List.mem_of_getElem? (i := 9) (by decide +kernel)) rfl, tb5 (List.mem_of_getElem? (i := 53) (by decide +kernel)) rfl, rfl, ⟨by decide +kernel, by decide +kernel, by decide +kernel⟩, by decide +kernel, by decide +kernel⟩, tb5 (List.mem_of_getElem? (i := 52) (by decide +kernel)) rfl, tbs (q := (⟨"AlphaCourtModel", "waitedTried", "()I"⟩, 27)) (List.mem_of_getElem? (i := 55) (by decide +kernel)), by decide +kernel⟩
theorem kM_X8_waits : Ms M_X8_waits 2 := ⟨⟨tb1 (List.mem_of_getElem? (i := 9) (by decide +kernel)) rfl, tb4 (List.mem_of_getElem? (i := 217) (by decide +kernel)) rfl, rfl, ⟨by decide +kernel, by decide +kernel, by decide +kernel⟩, by decide +kernel, by decide +kernel⟩, tb4 (List.mem_of_getElem? (i := 216) (by decide +kernel)) rfl, by decide +kernel⟩
theorem kM_X8_warden : Mv M_X8_warden 1 := ⟨⟨tb1 (List.mem_of_getElem? (i := 9) (by decide +kernel)) rfl, tb5 (List.mem_of_getElem? (i := 76) (by decide +kernel)) rfl, rfl, ⟨by decide +kernel, by decide +kernel, by decide +kernel⟩, by decide +kernel, by decide +kernel⟩, tb5 (List.mem_of_getElem? (i := 74) (by decide +kernel)) rfl, tb5 (List.mem_of_getElem? (i := 75) (by decide +kernel)) rfl, by decide +kernel⟩
theorem kM_X8_well : Mv M_X8_well 1 := ⟨⟨tb1 (List.mem_of_getElem? (i := 9) (by decide +kernel)) rfl, tb4 (List.mem_of_getElem? (i := 109) (by decide +kernel)) rfl, rfl, ⟨by decide +kernel, by decide +kernel, by decide +kernel⟩, by decide +kernel, by decide +kernel⟩, tb4 (List.mem_of_getElem? (i := 108) (by decide +kernel)) rfl, tbs (q := (⟨"AlphaCourtModel", "well", "(I)I"⟩, 27)) (List.mem_of_getElem? (i := 36) (by decide +kernel)), by decide +kernel⟩
theorem kM_X8_when : Mv M_X8_when 2 := ⟨⟨tb1 (List.mem_of_getElem? (i := 9) (by decide +kernel)) rfl, tb5 (List.mem_of_getElem? (i := 41) (by decide +kernel)) rfl, rfl, ⟨by decide +kernel, by decide +kernel, by decide +kernel⟩, by decide +kernel, by decide +kernel⟩, tb5 (List.mem_of_getElem? (i := 39) (by decide +kernel)) rfl, tb5 (List.mem_of_getElem? (i := 40) (by decide +kernel)) rfl, by decide +kernel⟩
theorem uRX0 : ∀ w ∈ u_ws RX0 TX0 6, w ∈ TB := by
  have h : (u_ws RX0 TX0 6).all (fun w => decide (w ∈ lw_tbl) && goodWord w) = true := by decide +kernel
  intro w hw
  have h1 := List.all_eq_true.mp h w hw
  simp only [Bool.and_eq_true, decide_eq_true_eq] at h1
  exact tb_mem h1.1 h1.2
theorem uRX1 : ∀ w ∈ u_ws RX1 TX1 2, w ∈ TB := by
  have h : (u_ws RX1 TX1 2).all (fun w => decide (w ∈ lw_tbl) && goodWord w) = true := by decide +kernel
  intro w hw
  have h1 := List.all_eq_true.mp h w hw
  simp only [Bool.and_eq_true, decide_eq_true_eq] at h1
  exact tb_mem h1.1 h1.2
theorem uRX2 : ∀ w ∈ u_ws RX2 TX2 16, w ∈ TB := by
  have h : (u_ws RX2 TX2 16).all (fun w => decide (w ∈ lw_tbl) && goodWord w) = true := by decide +kernel
  intro w hw
  have h1 := List.all_eq_true.mp h w hw
  simp only [Bool.and_eq_true, decide_eq_true_eq] at h1
  exact tb_mem h1.1 h1.2
theorem uRX3 : ∀ w ∈ u_ws RX3 TX3 6, w ∈ TB := by
  have h : (u_ws RX3 TX3 6).all (fun w => decide (w ∈ lw_tbl) && goodWord w) = true := by decide +kernel
  intro w hw
  have h1 := List.all_eq_true.mp h w hw
  simp only [Bool.and_eq_true, decide_eq_true_eq] at h1
  exact tb_mem h1.1 h1.2
theorem uRX4 : ∀ w ∈ u_ws RX4 TX4 8, w ∈ TB := by
  have h : (u_ws RX4 TX4 8).all (fun w => decide (w ∈ lw_tbl) && goodWord w) = true := by decide +kernel
  intro w hw
  have h1 := List.all_eq_true.mp h w hw
  simp only [Bool.and_eq_true, decide_eq_true_eq] at h1
  exact tb_mem h1.1 h1.2
theorem uRX5 : ∀ w ∈ u_ws RX5 TX5 1, w ∈ TB := by
  have h : (u_ws RX5 TX5 1).all (fun w => decide (w ∈ lw_tbl) && goodWord w) = true := by decide +kernel
  intro w hw
  have h1 := List.all_eq_true.mp h w hw
  simp only [Bool.and_eq_true, decide_eq_true_eq] at h1
  exact tb_mem h1.1 h1.2
theorem uRX6 : ∀ w ∈ u_ws RX6 TX6 3, w ∈ TB := by
  have h : (u_ws RX6 TX6 3).all (fun w => decide (w ∈ lw_tbl) && goodWord w) = true := by decide +kernel
  intro w hw
  have h1 := List.all_eq_true.mp h w hw
  simp only [Bool.and_eq_true, decide_eq_true_eq] at h1
  exact tb_mem h1.1 h1.2
theorem uRX7 : ∀ w ∈ u_ws RX7 TX7 11, w ∈ TB := by
  have h : (u_ws RX7 TX7 11).all (fun w => decide (w ∈ lw_tbl) && goodWord w) = true := by decide +kernel
  intro w hw
  have h1 := List.all_eq_true.mp h w hw
  simp only [Bool.and_eq_true, decide_eq_true_eq] at h1
  exact tb_mem h1.1 h1.2
theorem uRX8 : ∀ w ∈ u_ws RX8 TX8 27, w ∈ TB := by
  have h : (u_ws RX8 TX8 27).all (fun w => decide (w ∈ lw_tbl) && goodWord w) = true := by decide +kernel
  intro w hw
  have h1 := List.all_eq_true.mp h w hw
  simp only [Bool.and_eq_true, decide_eq_true_eq] at h1
  exact tb_mem h1.1 h1.2
theorem fRX4_9 : Fk RX4 9 4 0 := ⟨RX4, TX4, 8, rfl, by decide, uRX4, tb1 (List.mem_of_getElem? (i := 28) (by decide +kernel)) rfl⟩
theorem fRX4_15 : Fk RX4 15 4 1 := ⟨RX4, TX4, 8, rfl, by decide, uRX4, tb1 (List.mem_of_getElem? (i := 29) (by decide +kernel)) rfl⟩
theorem pfRX4_15 : Fp RX4 15 4 1 .int := ⟨RX4, TX4, 8, tyX4, rfl, by decide, uRX4, tb1 (List.mem_of_getElem? (i := 29) (by decide +kernel)) rfl, tyX4_ok, nmX4, rfl, by decide +kernel⟩
theorem fRX7_108 : Fk RX7 108 4 1 := ⟨RX4, TX4, 8, rfl, by decide, uRX4, tb1 (List.mem_of_getElem? (i := 30) (by decide +kernel)) rfl⟩
theorem pfRX7_108 : Fp RX7 108 4 1 .int := ⟨RX4, TX4, 8, tyX4, rfl, by decide, uRX4, tb1 (List.mem_of_getElem? (i := 30) (by decide +kernel)) rfl, tyX4_ok, nmX4, rfl, by decide +kernel⟩
theorem fRX7_120 : Fk RX7 120 4 2 := ⟨RX4, TX4, 8, rfl, by decide, uRX4, tb1 (List.mem_of_getElem? (i := 31) (by decide +kernel)) rfl⟩
theorem pfRX7_120 : Fp RX7 120 4 2 .int := ⟨RX4, TX4, 8, tyX4, rfl, by decide, uRX4, tb1 (List.mem_of_getElem? (i := 31) (by decide +kernel)) rfl, tyX4_ok, nmX4, rfl, by decide +kernel⟩
theorem fRX4_98 : Fk RX4 98 4 2 := ⟨RX4, TX4, 8, rfl, by decide, uRX4, tb1 (List.mem_of_getElem? (i := 32) (by decide +kernel)) rfl⟩
theorem pfRX4_98 : Fp RX4 98 4 2 .int := ⟨RX4, TX4, 8, tyX4, rfl, by decide, uRX4, tb1 (List.mem_of_getElem? (i := 32) (by decide +kernel)) rfl, tyX4_ok, nmX4, rfl, by decide +kernel⟩
theorem fRX7_127 : Fk RX7 127 4 3 := ⟨RX4, TX4, 8, rfl, by decide, uRX4, tb1 (List.mem_of_getElem? (i := 33) (by decide +kernel)) rfl⟩
theorem pfRX7_127 : Fp RX7 127 4 3 .int := ⟨RX4, TX4, 8, tyX4, rfl, by decide, uRX4, tb1 (List.mem_of_getElem? (i := 33) (by decide +kernel)) rfl, tyX4_ok, nmX4, rfl, by decide +kernel⟩
theorem fRX4_104 : Fk RX4 104 4 3 := ⟨RX4, TX4, 8, rfl, by decide, uRX4, tb1 (List.mem_of_getElem? (i := 34) (by decide +kernel)) rfl⟩
theorem pfRX4_104 : Fp RX4 104 4 3 .int := ⟨RX4, TX4, 8, tyX4, rfl, by decide, uRX4, tb1 (List.mem_of_getElem? (i := 34) (by decide +kernel)) rfl, tyX4_ok, nmX4, rfl, by decide +kernel⟩
theorem fRX4_24 : Fk RX4 24 4 4 := ⟨RX4, TX4, 8, rfl, by decide, uRX4, tb1 (List.mem_of_getElem? (i := 35) (by decide +kernel)) rfl⟩
theorem pfRX4_24 : Fp RX4 24 4 4 .int := ⟨RX4, TX4, 8, tyX4, rfl, by decide, uRX4, tb1 (List.mem_of_getElem? (i := 35) (by decide +kernel)) rfl, tyX4_ok, nmX4, rfl, by decide +kernel⟩
theorem fRX4_101 : Fk RX4 101 4 5 := ⟨RX4, TX4, 8, rfl, by decide, uRX4, tb1 (List.mem_of_getElem? (i := 36) (by decide +kernel)) rfl⟩
theorem pfRX4_101 : Fp RX4 101 4 5 .int := ⟨RX4, TX4, 8, tyX4, rfl, by decide, uRX4, tb1 (List.mem_of_getElem? (i := 36) (by decide +kernel)) rfl, tyX4_ok, nmX4, rfl, by decide +kernel⟩
theorem fRX4_72 : Fk RX4 72 4 6 := ⟨RX4, TX4, 8, rfl, by decide, uRX4, tb1 (List.mem_of_getElem? (i := 37) (by decide +kernel)) rfl⟩
theorem pfRX4_72 : Fp RX4 72 4 6 .int := ⟨RX4, TX4, 8, tyX4, rfl, by decide, uRX4, tb1 (List.mem_of_getElem? (i := 37) (by decide +kernel)) rfl, tyX4_ok, nmX4, rfl, by decide +kernel⟩
theorem fRX4_107 : Fk RX4 107 4 7 := ⟨RX4, TX4, 8, rfl, by decide, uRX4, tb1 (List.mem_of_getElem? (i := 38) (by decide +kernel)) rfl⟩
theorem pfRX4_107 : Fp RX4 107 4 7 .int := ⟨RX4, TX4, 8, tyX4, rfl, by decide, uRX4, tb1 (List.mem_of_getElem? (i := 38) (by decide +kernel)) rfl, tyX4_ok, nmX4, rfl, by decide +kernel⟩
theorem fRX2_39 : Fk RX2 39 2 0 := ⟨RX2, TX2, 16, rfl, by decide, uRX2, tb1 (List.mem_of_getElem? (i := 63) (by decide +kernel)) rfl⟩
theorem pfRX2_39 : Fp RX2 39 2 0 .boolean := ⟨RX2, TX2, 16, tyX2, rfl, by decide, uRX2, tb1 (List.mem_of_getElem? (i := 63) (by decide +kernel)) rfl, tyX2_ok, nmX2, rfl, by decide +kernel⟩
theorem fRX7_140 : Fk RX7 140 2 0 := ⟨RX2, TX2, 16, rfl, by decide, uRX2, tb1 (List.mem_of_getElem? (i := 64) (by decide +kernel)) rfl⟩
theorem pfRX7_140 : Fp RX7 140 2 0 .boolean := ⟨RX2, TX2, 16, tyX2, rfl, by decide, uRX2, tb1 (List.mem_of_getElem? (i := 64) (by decide +kernel)) rfl, tyX2_ok, nmX2, rfl, by decide +kernel⟩
theorem fRX2_43 : Fk RX2 43 2 1 := ⟨RX2, TX2, 16, rfl, by decide, uRX2, tb1 (List.mem_of_getElem? (i := 65) (by decide +kernel)) rfl⟩
theorem pfRX2_43 : Fp RX2 43 2 1 .int := ⟨RX2, TX2, 16, tyX2, rfl, by decide, uRX2, tb1 (List.mem_of_getElem? (i := 65) (by decide +kernel)) rfl, tyX2_ok, nmX2, rfl, by decide +kernel⟩
theorem fRX3_35 : Fk RX3 35 2 1 := ⟨RX2, TX2, 16, rfl, by decide, uRX2, tb1 (List.mem_of_getElem? (i := 66) (by decide +kernel)) rfl⟩
theorem pfRX3_35 : Fp RX3 35 2 1 .int := ⟨RX2, TX2, 16, tyX2, rfl, by decide, uRX2, tb1 (List.mem_of_getElem? (i := 66) (by decide +kernel)) rfl, tyX2_ok, nmX2, rfl, by decide +kernel⟩
theorem fRX4_75 : Fk RX4 75 2 1 := ⟨RX2, TX2, 16, rfl, by decide, uRX2, tb1 (List.mem_of_getElem? (i := 67) (by decide +kernel)) rfl⟩
theorem pfRX4_75 : Fp RX4 75 2 1 .int := ⟨RX2, TX2, 16, tyX2, rfl, by decide, uRX2, tb1 (List.mem_of_getElem? (i := 67) (by decide +kernel)) rfl, tyX2_ok, nmX2, rfl, by decide +kernel⟩
theorem fRX7_137 : Fk RX7 137 2 1 := ⟨RX2, TX2, 16, rfl, by decide, uRX2, tb1 (List.mem_of_getElem? (i := 68) (by decide +kernel)) rfl⟩
theorem pfRX7_137 : Fp RX7 137 2 1 .int := ⟨RX2, TX2, 16, tyX2, rfl, by decide, uRX2, tb1 (List.mem_of_getElem? (i := 68) (by decide +kernel)) rfl, tyX2_ok, nmX2, rfl, by decide +kernel⟩
theorem fRX2_47 : Fk RX2 47 2 2 := ⟨RX2, TX2, 16, rfl, by decide, uRX2, tb1 (List.mem_of_getElem? (i := 69) (by decide +kernel)) rfl⟩
theorem pfRX2_47 : Fp RX2 47 2 2 .int := ⟨RX2, TX2, 16, tyX2, rfl, by decide, uRX2, tb1 (List.mem_of_getElem? (i := 69) (by decide +kernel)) rfl, tyX2_ok, nmX2, rfl, by decide +kernel⟩
theorem fRX3_64 : Fk RX3 64 2 2 := ⟨RX2, TX2, 16, rfl, by decide, uRX2, tb1 (List.mem_of_getElem? (i := 70) (by decide +kernel)) rfl⟩
theorem pfRX3_64 : Fp RX3 64 2 2 .int := ⟨RX2, TX2, 16, tyX2, rfl, by decide, uRX2, tb1 (List.mem_of_getElem? (i := 70) (by decide +kernel)) rfl, tyX2_ok, nmX2, rfl, by decide +kernel⟩
theorem fRX4_52 : Fk RX4 52 2 2 := ⟨RX2, TX2, 16, rfl, by decide, uRX2, tb1 (List.mem_of_getElem? (i := 71) (by decide +kernel)) rfl⟩
theorem pfRX4_52 : Fp RX4 52 2 2 .int := ⟨RX2, TX2, 16, tyX2, rfl, by decide, uRX2, tb1 (List.mem_of_getElem? (i := 71) (by decide +kernel)) rfl, tyX2_ok, nmX2, rfl, by decide +kernel⟩
theorem fRX7_274 : Fk RX7 274 2 2 := ⟨RX2, TX2, 16, rfl, by decide, uRX2, tb1 (List.mem_of_getElem? (i := 72) (by decide +kernel)) rfl⟩
theorem pfRX7_274 : Fp RX7 274 2 2 .int := ⟨RX2, TX2, 16, tyX2, rfl, by decide, uRX2, tb1 (List.mem_of_getElem? (i := 72) (by decide +kernel)) rfl, tyX2_ok, nmX2, rfl, by decide +kernel⟩
theorem fRX2_50 : Fk RX2 50 2 3 := ⟨RX2, TX2, 16, rfl, by decide, uRX2, tb1 (List.mem_of_getElem? (i := 73) (by decide +kernel)) rfl⟩
theorem pfRX2_50 : Fp RX2 50 2 3 .int := ⟨RX2, TX2, 16, tyX2, rfl, by decide, uRX2, tb1 (List.mem_of_getElem? (i := 73) (by decide +kernel)) rfl, tyX2_ok, nmX2, rfl, by decide +kernel⟩
theorem fRX4_55 : Fk RX4 55 2 3 := ⟨RX2, TX2, 16, rfl, by decide, uRX2, tb1 (List.mem_of_getElem? (i := 74) (by decide +kernel)) rfl⟩
theorem pfRX4_55 : Fp RX4 55 2 3 .int := ⟨RX2, TX2, 16, tyX2, rfl, by decide, uRX2, tb1 (List.mem_of_getElem? (i := 74) (by decide +kernel)) rfl, tyX2_ok, nmX2, rfl, by decide +kernel⟩
theorem fRX7_277 : Fk RX7 277 2 3 := ⟨RX2, TX2, 16, rfl, by decide, uRX2, tb1 (List.mem_of_getElem? (i := 75) (by decide +kernel)) rfl⟩
theorem pfRX7_277 : Fp RX7 277 2 3 .int := ⟨RX2, TX2, 16, tyX2, rfl, by decide, uRX2, tb1 (List.mem_of_getElem? (i := 75) (by decide +kernel)) rfl, tyX2_ok, nmX2, rfl, by decide +kernel⟩
theorem fRX5_22 : Fk RX5 22 2 4 := ⟨RX2, TX2, 16, rfl, by decide, uRX2, tb1 (List.mem_of_getElem? (i := 76) (by decide +kernel)) rfl⟩
theorem pfRX5_22 : Fp RX5 22 2 4 .int := ⟨RX2, TX2, 16, tyX2, rfl, by decide, uRX2, tb1 (List.mem_of_getElem? (i := 76) (by decide +kernel)) rfl, tyX2_ok, nmX2, rfl, by decide +kernel⟩
theorem fRX2_53 : Fk RX2 53 2 4 := ⟨RX2, TX2, 16, rfl, by decide, uRX2, tb1 (List.mem_of_getElem? (i := 77) (by decide +kernel)) rfl⟩
theorem pfRX2_53 : Fp RX2 53 2 4 .int := ⟨RX2, TX2, 16, tyX2, rfl, by decide, uRX2, tb1 (List.mem_of_getElem? (i := 77) (by decide +kernel)) rfl, tyX2_ok, nmX2, rfl, by decide +kernel⟩
theorem fRX3_65 : Fk RX3 65 2 4 := ⟨RX2, TX2, 16, rfl, by decide, uRX2, tb1 (List.mem_of_getElem? (i := 78) (by decide +kernel)) rfl⟩
theorem pfRX3_65 : Fp RX3 65 2 4 .int := ⟨RX2, TX2, 16, tyX2, rfl, by decide, uRX2, tb1 (List.mem_of_getElem? (i := 78) (by decide +kernel)) rfl, tyX2_ok, nmX2, rfl, by decide +kernel⟩
theorem fRX7_145 : Fk RX7 145 2 4 := ⟨RX2, TX2, 16, rfl, by decide, uRX2, tb1 (List.mem_of_getElem? (i := 79) (by decide +kernel)) rfl⟩
theorem pfRX7_145 : Fp RX7 145 2 4 .int := ⟨RX2, TX2, 16, tyX2, rfl, by decide, uRX2, tb1 (List.mem_of_getElem? (i := 79) (by decide +kernel)) rfl, tyX2_ok, nmX2, rfl, by decide +kernel⟩
theorem fRX2_56 : Fk RX2 56 2 5 := ⟨RX2, TX2, 16, rfl, by decide, uRX2, tb1 (List.mem_of_getElem? (i := 80) (by decide +kernel)) rfl⟩
theorem pfRX2_56 : Fp RX2 56 2 5 .int := ⟨RX2, TX2, 16, tyX2, rfl, by decide, uRX2, tb1 (List.mem_of_getElem? (i := 80) (by decide +kernel)) rfl, tyX2_ok, nmX2, rfl, by decide +kernel⟩
theorem fRX0_48 : Fk RX0 48 2 5 := ⟨RX2, TX2, 16, rfl, by decide, uRX2, tb1 (List.mem_of_getElem? (i := 81) (by decide +kernel)) rfl⟩
theorem pfRX0_48 : Fp RX0 48 2 5 .int := ⟨RX2, TX2, 16, tyX2, rfl, by decide, uRX2, tb1 (List.mem_of_getElem? (i := 81) (by decide +kernel)) rfl, tyX2_ok, nmX2, rfl, by decide +kernel⟩
theorem fRX7_177 : Fk RX7 177 2 5 := ⟨RX2, TX2, 16, rfl, by decide, uRX2, tb1 (List.mem_of_getElem? (i := 82) (by decide +kernel)) rfl⟩
theorem pfRX7_177 : Fp RX7 177 2 5 .int := ⟨RX2, TX2, 16, tyX2, rfl, by decide, uRX2, tb1 (List.mem_of_getElem? (i := 82) (by decide +kernel)) rfl, tyX2_ok, nmX2, rfl, by decide +kernel⟩
theorem fRX2_9 : Fk RX2 9 2 6 := ⟨RX2, TX2, 16, rfl, by decide, uRX2, tb1 (List.mem_of_getElem? (i := 83) (by decide +kernel)) rfl⟩
theorem fRX2_15 : Fk RX2 15 2 7 := ⟨RX2, TX2, 16, rfl, by decide, uRX2, tb1 (List.mem_of_getElem? (i := 84) (by decide +kernel)) rfl⟩
theorem fRX2_18 : Fk RX2 18 2 8 := ⟨RX2, TX2, 16, rfl, by decide, uRX2, tb1 (List.mem_of_getElem? (i := 85) (by decide +kernel)) rfl⟩
theorem fRX1_19 : Fk RX1 19 2 8 := ⟨RX2, TX2, 16, rfl, by decide, uRX2, tb1 (List.mem_of_getElem? (i := 86) (by decide +kernel)) rfl⟩
theorem fRX4_82 : Fk RX4 82 2 8 := ⟨RX2, TX2, 16, rfl, by decide, uRX2, tb1 (List.mem_of_getElem? (i := 87) (by decide +kernel)) rfl⟩
theorem fRX7_164 : Fk RX7 164 2 8 := ⟨RX2, TX2, 16, rfl, by decide, uRX2, tb1 (List.mem_of_getElem? (i := 88) (by decide +kernel)) rfl⟩
theorem fRX2_21 : Fk RX2 21 2 9 := ⟨RX2, TX2, 16, rfl, by decide, uRX2, tb1 (List.mem_of_getElem? (i := 89) (by decide +kernel)) rfl⟩
theorem fRX5_38 : Fk RX5 38 2 9 := ⟨RX2, TX2, 16, rfl, by decide, uRX2, tb1 (List.mem_of_getElem? (i := 90) (by decide +kernel)) rfl⟩
theorem fRX1_41 : Fk RX1 41 2 9 := ⟨RX2, TX2, 16, rfl, by decide, uRX2, tb1 (List.mem_of_getElem? (i := 91) (by decide +kernel)) rfl⟩
theorem fRX4_89 : Fk RX4 89 2 9 := ⟨RX2, TX2, 16, rfl, by decide, uRX2, tb1 (List.mem_of_getElem? (i := 92) (by decide +kernel)) rfl⟩
theorem fRX7_197 : Fk RX7 197 2 9 := ⟨RX2, TX2, 16, rfl, by decide, uRX2, tb1 (List.mem_of_getElem? (i := 93) (by decide +kernel)) rfl⟩
theorem fRX2_24 : Fk RX2 24 2 10 := ⟨RX2, TX2, 16, rfl, by decide, uRX2, tb1 (List.mem_of_getElem? (i := 94) (by decide +kernel)) rfl⟩
theorem fRX2_27 : Fk RX2 27 2 11 := ⟨RX2, TX2, 16, rfl, by decide, uRX2, tb1 (List.mem_of_getElem? (i := 95) (by decide +kernel)) rfl⟩
theorem fRX1_38 : Fk RX1 38 2 11 := ⟨RX2, TX2, 16, rfl, by decide, uRX2, tb1 (List.mem_of_getElem? (i := 96) (by decide +kernel)) rfl⟩
theorem fRX3_78 : Fk RX3 78 2 11 := ⟨RX2, TX2, 16, rfl, by decide, uRX2, tb1 (List.mem_of_getElem? (i := 97) (by decide +kernel)) rfl⟩
theorem fRX4_92 : Fk RX4 92 2 11 := ⟨RX2, TX2, 16, rfl, by decide, uRX2, tb1 (List.mem_of_getElem? (i := 98) (by decide +kernel)) rfl⟩
theorem fRX7_191 : Fk RX7 191 2 11 := ⟨RX2, TX2, 16, rfl, by decide, uRX2, tb1 (List.mem_of_getElem? (i := 99) (by decide +kernel)) rfl⟩
theorem fRX2_30 : Fk RX2 30 2 12 := ⟨RX2, TX2, 16, rfl, by decide, uRX2, tb1 (List.mem_of_getElem? (i := 100) (by decide +kernel)) rfl⟩
theorem fRX3_51 : Fk RX3 51 2 12 := ⟨RX2, TX2, 16, rfl, by decide, uRX2, tb1 (List.mem_of_getElem? (i := 101) (by decide +kernel)) rfl⟩
theorem fRX4_95 : Fk RX4 95 2 12 := ⟨RX2, TX2, 16, rfl, by decide, uRX2, tb1 (List.mem_of_getElem? (i := 102) (by decide +kernel)) rfl⟩
theorem fRX7_194 : Fk RX7 194 2 12 := ⟨RX2, TX2, 16, rfl, by decide, uRX2, tb1 (List.mem_of_getElem? (i := 103) (by decide +kernel)) rfl⟩
theorem fRX2_33 : Fk RX2 33 2 13 := ⟨RX2, TX2, 16, rfl, by decide, uRX2, tb1 (List.mem_of_getElem? (i := 104) (by decide +kernel)) rfl⟩
theorem fRX3_48 : Fk RX3 48 2 13 := ⟨RX2, TX2, 16, rfl, by decide, uRX2, tb1 (List.mem_of_getElem? (i := 105) (by decide +kernel)) rfl⟩
theorem fRX7_223 : Fk RX7 223 2 13 := ⟨RX2, TX2, 16, rfl, by decide, uRX2, tb1 (List.mem_of_getElem? (i := 106) (by decide +kernel)) rfl⟩
theorem fRX2_36 : Fk RX2 36 2 14 := ⟨RX2, TX2, 16, rfl, by decide, uRX2, tb1 (List.mem_of_getElem? (i := 107) (by decide +kernel)) rfl⟩
theorem fRX7_290 : Fk RX7 290 2 14 := ⟨RX2, TX2, 16, rfl, by decide, uRX2, tb1 (List.mem_of_getElem? (i := 108) (by decide +kernel)) rfl⟩
theorem fRX2_116 : Fk RX2 116 2 15 := ⟨RX2, TX2, 16, rfl, by decide, uRX2, tb1 (List.mem_of_getElem? (i := 109) (by decide +kernel)) rfl⟩
theorem pfRX2_116 : Fp RX2 116 2 15 .int := ⟨RX2, TX2, 16, tyX2, rfl, by decide, uRX2, tb1 (List.mem_of_getElem? (i := 109) (by decide +kernel)) rfl, tyX2_ok, nmX2, rfl, by decide +kernel⟩
theorem fRX7_287 : Fk RX7 287 2 15 := ⟨RX2, TX2, 16, rfl, by decide, uRX2, tb1 (List.mem_of_getElem? (i := 110) (by decide +kernel)) rfl⟩
theorem pfRX7_287 : Fp RX7 287 2 15 .int := ⟨RX2, TX2, 16, tyX2, rfl, by decide, uRX2, tb1 (List.mem_of_getElem? (i := 110) (by decide +kernel)) rfl, tyX2_ok, nmX2, rfl, by decide +kernel⟩
theorem fRX0_9 : Fk RX0 9 0 0 := ⟨RX0, TX0, 6, rfl, by decide, uRX0, tb1 (List.mem_of_getElem? (i := 151) (by decide +kernel)) rfl⟩
theorem fRX0_15 : Fk RX0 15 0 1 := ⟨RX0, TX0, 6, rfl, by decide, uRX0, tb1 (List.mem_of_getElem? (i := 152) (by decide +kernel)) rfl⟩
theorem fRX0_18 : Fk RX0 18 0 2 := ⟨RX0, TX0, 6, rfl, by decide, uRX0, tb1 (List.mem_of_getElem? (i := 153) (by decide +kernel)) rfl⟩
theorem fRX0_21 : Fk RX0 21 0 3 := ⟨RX0, TX0, 6, rfl, by decide, uRX0, tb1 (List.mem_of_getElem? (i := 154) (by decide +kernel)) rfl⟩
theorem fRX0_32 : Fk RX0 32 0 4 := ⟨RX0, TX0, 6, rfl, by decide, uRX0, tb1 (List.mem_of_getElem? (i := 155) (by decide +kernel)) rfl⟩
theorem pfRX0_32 : Fp RX0 32 0 4 .int := ⟨RX0, TX0, 6, tyX0, rfl, by decide, uRX0, tb1 (List.mem_of_getElem? (i := 155) (by decide +kernel)) rfl, tyX0_ok, nmX0, rfl, by decide +kernel⟩
theorem fRX0_24 : Fk RX0 24 0 5 := ⟨RX0, TX0, 6, rfl, by decide, uRX0, tb1 (List.mem_of_getElem? (i := 156) (by decide +kernel)) rfl⟩
theorem pfRX0_24 : Fp RX0 24 0 5 .int := ⟨RX0, TX0, 6, tyX0, rfl, by decide, uRX0, tb1 (List.mem_of_getElem? (i := 156) (by decide +kernel)) rfl, tyX0_ok, nmX0, rfl, by decide +kernel⟩
theorem fRX7_183 : Fk RX7 183 0 5 := ⟨RX0, TX0, 6, rfl, by decide, uRX0, tb1 (List.mem_of_getElem? (i := 157) (by decide +kernel)) rfl⟩
theorem pfRX7_183 : Fp RX7 183 0 5 .int := ⟨RX0, TX0, 6, tyX0, rfl, by decide, uRX0, tb1 (List.mem_of_getElem? (i := 157) (by decide +kernel)) rfl, tyX0_ok, nmX0, rfl, by decide +kernel⟩
theorem fRX5_12 : Fk RX5 12 5 0 := ⟨RX5, TX5, 1, rfl, by decide, uRX5, tb1 (List.mem_of_getElem? (i := 179) (by decide +kernel)) rfl⟩
theorem fRX7_234 : Fk RX7 234 5 0 := ⟨RX5, TX5, 1, rfl, by decide, uRX5, tb1 (List.mem_of_getElem? (i := 180) (by decide +kernel)) rfl⟩
theorem fRX3_9 : Fk RX3 9 3 0 := ⟨RX3, TX3, 6, rfl, by decide, uRX3, tb1 (List.mem_of_getElem? (i := 190) (by decide +kernel)) rfl⟩
theorem fRX7_241 : Fk RX7 241 3 0 := ⟨RX3, TX3, 6, rfl, by decide, uRX3, tb1 (List.mem_of_getElem? (i := 191) (by decide +kernel)) rfl⟩
theorem fRX3_25 : Fk RX3 25 3 1 := ⟨RX3, TX3, 6, rfl, by decide, uRX3, tb1 (List.mem_of_getElem? (i := 192) (by decide +kernel)) rfl⟩
theorem pfRX3_25 : Fp RX3 25 3 1 .int := ⟨RX3, TX3, 6, tyX3, rfl, by decide, uRX3, tb1 (List.mem_of_getElem? (i := 192) (by decide +kernel)) rfl, tyX3_ok, nmX3, rfl, by decide +kernel⟩
theorem fRX7_240 : Fk RX7 240 3 1 := ⟨RX3, TX3, 6, rfl, by decide, uRX3, tb1 (List.mem_of_getElem? (i := 193) (by decide +kernel)) rfl⟩
theorem pfRX7_240 : Fp RX7 240 3 1 .int := ⟨RX3, TX3, 6, tyX3, rfl, by decide, uRX3, tb1 (List.mem_of_getElem? (i := 193) (by decide +kernel)) rfl, tyX3_ok, nmX3, rfl, by decide +kernel⟩
theorem fRX3_32 : Fk RX3 32 3 2 := ⟨RX3, TX3, 6, rfl, by decide, uRX3, tb1 (List.mem_of_getElem? (i := 194) (by decide +kernel)) rfl⟩
theorem pfRX3_32 : Fp RX3 32 3 2 .int := ⟨RX3, TX3, 6, tyX3, rfl, by decide, uRX3, tb1 (List.mem_of_getElem? (i := 194) (by decide +kernel)) rfl, tyX3_ok, nmX3, rfl, by decide +kernel⟩
theorem fRX7_244 : Fk RX7 244 3 2 := ⟨RX3, TX3, 6, rfl, by decide, uRX3, tb1 (List.mem_of_getElem? (i := 195) (by decide +kernel)) rfl⟩
theorem pfRX7_244 : Fp RX7 244 3 2 .int := ⟨RX3, TX3, 6, tyX3, rfl, by decide, uRX3, tb1 (List.mem_of_getElem? (i := 195) (by decide +kernel)) rfl, tyX3_ok, nmX3, rfl, by decide +kernel⟩
theorem fRX3_15 : Fk RX3 15 3 3 := ⟨RX3, TX3, 6, rfl, by decide, uRX3, tb1 (List.mem_of_getElem? (i := 196) (by decide +kernel)) rfl⟩
theorem fRX3_18 : Fk RX3 18 3 4 := ⟨RX3, TX3, 6, rfl, by decide, uRX3, tb1 (List.mem_of_getElem? (i := 197) (by decide +kernel)) rfl⟩
theorem fRX3_58 : Fk RX3 58 3 5 := ⟨RX3, TX3, 6, rfl, by decide, uRX3, tb1 (List.mem_of_getElem? (i := 198) (by decide +kernel)) rfl⟩
theorem pfRX3_58 : Fp RX3 58 3 5 .int := ⟨RX3, TX3, 6, tyX3, rfl, by decide, uRX3, tb1 (List.mem_of_getElem? (i := 198) (by decide +kernel)) rfl, tyX3_ok, nmX3, rfl, by decide +kernel⟩
theorem fRX1_9 : Fk RX1 9 1 0 := ⟨RX1, TX1, 2, rfl, by decide, uRX1, tb1 (List.mem_of_getElem? (i := 218) (by decide +kernel)) rfl⟩
theorem fRX7_268 : Fk RX7 268 1 0 := ⟨RX1, TX1, 2, rfl, by decide, uRX1, tb1 (List.mem_of_getElem? (i := 219) (by decide +kernel)) rfl⟩
theorem fRX1_15 : Fk RX1 15 1 1 := ⟨RX1, TX1, 2, rfl, by decide, uRX1, tb1 (List.mem_of_getElem? (i := 220) (by decide +kernel)) rfl⟩
theorem pfRX1_15 : Fp RX1 15 1 1 .int := ⟨RX1, TX1, 2, tyX1, rfl, by decide, uRX1, tb1 (List.mem_of_getElem? (i := 220) (by decide +kernel)) rfl, tyX1_ok, nmX1, rfl, by decide +kernel⟩
theorem fRX7_265 : Fk RX7 265 1 1 := ⟨RX1, TX1, 2, rfl, by decide, uRX1, tb1 (List.mem_of_getElem? (i := 221) (by decide +kernel)) rfl⟩
theorem pfRX7_265 : Fp RX7 265 1 1 .int := ⟨RX1, TX1, 2, tyX1, rfl, by decide, uRX1, tb1 (List.mem_of_getElem? (i := 221) (by decide +kernel)) rfl, tyX1_ok, nmX1, rfl, by decide +kernel⟩
theorem fRX6_9 : Fk RX6 9 6 0 := ⟨RX6, TX6, 3, rfl, by decide, uRX6, tb1 (List.mem_of_getElem? (i := 232) (by decide +kernel)) rfl⟩
theorem fRX7_89 : Fk RX7 89 6 0 := ⟨RX6, TX6, 3, rfl, by decide, uRX6, tb1 (List.mem_of_getElem? (i := 233) (by decide +kernel)) rfl⟩
theorem fRX6_19 : Fk RX6 19 6 1 := ⟨RX6, TX6, 3, rfl, by decide, uRX6, tb1 (List.mem_of_getElem? (i := 234) (by decide +kernel)) rfl⟩
theorem pfRX6_19 : Fp RX6 19 6 1 .int := ⟨RX6, TX6, 3, tyX6, rfl, by decide, uRX6, tb1 (List.mem_of_getElem? (i := 234) (by decide +kernel)) rfl, tyX6_ok, nmX6, rfl, by decide +kernel⟩
theorem fRX7_96 : Fk RX7 96 6 1 := ⟨RX6, TX6, 3, rfl, by decide, uRX6, tb1 (List.mem_of_getElem? (i := 235) (by decide +kernel)) rfl⟩
theorem pfRX7_96 : Fp RX7 96 6 1 .int := ⟨RX6, TX6, 3, tyX6, rfl, by decide, uRX6, tb1 (List.mem_of_getElem? (i := 235) (by decide +kernel)) rfl, tyX6_ok, nmX6, rfl, by decide +kernel⟩
theorem fRX6_15 : Fk RX6 15 6 2 := ⟨RX6, TX6, 3, rfl, by decide, uRX6, tb1 (List.mem_of_getElem? (i := 236) (by decide +kernel)) rfl⟩
theorem pfRX6_15 : Fp RX6 15 6 2 .int := ⟨RX6, TX6, 3, tyX6, rfl, by decide, uRX6, tb1 (List.mem_of_getElem? (i := 236) (by decide +kernel)) rfl, tyX6_ok, nmX6, rfl, by decide +kernel⟩
theorem fRX7_85 : Fk RX7 85 6 2 := ⟨RX6, TX6, 3, rfl, by decide, uRX6, tb1 (List.mem_of_getElem? (i := 237) (by decide +kernel)) rfl⟩
theorem pfRX7_85 : Fp RX7 85 6 2 .int := ⟨RX6, TX6, 3, tyX6, rfl, by decide, uRX6, tb1 (List.mem_of_getElem? (i := 237) (by decide +kernel)) rfl, tyX6_ok, nmX6, rfl, by decide +kernel⟩
theorem fRX7_11 : Fk RX7 11 7 0 := ⟨RX7, TX7, 11, rfl, by decide, uRX7, tb2 (List.mem_of_getElem? (i := 5) (by decide +kernel)) rfl⟩
theorem fRX7_18 : Fk RX7 18 7 1 := ⟨RX7, TX7, 11, rfl, by decide, uRX7, tb2 (List.mem_of_getElem? (i := 6) (by decide +kernel)) rfl⟩
theorem fRX7_25 : Fk RX7 25 7 2 := ⟨RX7, TX7, 11, rfl, by decide, uRX7, tb2 (List.mem_of_getElem? (i := 7) (by decide +kernel)) rfl⟩
theorem fRX7_29 : Fk RX7 29 7 3 := ⟨RX7, TX7, 11, rfl, by decide, uRX7, tb2 (List.mem_of_getElem? (i := 8) (by decide +kernel)) rfl⟩
theorem fRX7_32 : Fk RX7 32 7 4 := ⟨RX7, TX7, 11, rfl, by decide, uRX7, tb2 (List.mem_of_getElem? (i := 9) (by decide +kernel)) rfl⟩
theorem fRX7_39 : Fk RX7 39 7 5 := ⟨RX7, TX7, 11, rfl, by decide, uRX7, tb2 (List.mem_of_getElem? (i := 10) (by decide +kernel)) rfl⟩
theorem fRX7_46 : Fk RX7 46 7 6 := ⟨RX7, TX7, 11, rfl, by decide, uRX7, tb2 (List.mem_of_getElem? (i := 11) (by decide +kernel)) rfl⟩
theorem fRX7_53 : Fk RX7 53 7 7 := ⟨RX7, TX7, 11, rfl, by decide, uRX7, tb2 (List.mem_of_getElem? (i := 12) (by decide +kernel)) rfl⟩
theorem fRX7_60 : Fk RX7 60 7 8 := ⟨RX7, TX7, 11, rfl, by decide, uRX7, tb2 (List.mem_of_getElem? (i := 13) (by decide +kernel)) rfl⟩
theorem fRX7_123 : Fk RX7 123 7 9 := ⟨RX7, TX7, 11, rfl, by decide, uRX7, tb2 (List.mem_of_getElem? (i := 14) (by decide +kernel)) rfl⟩
theorem pfRX7_123 : Fp RX7 123 7 9 .int := ⟨RX7, TX7, 11, tyX7, rfl, by decide, uRX7, tb2 (List.mem_of_getElem? (i := 14) (by decide +kernel)) rfl, tyX7_ok, nmX7, rfl, by decide +kernel⟩
theorem fRX7_280 : Fk RX7 280 7 10 := ⟨RX7, TX7, 11, rfl, by decide, uRX7, tb2 (List.mem_of_getElem? (i := 15) (by decide +kernel)) rfl⟩
theorem pfRX7_280 : Fp RX7 280 7 10 .int := ⟨RX7, TX7, 11, tyX7, rfl, by decide, uRX7, tb2 (List.mem_of_getElem? (i := 15) (by decide +kernel)) rfl, tyX7_ok, nmX7, rfl, by decide +kernel⟩
theorem lRL_13 : Cond.methodLink RL 13 (mN M_X7_row) ∈ TB := tb2 (List.mem_of_getElem? (i := 39) (by decide +kernel)) rfl
theorem lRX7_65 : Cond.methodLink RX7 65 (mN M_X7_isIn) ∈ TB := tb2 (List.mem_of_getElem? (i := 43) (by decide +kernel)) rfl
theorem nRX7_69 : Cond.constant RX7 69 (Int32.ofInt (-1000001)) ∈ TB := tb2 (List.mem_of_getElem? (i := 46) (by decide +kernel)) rfl
theorem lRX7_70 : Cond.methodLink RX7 70 (mN M_X7_found) ∈ TB := tb2 (List.mem_of_getElem? (i := 47) (by decide +kernel)) rfl
theorem nRX7_286 : Cond.constant RX7 286 (Int32.ofInt (-1000010)) ∈ TB := tb2 (List.mem_of_getElem? (i := 51) (by decide +kernel)) rfl
theorem lRX7_74 : Cond.methodLink RX7 74 (mN M_X6_begin) ∈ TB := tb2 (List.mem_of_getElem? (i := 52) (by decide +kernel)) rfl
theorem lRX7_78 : Cond.methodLink RX7 78 (mN M_X7_unfound) ∈ TB := tb2 (List.mem_of_getElem? (i := 56) (by decide +kernel)) rfl
theorem lRL_18 : Cond.methodLink RL 18 (mN M_X7_set) ∈ TB := tb2 (List.mem_of_getElem? (i := 60) (by decide +kernel)) rfl
theorem lRX7_81 : Cond.methodLink RX7 81 (mN M_X6_isMissing) ∈ TB := tb2 (List.mem_of_getElem? (i := 64) (by decide +kernel)) rfl
theorem lRX7_93 : Cond.methodLink RX7 93 (mN M_X6_cut) ∈ TB := tb2 (List.mem_of_getElem? (i := 68) (by decide +kernel)) rfl
theorem lRL_22 : Cond.methodLink RL 22 (mN M_X7_copy) ∈ TB := tb2 (List.mem_of_getElem? (i := 72) (by decide +kernel)) rfl
theorem lRX7_99 : Cond.methodLink RX7 99 (mN M_X6_hasRange) ∈ TB := tb2 (List.mem_of_getElem? (i := 76) (by decide +kernel)) rfl
theorem lRX7_102 : Cond.methodLink RX7 102 arraycopyName ∈ TB := tb2 (List.mem_of_getElem? (i := 80) (by decide +kernel)) rfl
theorem lRL_27 : Cond.methodLink RL 27 (mN M_X7_drop) ∈ TB := tb2 (List.mem_of_getElem? (i := 83) (by decide +kernel)) rfl
theorem lRL_32 : Cond.methodLink RL 32 (mN M_X7_feed) ∈ TB := tb2 (List.mem_of_getElem? (i := 87) (by decide +kernel)) rfl
theorem nRX7_111 : Cond.constant RX7 111 (Int32.ofInt (-1000003)) ∈ TB := tb2 (List.mem_of_getElem? (i := 91) (by decide +kernel)) rfl
theorem lRX7_112 : Cond.methodLink RX7 112 (mN M_X4_addByte) ∈ TB := tb2 (List.mem_of_getElem? (i := 92) (by decide +kernel)) rfl
theorem lRL_36 : Cond.methodLink RL 36 (mN M_X7_court) ∈ TB := tb2 (List.mem_of_getElem? (i := 96) (by decide +kernel)) rfl
theorem lRX7_116 : Cond.methodLink RX7 116 (mN M_X4_readInto) ∈ TB := tb2 (List.mem_of_getElem? (i := 100) (by decide +kernel)) rfl
theorem lRX4_19 : Cond.methodLink RX4 19 (mN M_X2_begin) ∈ TB := tb2 (List.mem_of_getElem? (i := 104) (by decide +kernel)) rfl
theorem nRX2_65 : Cond.constant RX2 65 (Int32.ofInt (-1000000)) ∈ TB := tb2 (List.mem_of_getElem? (i := 108) (by decide +kernel)) rfl
theorem lRX4_27 : Cond.methodLink RX4 27 (mN M_X4_step) ∈ TB := tb2 (List.mem_of_getElem? (i := 109) (by decide +kernel)) rfl
theorem lRX4_110 : Cond.methodLink RX4 110 (mN M_X4_isFigureAt) ∈ TB := tb2 (List.mem_of_getElem? (i := 113) (by decide +kernel)) rfl
theorem lRX4_30 : Cond.methodLink RX4 30 (mN M_X4_readLaw) ∈ TB := tb2 (List.mem_of_getElem? (i := 117) (by decide +kernel)) rfl
theorem lRX4_40 : Cond.methodLink RX4 40 (mN M_X4_passOver) ∈ TB := tb2 (List.mem_of_getElem? (i := 121) (by decide +kernel)) rfl
theorem lRX4_65 : Cond.methodLink RX4 65 (mN M_X4_hasFault) ∈ TB := tb2 (List.mem_of_getElem? (i := 125) (by decide +kernel)) rfl
theorem lRX4_44 : Cond.methodLink RX4 44 (mN M_X4_isNumberIn) ∈ TB := tb2 (List.mem_of_getElem? (i := 129) (by decide +kernel)) rfl
theorem lRX4_48 : Cond.methodLink RX4 48 (mN M_X4_takeNumber) ∈ TB := tb2 (List.mem_of_getElem? (i := 133) (by decide +kernel)) rfl
theorem lRX4_34 : Cond.methodLink RX4 34 (mN M_X4_readOrder) ∈ TB := tb2 (List.mem_of_getElem? (i := 137) (by decide +kernel)) rfl
theorem lRX4_58 : Cond.methodLink RX4 58 (mN M_X4_isLetter) ∈ TB := tb2 (List.mem_of_getElem? (i := 141) (by decide +kernel)) rfl
theorem lRX4_62 : Cond.methodLink RX4 62 (mN M_X4_letterOfToken) ∈ TB := tb2 (List.mem_of_getElem? (i := 145) (by decide +kernel)) rfl
theorem lRX4_68 : Cond.methodLink RX4 68 (mN M_X2_tellOrder) ∈ TB := tb2 (List.mem_of_getElem? (i := 149) (by decide +kernel)) rfl
theorem lRX4_37 : Cond.methodLink RX4 37 (mN M_X4_readPeople) ∈ TB := tb2 (List.mem_of_getElem? (i := 153) (by decide +kernel)) rfl
theorem lRX4_78 : Cond.methodLink RX4 78 (mN M_X4_readPerson) ∈ TB := tb2 (List.mem_of_getElem? (i := 157) (by decide +kernel)) rfl
theorem lRX4_85 : Cond.methodLink RX4 85 (mN M_X2_putLetter) ∈ TB := tb2 (List.mem_of_getElem? (i := 161) (by decide +kernel)) rfl
theorem nRX7_126 : Cond.constant RX7 126 (Int32.ofInt (-1000100)) ∈ TB := tb2 (List.mem_of_getElem? (i := 165) (by decide +kernel)) rfl
theorem lRX7_130 : Cond.methodLink RX7 130 (mN M_X2_takeFrom) ∈ TB := tb2 (List.mem_of_getElem? (i := 166) (by decide +kernel)) rfl
theorem lRX2_59 : Cond.methodLink RX2 59 arraycopyName ∈ TB := tb2 (List.mem_of_getElem? (i := 170) (by decide +kernel)) rfl
theorem lRX7_134 : Cond.methodLink RX7 134 (mN M_X0_forgetAll) ∈ TB := tb2 (List.mem_of_getElem? (i := 171) (by decide +kernel)) rfl
theorem lRL_41 : Cond.methodLink RL 41 (mN M_X7_fault) ∈ TB := tb2 (List.mem_of_getElem? (i := 175) (by decide +kernel)) rfl
theorem lRL_45 : Cond.methodLink RL 45 (mN M_X7_days) ∈ TB := tb2 (List.mem_of_getElem? (i := 179) (by decide +kernel)) rfl
theorem nRX7_144 : Cond.constant RX7 144 (Int32.ofInt (-1000002)) ∈ TB := tb2 (List.mem_of_getElem? (i := 183) (by decide +kernel)) rfl
theorem lRX7_148 : Cond.methodLink RX7 148 (mN M_X2_seatTill) ∈ TB := tb2 (List.mem_of_getElem? (i := 184) (by decide +kernel)) rfl
theorem lRX2_119 : Cond.methodLink RX2 119 (mN M_X2_openDay) ∈ TB := tb2 (List.mem_of_getElem? (i := 188) (by decide +kernel)) rfl
theorem nRX2_127 : Cond.constant RX2 127 (Int32.ofInt (2147483647)) ∈ TB := tb2 (List.mem_of_getElem? (i := 192) (by decide +kernel)) rfl
theorem lRX2_96 : Cond.methodLink RX2 96 (mN M_X2_servesOn) ∈ TB := tb2 (List.mem_of_getElem? (i := 193) (by decide +kernel)) rfl
theorem lRX2_88 : Cond.methodLink RX2 88 (mN M_X2_isSeated) ∈ TB := tb2 (List.mem_of_getElem? (i := 197) (by decide +kernel)) rfl
theorem lRX2_92 : Cond.methodLink RX2 92 (mN M_X2_freeDay) ∈ TB := tb2 (List.mem_of_getElem? (i := 201) (by decide +kernel)) rfl
theorem lRX2_70 : Cond.methodLink RX2 70 Lib.Math.min.name ∈ TB := tb2 (List.mem_of_getElem? (i := 205) (by decide +kernel)) rfl
theorem lRX2_122 : Cond.methodLink RX2 122 (mN M_X2_firstOn) ∈ TB := tb2 (List.mem_of_getElem? (i := 208) (by decide +kernel)) rfl
theorem lRX2_106 : Cond.methodLink RX2 106 (mN M_X2_turnOn) ∈ TB := tb2 (List.mem_of_getElem? (i := 212) (by decide +kernel)) rfl
theorem lRX2_100 : Cond.methodLink RX2 100 (mN M_X2_waitsOn) ∈ TB := tb2 (List.mem_of_getElem? (i := 216) (by decide +kernel)) rfl
theorem lRX2_113 : Cond.methodLink RX2 113 (mN M_X2_lettersAsBits) ∈ TB := tb2 (List.mem_of_getElem? (i := 220) (by decide +kernel)) rfl
theorem lRX2_66 : Cond.methodLink RX2 66 (mN M_X2_letterOf) ∈ TB := tb2 (List.mem_of_getElem? (i := 224) (by decide +kernel)) rfl
theorem lRX2_109 : Cond.methodLink RX2 109 (mN M_X2_isBefore) ∈ TB := tb2 (List.mem_of_getElem? (i := 228) (by decide +kernel)) rfl
theorem zRX2_81 : Cond.fieldLinkNest RX2 81 (sC 1) (sN 1) "[I" "AlphaCourt" ∈ lw_tbl := List.mem_append_right _ (List.mem_append_right _ (List.mem_append_left _ (List.mem_of_getElem? (i := 232) (by decide +kernel))))
theorem lRX2_84 : Cond.methodLink RX2 84 (mN M_X2_compareNames) ∈ TB := tb2 (List.mem_of_getElem? (i := 234) (by decide +kernel)) rfl
theorem lRX2_75 : Cond.methodLink RX2 75 (mN M_X2_letterAsRead) ∈ TB := tb2 (List.mem_of_getElem? (i := 238) (by decide +kernel)) rfl
theorem lRX2_78 : Cond.methodLink RX2 78 (mN M_X2_placeInOrder) ∈ TB := tb3 (List.mem_of_getElem? (i := 2) (by decide +kernel)) rfl
theorem lRX7_151 : Cond.methodLink RX7 151 (mN M_X0_keepDay) ∈ TB := tb3 (List.mem_of_getElem? (i := 6) (by decide +kernel)) rfl
theorem lRX0_28 : Cond.methodLink RX0 28 (mN M_X0_keep) ∈ TB := tb3 (List.mem_of_getElem? (i := 10) (by decide +kernel)) rfl
theorem lRX0_35 : Cond.methodLink RX0 35 (mN M_X0_latestPlace) ∈ TB := tb3 (List.mem_of_getElem? (i := 14) (by decide +kernel)) rfl
theorem lRX7_154 : Cond.methodLink RX7 154 (mN M_X2_howMany) ∈ TB := tb3 (List.mem_of_getElem? (i := 18) (by decide +kernel)) rfl
theorem lRX2_103 : Cond.methodLink RX2 103 (mN M_X2_stateOf) ∈ TB := tb3 (List.mem_of_getElem? (i := 22) (by decide +kernel)) rfl
theorem lRL_49 : Cond.methodLink RL 49 (mN M_X7_forge) ∈ TB := tb3 (List.mem_of_getElem? (i := 26) (by decide +kernel)) rfl
theorem lRX7_157 : Cond.methodLink RX7 157 (mN M_X7_isPlaceOfName) ∈ TB := tb3 (List.mem_of_getElem? (i := 30) (by decide +kernel)) rfl
theorem lRX7_187 : Cond.methodLink RX7 187 (mN M_X7_isPerson) ∈ TB := tb3 (List.mem_of_getElem? (i := 34) (by decide +kernel)) rfl
theorem lRX7_160 : Cond.methodLink RX7 160 (mN M_X2_letterOf) ∈ TB := tb3 (List.mem_of_getElem? (i := 38) (by decide +kernel)) rfl
theorem lRX7_167 : Cond.methodLink RX7 167 (mN M_X2_waitsOn) ∈ TB := tb3 (List.mem_of_getElem? (i := 39) (by decide +kernel)) rfl
theorem lRX7_170 : Cond.methodLink RX7 170 (mN M_X2_putLetter) ∈ TB := tb3 (List.mem_of_getElem? (i := 40) (by decide +kernel)) rfl
theorem lRX7_174 : Cond.methodLink RX7 174 (mN M_X0_keepForged) ∈ TB := tb3 (List.mem_of_getElem? (i := 41) (by decide +kernel)) rfl
theorem lRL_53 : Cond.methodLink RL 53 (mN M_X7_lose) ∈ TB := tb3 (List.mem_of_getElem? (i := 45) (by decide +kernel)) rfl
theorem lRX7_180 : Cond.methodLink RX7 180 (mN M_X0_keepLost) ∈ TB := tb3 (List.mem_of_getElem? (i := 49) (by decide +kernel)) rfl
theorem lRL_58 : Cond.methodLink RL 58 (mN M_X7_undo) ∈ TB := tb3 (List.mem_of_getElem? (i := 53) (by decide +kernel)) rfl
theorem lRX7_184 : Cond.methodLink RX7 184 (mN M_X0_takeBack) ∈ TB := tb3 (List.mem_of_getElem? (i := 57) (by decide +kernel)) rfl
theorem lRX0_39 : Cond.methodLink RX0 39 (mN M_X2_takeBackDay) ∈ TB := tb3 (List.mem_of_getElem? (i := 61) (by decide +kernel)) rfl
theorem lRX0_44 : Cond.methodLink RX0 44 (mN M_X2_putLetter) ∈ TB := tb3 (List.mem_of_getElem? (i := 65) (by decide +kernel)) rfl
theorem lRL_62 : Cond.methodLink RL 62 (mN M_X7_person) ∈ TB := tb3 (List.mem_of_getElem? (i := 66) (by decide +kernel)) rfl
theorem lRX7_200 : Cond.methodLink RX7 200 (mN M_X2_stateOf) ∈ TB := tb3 (List.mem_of_getElem? (i := 70) (by decide +kernel)) rfl
theorem lRX7_203 : Cond.methodLink RX7 203 (mN M_X2_freeDay) ∈ TB := tb3 (List.mem_of_getElem? (i := 71) (by decide +kernel)) rfl
theorem lRX7_206 : Cond.methodLink RX7 206 (mN M_X2_howManyBefore) ∈ TB := tb3 (List.mem_of_getElem? (i := 72) (by decide +kernel)) rfl
theorem nRX7_209 : Cond.constant RX7 209 (Int32.ofInt (-1000000)) ∈ TB := tb3 (List.mem_of_getElem? (i := 76) (by decide +kernel)) rfl
theorem lRL_66 : Cond.methodLink RL 66 (mN M_X7_name) ∈ TB := tb3 (List.mem_of_getElem? (i := 77) (by decide +kernel)) rfl
theorem lRL_70 : Cond.methodLink RL 70 (mN M_X7_order) ∈ TB := tb3 (List.mem_of_getElem? (i := 81) (by decide +kernel)) rfl
theorem lRX7_210 : Cond.methodLink RX7 210 (mN M_X2_turnOn) ∈ TB := tb3 (List.mem_of_getElem? (i := 85) (by decide +kernel)) rfl
theorem lRX7_213 : Cond.methodLink RX7 213 (mN M_X2_letterInOrder) ∈ TB := tb3 (List.mem_of_getElem? (i := 86) (by decide +kernel)) rfl
theorem lRL_74 : Cond.methodLink RL 74 (mN M_X7_when) ∈ TB := tb3 (List.mem_of_getElem? (i := 90) (by decide +kernel)) rfl
theorem lRX7_216 : Cond.methodLink RX7 216 (mN M_X7_foretell) ∈ TB := tb3 (List.mem_of_getElem? (i := 94) (by decide +kernel)) rfl
theorem lRX7_220 : Cond.methodLink RX7 220 (mN M_X2_isSeated) ∈ TB := tb3 (List.mem_of_getElem? (i := 98) (by decide +kernel)) rfl
theorem lRL_78 : Cond.methodLink RL 78 (mN M_X7_waited) ∈ TB := tb3 (List.mem_of_getElem? (i := 99) (by decide +kernel)) rfl
theorem lRX7_226 : Cond.methodLink RX7 226 (mN M_X2_waitedByAll) ∈ TB := tb3 (List.mem_of_getElem? (i := 103) (by decide +kernel)) rfl
theorem lRL_82 : Cond.methodLink RL 82 (mN M_X7_last) ∈ TB := tb3 (List.mem_of_getElem? (i := 107) (by decide +kernel)) rfl
theorem lRX7_230 : Cond.methodLink RX7 230 (mN M_X5_findFewest) ∈ TB := tb3 (List.mem_of_getElem? (i := 111) (by decide +kernel)) rfl
theorem lRX5_18 : Cond.methodLink RX5 18 (mN M_X2_takeFrom) ∈ TB := tb3 (List.mem_of_getElem? (i := 115) (by decide +kernel)) rfl
theorem lRX5_26 : Cond.methodLink RX5 26 (mN M_X2_turnOn) ∈ TB := tb3 (List.mem_of_getElem? (i := 116) (by decide +kernel)) rfl
theorem lRX5_30 : Cond.methodLink RX5 30 (mN M_X2_lastWaitingBut) ∈ TB := tb3 (List.mem_of_getElem? (i := 117) (by decide +kernel)) rfl
theorem lRX5_33 : Cond.methodLink RX5 33 (mN M_X5_canBeBehind) ∈ TB := tb3 (List.mem_of_getElem? (i := 121) (by decide +kernel)) rfl
theorem lRX5_46 : Cond.methodLink RX5 46 (mN M_X2_letterInOrder) ∈ TB := tb3 (List.mem_of_getElem? (i := 125) (by decide +kernel)) rfl
theorem lRX5_49 : Cond.methodLink RX5 49 (mN M_X2_putLetter) ∈ TB := tb3 (List.mem_of_getElem? (i := 126) (by decide +kernel)) rfl
theorem lRX5_53 : Cond.methodLink RX5 53 (mN M_X2_isBefore) ∈ TB := tb3 (List.mem_of_getElem? (i := 127) (by decide +kernel)) rfl
theorem nRX5_37 : Cond.constant RX5 37 (Int32.ofInt (-1000000)) ∈ TB := tb3 (List.mem_of_getElem? (i := 128) (by decide +kernel)) rfl
theorem lRX5_42 : Cond.methodLink RX5 42 (mN M_X5_tryNames) ∈ TB := tb3 (List.mem_of_getElem? (i := 129) (by decide +kernel)) rfl
theorem lRX5_56 : Cond.methodLink RX5 56 (mN M_X2_letterOf) ∈ TB := tb3 (List.mem_of_getElem? (i := 133) (by decide +kernel)) rfl
theorem lRL_86 : Cond.methodLink RL 86 (mN M_X7_best) ∈ TB := tb3 (List.mem_of_getElem? (i := 134) (by decide +kernel)) rfl
theorem lRL_90 : Cond.methodLink RL 90 (mN M_X7_warden) ∈ TB := tb3 (List.mem_of_getElem? (i := 138) (by decide +kernel)) rfl
theorem lRX7_237 : Cond.methodLink RX7 237 (mN M_X3_plan) ∈ TB := tb3 (List.mem_of_getElem? (i := 142) (by decide +kernel)) rfl
theorem lRX3_21 : Cond.methodLink RX3 21 (mN M_X3_openSeats) ∈ TB := tb3 (List.mem_of_getElem? (i := 146) (by decide +kernel)) rfl
theorem lRX3_40 : Cond.methodLink RX3 40 (mN M_X2_stateOf) ∈ TB := tb3 (List.mem_of_getElem? (i := 150) (by decide +kernel)) rfl
theorem lRX3_61 : Cond.methodLink RX3 61 (mN M_X2_freeDay) ∈ TB := tb3 (List.mem_of_getElem? (i := 151) (by decide +kernel)) rfl
theorem nRX3_31 : Cond.constant RX3 31 (Int32.ofInt (2147483647)) ∈ TB := tb3 (List.mem_of_getElem? (i := 152) (by decide +kernel)) rfl
theorem lRX3_44 : Cond.methodLink RX3 44 (mN M_X2_isSeated) ∈ TB := tb3 (List.mem_of_getElem? (i := 153) (by decide +kernel)) rfl
theorem lRX3_54 : Cond.methodLink RX3 54 (mN M_X3_seatOneByOne) ∈ TB := tb3 (List.mem_of_getElem? (i := 154) (by decide +kernel)) rfl
theorem lRX3_68 : Cond.methodLink RX3 68 arraycopyName ∈ TB := tb3 (List.mem_of_getElem? (i := 158) (by decide +kernel)) rfl
theorem lRX3_74 : Cond.methodLink RX3 74 (mN M_X3_firstOpenSeat) ∈ TB := tb3 (List.mem_of_getElem? (i := 159) (by decide +kernel)) rfl
theorem lRL_94 : Cond.methodLink RL 94 (mN M_X7_frees) ∈ TB := tb3 (List.mem_of_getElem? (i := 163) (by decide +kernel)) rfl
theorem lRX7_247 : Cond.methodLink RX7 247 (mN M_X2_howManyWaitWith) ∈ TB := tb3 (List.mem_of_getElem? (i := 167) (by decide +kernel)) rfl
theorem lRL_98 : Cond.methodLink RL 98 (mN M_X7_ledger) ∈ TB := tb3 (List.mem_of_getElem? (i := 171) (by decide +kernel)) rfl
theorem lRX7_250 : Cond.methodLink RX7 250 (mN M_X7_areAllPeople) ∈ TB := tb3 (List.mem_of_getElem? (i := 175) (by decide +kernel)) rfl
theorem lRX7_254 : Cond.methodLink RX7 254 (mN M_X7_areSeatedNext) ∈ TB := tb3 (List.mem_of_getElem? (i := 179) (by decide +kernel)) rfl
theorem lRL_102 : Cond.methodLink RL 102 (mN M_X7_image) ∈ TB := tb3 (List.mem_of_getElem? (i := 183) (by decide +kernel)) rfl
theorem lRL_106 : Cond.methodLink RL 106 (mN M_X7_restore) ∈ TB := tb3 (List.mem_of_getElem? (i := 187) (by decide +kernel)) rfl
theorem lRL_110 : Cond.methodLink RL 110 (mN M_X7_kind) ∈ TB := tb3 (List.mem_of_getElem? (i := 191) (by decide +kernel)) rfl
theorem lRL_114 : Cond.methodLink RL 114 (mN M_X7_as) ∈ TB := tb3 (List.mem_of_getElem? (i := 195) (by decide +kernel)) rfl
theorem lRX7_258 : Cond.methodLink RX7 258 (mN M_X7_isOfKind) ∈ TB := tb3 (List.mem_of_getElem? (i := 199) (by decide +kernel)) rfl
theorem zRX7_283 : Cond.fieldLink RX7 283 (sC 0) (sN 0) "[I" ∈ TB := tb3 (List.mem_of_getElem? (i := 202) (by decide +kernel)) rfl
theorem lRL_118 : Cond.methodLink RL 118 (mN M_X7_ask) ∈ TB := tb3 (List.mem_of_getElem? (i := 204) (by decide +kernel)) rfl
theorem lRX7_261 : Cond.methodLink RX7 261 (mN M_X1_answer) ∈ TB := tb3 (List.mem_of_getElem? (i := 208) (by decide +kernel)) rfl
theorem zRX1_24 : Cond.fieldLink RX1 24 (sC 2) (sN 2) "[I" ∈ TB := tb3 (List.mem_of_getElem? (i := 212) (by decide +kernel)) rfl
theorem zRX1_27 : Cond.fieldLink RX1 27 (sC 3) (sN 3) "[I" ∈ TB := tb3 (List.mem_of_getElem? (i := 214) (by decide +kernel)) rfl
theorem lRX1_30 : Cond.methodLink RX1 30 (mN M_X1_give) ∈ TB := tb3 (List.mem_of_getElem? (i := 216) (by decide +kernel)) rfl
theorem lRX1_34 : Cond.methodLink RX1 34 (mN M_X1_leave) ∈ TB := tb3 (List.mem_of_getElem? (i := 220) (by decide +kernel)) rfl
theorem lRL_122 : Cond.methodLink RL 122 (mN M_X7_trace) ∈ TB := tb3 (List.mem_of_getElem? (i := 224) (by decide +kernel)) rfl
theorem lRL_126 : Cond.methodLink RL 126 (mN M_X7_count) ∈ TB := tb3 (List.mem_of_getElem? (i := 228) (by decide +kernel)) rfl
theorem lRX7_271 : Cond.methodLink RX7 271 (mN M_X7_howManyRows) ∈ TB := tb3 (List.mem_of_getElem? (i := 232) (by decide +kernel)) rfl
theorem lRL_130 : Cond.methodLink RL 130 (mN M_X7_status) ∈ TB := tb3 (List.mem_of_getElem? (i := 236) (by decide +kernel)) rfl
theorem nRX8_59 : Cond.constant RX8 59 (Int32.ofInt (-1000000)) ∈ TB := tb4 (List.mem_of_getElem? (i := 6) (by decide +kernel)) rfl
theorem fRX8_7 : Fk RX8 7 8 0 := ⟨RX8, TX8, 27, rfl, by decide, uRX8, tb4 (List.mem_of_getElem? (i := 7) (by decide +kernel)) rfl⟩
theorem fRX8_13 : Fk RX8 13 8 1 := ⟨RX8, TX8, 27, rfl, by decide, uRX8, tb4 (List.mem_of_getElem? (i := 8) (by decide +kernel)) rfl⟩
theorem fRX8_16 : Fk RX8 16 8 2 := ⟨RX8, TX8, 27, rfl, by decide, uRX8, tb4 (List.mem_of_getElem? (i := 9) (by decide +kernel)) rfl⟩
theorem fRX8_19 : Fk RX8 19 8 3 := ⟨RX8, TX8, 27, rfl, by decide, uRX8, tb4 (List.mem_of_getElem? (i := 10) (by decide +kernel)) rfl⟩
theorem fRX8_60 : Fk RX8 60 8 4 := ⟨RX8, TX8, 27, rfl, by decide, uRX8, tb4 (List.mem_of_getElem? (i := 11) (by decide +kernel)) rfl⟩
theorem pfRX8_60 : Fp RX8 60 8 4 .int := ⟨RX8, TX8, 27, tyX8, rfl, by decide, uRX8, tb4 (List.mem_of_getElem? (i := 11) (by decide +kernel)) rfl, tyX8_ok, nmX8, rfl, by decide +kernel⟩
theorem fRX8_22 : Fk RX8 22 8 5 := ⟨RX8, TX8, 27, rfl, by decide, uRX8, tb4 (List.mem_of_getElem? (i := 12) (by decide +kernel)) rfl⟩
theorem fRX8_91 : Fk RX8 91 8 6 := ⟨RX8, TX8, 27, rfl, by decide, uRX8, tb4 (List.mem_of_getElem? (i := 13) (by decide +kernel)) rfl⟩
theorem pfRX8_91 : Fp RX8 91 8 6 .int := ⟨RX8, TX8, 27, tyX8, rfl, by decide, uRX8, tb4 (List.mem_of_getElem? (i := 13) (by decide +kernel)) rfl, tyX8_ok, nmX8, rfl, by decide +kernel⟩
theorem fRX8_117 : Fk RX8 117 8 7 := ⟨RX8, TX8, 27, rfl, by decide, uRX8, tb4 (List.mem_of_getElem? (i := 14) (by decide +kernel)) rfl⟩
theorem pfRX8_117 : Fp RX8 117 8 7 .int := ⟨RX8, TX8, 27, tyX8, rfl, by decide, uRX8, tb4 (List.mem_of_getElem? (i := 14) (by decide +kernel)) rfl, tyX8_ok, nmX8, rfl, by decide +kernel⟩
theorem fRX8_110 : Fk RX8 110 8 8 := ⟨RX8, TX8, 27, rfl, by decide, uRX8, tb4 (List.mem_of_getElem? (i := 15) (by decide +kernel)) rfl⟩
theorem pfRX8_110 : Fp RX8 110 8 8 .int := ⟨RX8, TX8, 27, tyX8, rfl, by decide, uRX8, tb4 (List.mem_of_getElem? (i := 15) (by decide +kernel)) rfl, tyX8_ok, nmX8, rfl, by decide +kernel⟩
theorem fRX8_95 : Fk RX8 95 8 9 := ⟨RX8, TX8, 27, rfl, by decide, uRX8, tb4 (List.mem_of_getElem? (i := 16) (by decide +kernel)) rfl⟩
theorem pfRX8_95 : Fp RX8 95 8 9 .int := ⟨RX8, TX8, 27, tyX8, rfl, by decide, uRX8, tb4 (List.mem_of_getElem? (i := 16) (by decide +kernel)) rfl, tyX8_ok, nmX8, rfl, by decide +kernel⟩
theorem fRX8_98 : Fk RX8 98 8 10 := ⟨RX8, TX8, 27, rfl, by decide, uRX8, tb4 (List.mem_of_getElem? (i := 17) (by decide +kernel)) rfl⟩
theorem pfRX8_98 : Fp RX8 98 8 10 .int := ⟨RX8, TX8, 27, tyX8, rfl, by decide, uRX8, tb4 (List.mem_of_getElem? (i := 17) (by decide +kernel)) rfl, tyX8_ok, nmX8, rfl, by decide +kernel⟩
theorem fRX8_107 : Fk RX8 107 8 11 := ⟨RX8, TX8, 27, rfl, by decide, uRX8, tb4 (List.mem_of_getElem? (i := 18) (by decide +kernel)) rfl⟩
theorem pfRX8_107 : Fp RX8 107 8 11 .int := ⟨RX8, TX8, 27, tyX8, rfl, by decide, uRX8, tb4 (List.mem_of_getElem? (i := 18) (by decide +kernel)) rfl, tyX8_ok, nmX8, rfl, by decide +kernel⟩
theorem fRX8_104 : Fk RX8 104 8 12 := ⟨RX8, TX8, 27, rfl, by decide, uRX8, tb4 (List.mem_of_getElem? (i := 19) (by decide +kernel)) rfl⟩
theorem pfRX8_104 : Fp RX8 104 8 12 .int := ⟨RX8, TX8, 27, tyX8, rfl, by decide, uRX8, tb4 (List.mem_of_getElem? (i := 19) (by decide +kernel)) rfl, tyX8_ok, nmX8, rfl, by decide +kernel⟩
theorem fRX8_25 : Fk RX8 25 8 13 := ⟨RX8, TX8, 27, rfl, by decide, uRX8, tb4 (List.mem_of_getElem? (i := 20) (by decide +kernel)) rfl⟩
theorem fRX8_28 : Fk RX8 28 8 14 := ⟨RX8, TX8, 27, rfl, by decide, uRX8, tb4 (List.mem_of_getElem? (i := 21) (by decide +kernel)) rfl⟩
theorem fRX8_31 : Fk RX8 31 8 15 := ⟨RX8, TX8, 27, rfl, by decide, uRX8, tb4 (List.mem_of_getElem? (i := 22) (by decide +kernel)) rfl⟩
theorem fRX8_34 : Fk RX8 34 8 16 := ⟨RX8, TX8, 27, rfl, by decide, uRX8, tb4 (List.mem_of_getElem? (i := 23) (by decide +kernel)) rfl⟩
theorem fRX8_155 : Fk RX8 155 8 17 := ⟨RX8, TX8, 27, rfl, by decide, uRX8, tb4 (List.mem_of_getElem? (i := 24) (by decide +kernel)) rfl⟩
theorem pfRX8_155 : Fp RX8 155 8 17 .int := ⟨RX8, TX8, 27, tyX8, rfl, by decide, uRX8, tb4 (List.mem_of_getElem? (i := 24) (by decide +kernel)) rfl, tyX8_ok, nmX8, rfl, by decide +kernel⟩
theorem fRX8_37 : Fk RX8 37 8 18 := ⟨RX8, TX8, 27, rfl, by decide, uRX8, tb4 (List.mem_of_getElem? (i := 25) (by decide +kernel)) rfl⟩
theorem fRX8_40 : Fk RX8 40 8 19 := ⟨RX8, TX8, 27, rfl, by decide, uRX8, tb4 (List.mem_of_getElem? (i := 26) (by decide +kernel)) rfl⟩
theorem fRX8_44 : Fk RX8 44 8 20 := ⟨RX8, TX8, 27, rfl, by decide, uRX8, tb4 (List.mem_of_getElem? (i := 27) (by decide +kernel)) rfl⟩
theorem fRX8_248 : Fk RX8 248 8 21 := ⟨RX8, TX8, 27, rfl, by decide, uRX8, tb4 (List.mem_of_getElem? (i := 28) (by decide +kernel)) rfl⟩
theorem pfRX8_248 : Fp RX8 248 8 21 .int := ⟨RX8, TX8, 27, tyX8, rfl, by decide, uRX8, tb4 (List.mem_of_getElem? (i := 28) (by decide +kernel)) rfl, tyX8_ok, nmX8, rfl, by decide +kernel⟩
theorem fRX8_47 : Fk RX8 47 8 22 := ⟨RX8, TX8, 27, rfl, by decide, uRX8, tb4 (List.mem_of_getElem? (i := 29) (by decide +kernel)) rfl⟩
theorem fRX8_187 : Fk RX8 187 8 23 := ⟨RX8, TX8, 27, rfl, by decide, uRX8, tb4 (List.mem_of_getElem? (i := 30) (by decide +kernel)) rfl⟩
theorem pfRX8_187 : Fp RX8 187 8 23 .int := ⟨RX8, TX8, 27, tyX8, rfl, by decide, uRX8, tb4 (List.mem_of_getElem? (i := 30) (by decide +kernel)) rfl, tyX8_ok, nmX8, rfl, by decide +kernel⟩
theorem fRX8_50 : Fk RX8 50 8 24 := ⟨RX8, TX8, 27, rfl, by decide, uRX8, tb4 (List.mem_of_getElem? (i := 31) (by decide +kernel)) rfl⟩
theorem fRX8_53 : Fk RX8 53 8 25 := ⟨RX8, TX8, 27, rfl, by decide, uRX8, tb4 (List.mem_of_getElem? (i := 32) (by decide +kernel)) rfl⟩
theorem fRX8_56 : Fk RX8 56 8 26 := ⟨RX8, TX8, 27, rfl, by decide, uRX8, tb4 (List.mem_of_getElem? (i := 33) (by decide +kernel)) rfl⟩
theorem lRL_17 : Cond.methodLink RL 17 (mN M_X8_row) ∈ TB := tb4 (List.mem_of_getElem? (i := 90) (by decide +kernel)) rfl
theorem lRX8_69 : Cond.methodLink RX8 69 (mN M_X8_isRow) ∈ TB := tb4 (List.mem_of_getElem? (i := 94) (by decide +kernel)) rfl
theorem lRX8_65 : Cond.methodLink RX8 65 (mN M_X8_in) ∈ TB := tb4 (List.mem_of_getElem? (i := 97) (by decide +kernel)) rfl
theorem nRX8_73 : Cond.constant RX8 73 (Int32.ofInt (-1000001)) ∈ TB := tb4 (List.mem_of_getElem? (i := 100) (by decide +kernel)) rfl
theorem lRX8_74 : Cond.methodLink RX8 74 (mN M_X8_found) ∈ TB := tb4 (List.mem_of_getElem? (i := 101) (by decide +kernel)) rfl
theorem nRX8_64 : Cond.constant RX8 64 (Int32.ofInt (-1000010)) ∈ TB := tb4 (List.mem_of_getElem? (i := 105) (by decide +kernel)) rfl
theorem lRX8_78 : Cond.methodLink RX8 78 (mN M_X8_well) ∈ TB := tb4 (List.mem_of_getElem? (i := 106) (by decide +kernel)) rfl
theorem lRL_21 : Cond.methodLink RL 21 (mN M_X8_set) ∈ TB := tb4 (List.mem_of_getElem? (i := 110) (by decide +kernel)) rfl
theorem lRX8_81 : Cond.methodLink RX8 81 (mN M_X8_isMissing) ∈ TB := tb4 (List.mem_of_getElem? (i := 114) (by decide +kernel)) rfl
theorem lRX8_84 : Cond.methodLink RX8 84 (mN M_X8_cut) ∈ TB := tb4 (List.mem_of_getElem? (i := 118) (by decide +kernel)) rfl
theorem lRL_26 : Cond.methodLink RL 26 (mN M_X8_copy) ∈ TB := tb4 (List.mem_of_getElem? (i := 121) (by decide +kernel)) rfl
theorem lRX8_88 : Cond.methodLink RX8 88 (mN M_X8_isPart) ∈ TB := tb4 (List.mem_of_getElem? (i := 125) (by decide +kernel)) rfl
theorem lRL_31 : Cond.methodLink RL 31 (mN M_X8_drop) ∈ TB := tb4 (List.mem_of_getElem? (i := 129) (by decide +kernel)) rfl
theorem lRL_35 : Cond.methodLink RL 35 (mN M_X8_feed) ∈ TB := tb4 (List.mem_of_getElem? (i := 133) (by decide +kernel)) rfl
theorem nRX8_94 : Cond.constant RX8 94 (Int32.ofInt (-1000003)) ∈ TB := tb4 (List.mem_of_getElem? (i := 137) (by decide +kernel)) rfl
theorem lRL_40 : Cond.methodLink RL 40 (mN M_X8_court) ∈ TB := tb4 (List.mem_of_getElem? (i := 138) (by decide +kernel)) rfl
theorem lRX8_120 : Cond.methodLink RX8 120 (mN M_X8_advances) ∈ TB := tb4 (List.mem_of_getElem? (i := 142) (by decide +kernel)) rfl
theorem lRX8_101 : Cond.methodLink RX8 101 (mN M_X8_byteAt) ∈ TB := tb4 (List.mem_of_getElem? (i := 146) (by decide +kernel)) rfl
theorem lRX8_123 : Cond.methodLink RX8 123 (mN M_X8_takes) ∈ TB := tb4 (List.mem_of_getElem? (i := 150) (by decide +kernel)) rfl
theorem lRX8_113 : Cond.methodLink RX8 113 (mN M_X8_isWell) ∈ TB := tb4 (List.mem_of_getElem? (i := 154) (by decide +kernel)) rfl
theorem lRX8_141 : Cond.methodLink RX8 141 (mN M_X8_figure) ∈ TB := tb4 (List.mem_of_getElem? (i := 158) (by decide +kernel)) rfl
theorem lRX8_144 : Cond.methodLink RX8 144 (mN M_X8_readsOrder) ∈ TB := tb4 (List.mem_of_getElem? (i := 162) (by decide +kernel)) rfl
theorem lRX8_127 : Cond.methodLink RX8 127 (mN M_X8_isName) ∈ TB := tb4 (List.mem_of_getElem? (i := 166) (by decide +kernel)) rfl
theorem lRX8_130 : Cond.methodLink RX8 130 (mN M_X8_has) ∈ TB := tb4 (List.mem_of_getElem? (i := 170) (by decide +kernel)) rfl
theorem lRX8_134 : Cond.methodLink RX8 134 (mN M_X8_kindOf) ∈ TB := tb4 (List.mem_of_getElem? (i := 173) (by decide +kernel)) rfl
theorem lRX8_147 : Cond.methodLink RX8 147 (mN M_X8_readsPerson) ∈ TB := tb4 (List.mem_of_getElem? (i := 176) (by decide +kernel)) rfl
theorem lRX8_137 : Cond.methodLink RX8 137 (mN M_X8_takes2) ∈ TB := tb4 (List.mem_of_getElem? (i := 180) (by decide +kernel)) rfl
theorem nRX8_150 : Cond.constant RX8 150 (Int32.ofInt (-1000100)) ∈ TB := tb4 (List.mem_of_getElem? (i := 184) (by decide +kernel)) rfl
theorem lRX8_151 : Cond.methodLink RX8 151 (mN M_X8_copies) ∈ TB := tb4 (List.mem_of_getElem? (i := 185) (by decide +kernel)) rfl
theorem lRL_44 : Cond.methodLink RL 44 (mN M_X8_fault) ∈ TB := tb4 (List.mem_of_getElem? (i := 188) (by decide +kernel)) rfl
theorem lRL_48 : Cond.methodLink RL 48 (mN M_X8_days) ∈ TB := tb4 (List.mem_of_getElem? (i := 192) (by decide +kernel)) rfl
theorem lRX8_200 : Cond.methodLink RX8 200 (mN M_X8_isCourt) ∈ TB := tb4 (List.mem_of_getElem? (i := 196) (by decide +kernel)) rfl
theorem nRX8_203 : Cond.constant RX8 203 (Int32.ofInt (-1000002)) ∈ TB := tb4 (List.mem_of_getElem? (i := 200) (by decide +kernel)) rfl
theorem lRX8_204 : Cond.methodLink RX8 204 (mN M_X8_notes) ∈ TB := tb4 (List.mem_of_getElem? (i := 201) (by decide +kernel)) rfl
theorem lRX8_207 : Cond.methodLink RX8 207 (mN M_X8_passes) ∈ TB := tb4 (List.mem_of_getElem? (i := 205) (by decide +kernel)) rfl
theorem lRX8_183 : Cond.methodLink RX8 183 (mN M_X8_ages) ∈ TB := tb4 (List.mem_of_getElem? (i := 209) (by decide +kernel)) rfl
theorem lRX8_190 : Cond.methodLink RX8 190 (mN M_X8_nextBy) ∈ TB := tb4 (List.mem_of_getElem? (i := 212) (by decide +kernel)) rfl
theorem lRX8_172 : Cond.methodLink RX8 172 (mN M_X8_waits) ∈ TB := tb4 (List.mem_of_getElem? (i := 215) (by decide +kernel)) rfl
theorem lRX8_158 : Cond.methodLink RX8 158 (mN M_X8_of) ∈ TB := tb4 (List.mem_of_getElem? (i := 218) (by decide +kernel)) rfl
theorem lRX8_176 : Cond.methodLink RX8 176 (mN M_X8_isLost) ∈ TB := tb4 (List.mem_of_getElem? (i := 221) (by decide +kernel)) rfl
theorem lRX8_179 : Cond.methodLink RX8 179 (mN M_X8_isBefore) ∈ TB := tb4 (List.mem_of_getElem? (i := 224) (by decide +kernel)) rfl
theorem lRX8_162 : Cond.methodLink RX8 162 (mN M_X8_classOf) ∈ TB := tb4 (List.mem_of_getElem? (i := 227) (by decide +kernel)) rfl
theorem lRX8_166 : Cond.methodLink RX8 166 (mN M_X8_letterOf) ∈ TB := tb4 (List.mem_of_getElem? (i := 230) (by decide +kernel)) rfl
theorem lRX8_169 : Cond.methodLink RX8 169 (mN M_X8_rank) ∈ TB := tb4 (List.mem_of_getElem? (i := 233) (by decide +kernel)) rfl
theorem lRX8_193 : Cond.methodLink RX8 193 (mN M_X8_manySo) ∈ TB := tb4 (List.mem_of_getElem? (i := 236) (by decide +kernel)) rfl
theorem lRX8_196 : Cond.methodLink RX8 196 (mN M_X8_seats) ∈ TB := tb4 (List.mem_of_getElem? (i := 239) (by decide +kernel)) rfl
theorem lRL_52 : Cond.methodLink RL 52 (mN M_X8_forge) ∈ TB := tb5 (List.mem_of_getElem? (i := 2) (by decide +kernel)) rfl
theorem lRX8_213 : Cond.methodLink RX8 213 (mN M_X8_isPlaceOf) ∈ TB := tb5 (List.mem_of_getElem? (i := 6) (by decide +kernel)) rfl
theorem lRX8_210 : Cond.methodLink RX8 210 (mN M_X8_isPerson) ∈ TB := tb5 (List.mem_of_getElem? (i := 10) (by decide +kernel)) rfl
theorem lRL_57 : Cond.methodLink RL 57 (mN M_X8_lose) ∈ TB := tb5 (List.mem_of_getElem? (i := 14) (by decide +kernel)) rfl
theorem lRL_61 : Cond.methodLink RL 61 (mN M_X8_undo) ∈ TB := tb5 (List.mem_of_getElem? (i := 18) (by decide +kernel)) rfl
theorem lRL_65 : Cond.methodLink RL 65 (mN M_X8_person) ∈ TB := tb5 (List.mem_of_getElem? (i := 22) (by decide +kernel)) rfl
theorem lRX8_216 : Cond.methodLink RX8 216 (mN M_X8_beforeIt) ∈ TB := tb5 (List.mem_of_getElem? (i := 26) (by decide +kernel)) rfl
theorem lRL_69 : Cond.methodLink RL 69 (mN M_X8_name) ∈ TB := tb5 (List.mem_of_getElem? (i := 30) (by decide +kernel)) rfl
theorem lRL_73 : Cond.methodLink RL 73 (mN M_X8_order) ∈ TB := tb5 (List.mem_of_getElem? (i := 34) (by decide +kernel)) rfl
theorem lRL_77 : Cond.methodLink RL 77 (mN M_X8_when) ∈ TB := tb5 (List.mem_of_getElem? (i := 38) (by decide +kernel)) rfl
theorem lRX8_219 : Cond.methodLink RX8 219 (mN M_X8_goes) ∈ TB := tb5 (List.mem_of_getElem? (i := 42) (by decide +kernel)) rfl
theorem lRL_81 : Cond.methodLink RL 81 (mN M_X8_waited) ∈ TB := tb5 (List.mem_of_getElem? (i := 46) (by decide +kernel)) rfl
theorem lRX8_223 : Cond.methodLink RX8 223 (mN M_X8_waitedTried) ∈ TB := tb5 (List.mem_of_getElem? (i := 50) (by decide +kernel)) rfl
theorem lRL_85 : Cond.methodLink RL 85 (mN M_X8_last) ∈ TB := tb5 (List.mem_of_getElem? (i := 54) (by decide +kernel)) rfl
theorem lRX8_227 : Cond.methodLink RX8 227 (mN M_X8_power) ∈ TB := tb5 (List.mem_of_getElem? (i := 58) (by decide +kernel)) rfl
theorem lRX8_230 : Cond.methodLink RX8 230 (mN M_X8_lays) ∈ TB := tb5 (List.mem_of_getElem? (i := 61) (by decide +kernel)) rfl
theorem lRX8_233 : Cond.methodLink RX8 233 (mN M_X8_isLast) ∈ TB := tb5 (List.mem_of_getElem? (i := 65) (by decide +kernel)) rfl
theorem lRL_89 : Cond.methodLink RL 89 (mN M_X8_best) ∈ TB := tb5 (List.mem_of_getElem? (i := 69) (by decide +kernel)) rfl
theorem lRL_93 : Cond.methodLink RL 93 (mN M_X8_warden) ∈ TB := tb5 (List.mem_of_getElem? (i := 73) (by decide +kernel)) rfl
theorem lRX8_236 : Cond.methodLink RX8 236 (mN M_X8_lines) ∈ TB := tb5 (List.mem_of_getElem? (i := 77) (by decide +kernel)) rfl
theorem lRX8_239 : Cond.methodLink RX8 239 (mN M_X8_waitedByLine) ∈ TB := tb5 (List.mem_of_getElem? (i := 81) (by decide +kernel)) rfl
theorem lRX8_242 : Cond.methodLink RX8 242 (mN M_X8_waited) ∈ TB := tb5 (List.mem_of_getElem? (i := 85) (by decide +kernel)) rfl
theorem lRL_97 : Cond.methodLink RL 97 (mN M_X8_frees) ∈ TB := tb5 (List.mem_of_getElem? (i := 86) (by decide +kernel)) rfl
theorem lRX8_245 : Cond.methodLink RX8 245 (mN M_X8_passedBy) ∈ TB := tb5 (List.mem_of_getElem? (i := 90) (by decide +kernel)) rfl
theorem lRL_101 : Cond.methodLink RL 101 (mN M_X8_ledger) ∈ TB := tb5 (List.mem_of_getElem? (i := 94) (by decide +kernel)) rfl
theorem lRL_105 : Cond.methodLink RL 105 (mN M_X8_image) ∈ TB := tb5 (List.mem_of_getElem? (i := 98) (by decide +kernel)) rfl
theorem lRL_109 : Cond.methodLink RL 109 (mN M_X8_restore) ∈ TB := tb5 (List.mem_of_getElem? (i := 102) (by decide +kernel)) rfl
theorem lRL_113 : Cond.methodLink RL 113 (mN M_X8_kind) ∈ TB := tb5 (List.mem_of_getElem? (i := 106) (by decide +kernel)) rfl
theorem lRL_117 : Cond.methodLink RL 117 (mN M_X8_as) ∈ TB := tb5 (List.mem_of_getElem? (i := 110) (by decide +kernel)) rfl
theorem lRL_121 : Cond.methodLink RL 121 (mN M_X8_ask) ∈ TB := tb5 (List.mem_of_getElem? (i := 114) (by decide +kernel)) rfl
theorem lRX8_257 : Cond.methodLink RX8 257 (mN M_X8_saintSize) ∈ TB := tb5 (List.mem_of_getElem? (i := 118) (by decide +kernel)) rfl
theorem lRX8_251 : Cond.methodLink RX8 251 (mN M_X8_begins) ∈ TB := tb5 (List.mem_of_getElem? (i := 122) (by decide +kernel)) rfl
theorem lRX8_260 : Cond.methodLink RX8 260 (mN M_X8_plainSize) ∈ TB := tb5 (List.mem_of_getElem? (i := 126) (by decide +kernel)) rfl
theorem lRX8_254 : Cond.methodLink RX8 254 (mN M_X8_plainMark) ∈ TB := tb5 (List.mem_of_getElem? (i := 130) (by decide +kernel)) rfl
theorem lRX8_263 : Cond.methodLink RX8 263 (mN M_X8_saintMark) ∈ TB := tb5 (List.mem_of_getElem? (i := 134) (by decide +kernel)) rfl
theorem lRL_125 : Cond.methodLink RL 125 (mN M_X8_trace) ∈ TB := tb5 (List.mem_of_getElem? (i := 138) (by decide +kernel)) rfl
theorem lRL_129 : Cond.methodLink RL 129 (mN M_X8_count) ∈ TB := tb5 (List.mem_of_getElem? (i := 142) (by decide +kernel)) rfl
theorem lRL_133 : Cond.methodLink RL 133 (mN M_X8_status) ∈ TB := tb5 (List.mem_of_getElem? (i := 146) (by decide +kernel)) rfl
theorem min_st : Cond.static Lib.Math.min.name ∈ TB := tb2 (List.mem_of_getElem? (i := 206) (by decide +kernel)) rfl
theorem min_in : Cond.initialized "java/lang/Math" ∈ TB := tb1 (List.mem_of_getElem? (i := 11) (by decide +kernel)) rfl
theorem min_co : Cond.code Lib.Math.min.name Lib.Math.min.code 2 (some .int) ∈ TB := tb2 (List.mem_of_getElem? (i := 207) (by decide +kernel)) rfl
theorem acp_na : Cond.native arraycopyName ∈ TB := tb2 (List.mem_of_getElem? (i := 82) (by decide +kernel)) rfl
theorem acp_st : Cond.static arraycopyName ∈ TB := tb2 (List.mem_of_getElem? (i := 81) (by decide +kernel)) rfl
theorem acp_in : Cond.initialized "java/lang/System" ∈ TB := tb1 (List.mem_of_getElem? (i := 10) (by decide +kernel)) rfl
def M_law : Mth := (RL, cL_law, 4, some .boolean, x)
end
section
theorem DM_X0_init_0 : decode (mC M_X0_init) 0 = .ok (.aload_n 0, 1) := by decide +kernel
theorem DM_X0_init_1 : decode (mC M_X0_init) 1 = .ok (.invokespecial 3, 3) := by decide +kernel
theorem DM_X0_init_4 : decode (mC M_X0_init) 4 = .ok (.aload_n 0, 1) := by decide +kernel
theorem DM_X0_init_5 : decode (mC M_X0_init) 5 = .ok (.bipush 24, 2) := by decide +kernel
theorem DM_X0_init_7 : decode (mC M_X0_init) 7 = .ok (.newarray .int, 2) := by decide +kernel
theorem DM_X0_init_9 : decode (mC M_X0_init) 9 = .ok (.putfield 9, 3) := by decide +kernel
theorem DM_X0_init_12 : decode (mC M_X0_init) 12 = .ok (.aload_n 0, 1) := by decide +kernel
theorem DM_X0_init_13 : decode (mC M_X0_init) 13 = .ok (.bipush 24, 2) := by decide +kernel
theorem DM_X0_init_15 : decode (mC M_X0_init) 15 = .ok (.newarray .int, 2) := by decide +kernel
theorem DM_X0_init_17 : decode (mC M_X0_init) 17 = .ok (.putfield 15, 3) := by decide +kernel
theorem DM_X0_init_20 : decode (mC M_X0_init) 20 = .ok (.aload_n 0, 1) := by decide +kernel
theorem DM_X0_init_21 : decode (mC M_X0_init) 21 = .ok (.bipush 24, 2) := by decide +kernel
theorem DM_X0_init_23 : decode (mC M_X0_init) 23 = .ok (.newarray .int, 2) := by decide +kernel
theorem DM_X0_init_25 : decode (mC M_X0_init) 25 = .ok (.putfield 18, 3) := by decide +kernel
theorem DM_X0_init_28 : decode (mC M_X0_init) 28 = .ok (.aload_n 0, 1) := by decide +kernel
theorem DM_X0_init_29 : decode (mC M_X0_init) 29 = .ok (.bipush 24, 2) := by decide +kernel
theorem DM_X0_init_31 : decode (mC M_X0_init) 31 = .ok (.newarray .int, 2) := by decide +kernel
theorem DM_X0_init_33 : decode (mC M_X0_init) 33 = .ok (.putfield 21, 3) := by decide +kernel
theorem DM_X0_init_36 : decode (mC M_X0_init) 36 = .ok (.return_, 1) := by decide +kernel
theorem DM_X0_forgetAll_0 : decode (mC M_X0_forgetAll) 0 = .ok (.aload_n 0, 1) := by decide +kernel
theorem DM_X0_forgetAll_1 : decode (mC M_X0_forgetAll) 1 = .ok (.iconst 0, 1) := by decide +kernel
theorem DM_X0_forgetAll_2 : decode (mC M_X0_forgetAll) 2 = .ok (.putfield 24, 3) := by decide +kernel
theorem DM_X0_forgetAll_5 : decode (mC M_X0_forgetAll) 5 = .ok (.return_, 1) := by decide +kernel
theorem DM_X0_keepDay_0 : decode (mC M_X0_keepDay) 0 = .ok (.aload_n 0, 1) := by decide +kernel
theorem DM_X0_keepDay_1 : decode (mC M_X0_keepDay) 1 = .ok (.iconst 0, 1) := by decide +kernel
theorem DM_X0_keepDay_2 : decode (mC M_X0_keepDay) 2 = .ok (.iconst 0, 1) := by decide +kernel
theorem DM_X0_keepDay_3 : decode (mC M_X0_keepDay) 3 = .ok (.iconst 0, 1) := by decide +kernel
theorem DM_X0_keepDay_4 : decode (mC M_X0_keepDay) 4 = .ok (.iconst 0, 1) := by decide +kernel
theorem DM_X0_keepDay_5 : decode (mC M_X0_keepDay) 5 = .ok (.invokevirtual 28, 3) := by decide +kernel
theorem DM_X0_keepDay_8 : decode (mC M_X0_keepDay) 8 = .ok (.return_, 1) := by decide +kernel
theorem DM_X0_keepForged_0 : decode (mC M_X0_keepForged) 0 = .ok (.aload_n 0, 1) := by decide +kernel
theorem DM_X0_keepForged_1 : decode (mC M_X0_keepForged) 1 = .ok (.iconst 1, 1) := by decide +kernel
theorem DM_X0_keepForged_2 : decode (mC M_X0_keepForged) 2 = .ok (.iload_n 1, 1) := by decide +kernel
theorem DM_X0_keepForged_3 : decode (mC M_X0_keepForged) 3 = .ok (.iload_n 2, 1) := by decide +kernel
theorem DM_X0_keepForged_4 : decode (mC M_X0_keepForged) 4 = .ok (.iload_n 3, 1) := by decide +kernel
theorem DM_X0_keepForged_5 : decode (mC M_X0_keepForged) 5 = .ok (.invokevirtual 28, 3) := by decide +kernel
theorem DM_X0_keepForged_8 : decode (mC M_X0_keepForged) 8 = .ok (.return_, 1) := by decide +kernel
theorem DM_X0_keepLost_0 : decode (mC M_X0_keepLost) 0 = .ok (.aload_n 0, 1) := by decide +kernel
theorem DM_X0_keepLost_1 : decode (mC M_X0_keepLost) 1 = .ok (.iconst 2, 1) := by decide +kernel
theorem DM_X0_keepLost_2 : decode (mC M_X0_keepLost) 2 = .ok (.iconst 0, 1) := by decide +kernel
theorem DM_X0_keepLost_3 : decode (mC M_X0_keepLost) 3 = .ok (.iconst 0, 1) := by decide +kernel
theorem DM_X0_keepLost_4 : decode (mC M_X0_keepLost) 4 = .ok (.iload_n 1, 1) := by decide +kernel
theorem DM_X0_keepLost_5 : decode (mC M_X0_keepLost) 5 = .ok (.invokevirtual 28, 3) := by decide +kernel
theorem DM_X0_keepLost_8 : decode (mC M_X0_keepLost) 8 = .ok (.return_, 1) := by decide +kernel
theorem DM_X0_keep_0 : decode (mC M_X0_keep) 0 = .ok (.aload_n 0, 1) := by decide +kernel
theorem DM_X0_keep_1 : decode (mC M_X0_keep) 1 = .ok (.getfield 24, 3) := by decide +kernel
theorem DM_X0_keep_4 : decode (mC M_X0_keep) 4 = .ok (.bipush 24, 2) := by decide +kernel
theorem DM_X0_keep_6 : decode (mC M_X0_keep) 6 = .ok (.if_icmp .ge 16, 3) := by decide +kernel
theorem DM_X0_keep_9 : decode (mC M_X0_keep) 9 = .ok (.aload_n 0, 1) := by decide +kernel
theorem DM_X0_keep_10 : decode (mC M_X0_keep) 10 = .ok (.dup, 1) := by decide +kernel
theorem DM_X0_keep_11 : decode (mC M_X0_keep) 11 = .ok (.getfield 24, 3) := by decide +kernel
theorem DM_X0_keep_14 : decode (mC M_X0_keep) 14 = .ok (.iconst 1, 1) := by decide +kernel
theorem DM_X0_keep_15 : decode (mC M_X0_keep) 15 = .ok (.iadd, 1) := by decide +kernel
theorem DM_X0_keep_16 : decode (mC M_X0_keep) 16 = .ok (.putfield 24, 3) := by decide +kernel
theorem DM_X0_keep_19 : decode (mC M_X0_keep) 19 = .ok (.goto 16, 3) := by decide +kernel
theorem DM_X0_keep_22 : decode (mC M_X0_keep) 22 = .ok (.aload_n 0, 1) := by decide +kernel
theorem DM_X0_keep_23 : decode (mC M_X0_keep) 23 = .ok (.aload_n 0, 1) := by decide +kernel
theorem DM_X0_keep_24 : decode (mC M_X0_keep) 24 = .ok (.getfield 32, 3) := by decide +kernel
theorem DM_X0_keep_27 : decode (mC M_X0_keep) 27 = .ok (.iconst 1, 1) := by decide +kernel
theorem DM_X0_keep_28 : decode (mC M_X0_keep) 28 = .ok (.iadd, 1) := by decide +kernel
theorem DM_X0_keep_29 : decode (mC M_X0_keep) 29 = .ok (.bipush 24, 2) := by decide +kernel
theorem DM_X0_keep_31 : decode (mC M_X0_keep) 31 = .ok (.irem, 1) := by decide +kernel
theorem DM_X0_keep_32 : decode (mC M_X0_keep) 32 = .ok (.putfield 32, 3) := by decide +kernel
theorem DM_X0_keep_35 : decode (mC M_X0_keep) 35 = .ok (.aload_n 0, 1) := by decide +kernel
theorem DM_X0_keep_36 : decode (mC M_X0_keep) 36 = .ok (.invokevirtual 35, 3) := by decide +kernel
theorem DM_X0_keep_39 : decode (mC M_X0_keep) 39 = .ok (.istore 5, 2) := by decide +kernel
theorem DM_X0_keep_41 : decode (mC M_X0_keep) 41 = .ok (.aload_n 0, 1) := by decide +kernel
theorem DM_X0_keep_42 : decode (mC M_X0_keep) 42 = .ok (.getfield 9, 3) := by decide +kernel
theorem DM_X0_keep_45 : decode (mC M_X0_keep) 45 = .ok (.iload 5, 2) := by decide +kernel
theorem DM_X0_keep_47 : decode (mC M_X0_keep) 47 = .ok (.iload_n 1, 1) := by decide +kernel
theorem DM_X0_keep_48 : decode (mC M_X0_keep) 48 = .ok (.iastore, 1) := by decide +kernel
theorem DM_X0_keep_49 : decode (mC M_X0_keep) 49 = .ok (.aload_n 0, 1) := by decide +kernel
theorem DM_X0_keep_50 : decode (mC M_X0_keep) 50 = .ok (.getfield 15, 3) := by decide +kernel
theorem DM_X0_keep_53 : decode (mC M_X0_keep) 53 = .ok (.iload 5, 2) := by decide +kernel
theorem DM_X0_keep_55 : decode (mC M_X0_keep) 55 = .ok (.iload_n 2, 1) := by decide +kernel
theorem DM_X0_keep_56 : decode (mC M_X0_keep) 56 = .ok (.iastore, 1) := by decide +kernel
theorem DM_X0_keep_57 : decode (mC M_X0_keep) 57 = .ok (.aload_n 0, 1) := by decide +kernel
theorem DM_X0_keep_58 : decode (mC M_X0_keep) 58 = .ok (.getfield 18, 3) := by decide +kernel
theorem DM_X0_keep_61 : decode (mC M_X0_keep) 61 = .ok (.iload 5, 2) := by decide +kernel
theorem DM_X0_keep_63 : decode (mC M_X0_keep) 63 = .ok (.iload_n 3, 1) := by decide +kernel
theorem DM_X0_keep_64 : decode (mC M_X0_keep) 64 = .ok (.iastore, 1) := by decide +kernel
theorem DM_X0_keep_65 : decode (mC M_X0_keep) 65 = .ok (.aload_n 0, 1) := by decide +kernel
theorem DM_X0_keep_66 : decode (mC M_X0_keep) 66 = .ok (.getfield 21, 3) := by decide +kernel
theorem DM_X0_keep_69 : decode (mC M_X0_keep) 69 = .ok (.iload 5, 2) := by decide +kernel
theorem DM_X0_keep_71 : decode (mC M_X0_keep) 71 = .ok (.iload 4, 2) := by decide +kernel
theorem DM_X0_keep_73 : decode (mC M_X0_keep) 73 = .ok (.iastore, 1) := by decide +kernel
theorem DM_X0_keep_74 : decode (mC M_X0_keep) 74 = .ok (.return_, 1) := by decide +kernel
theorem DM_X0_latestPlace_0 : decode (mC M_X0_latestPlace) 0 = .ok (.aload_n 0, 1) := by decide +kernel
theorem DM_X0_latestPlace_1 : decode (mC M_X0_latestPlace) 1 = .ok (.getfield 32, 3) := by decide +kernel
theorem DM_X0_latestPlace_4 : decode (mC M_X0_latestPlace) 4 = .ok (.aload_n 0, 1) := by decide +kernel
theorem DM_X0_latestPlace_5 : decode (mC M_X0_latestPlace) 5 = .ok (.getfield 24, 3) := by decide +kernel
theorem DM_X0_latestPlace_8 : decode (mC M_X0_latestPlace) 8 = .ok (.iadd, 1) := by decide +kernel
theorem DM_X0_latestPlace_9 : decode (mC M_X0_latestPlace) 9 = .ok (.iconst 1, 1) := by decide +kernel
theorem DM_X0_latestPlace_10 : decode (mC M_X0_latestPlace) 10 = .ok (.isub, 1) := by decide +kernel
theorem DM_X0_latestPlace_11 : decode (mC M_X0_latestPlace) 11 = .ok (.bipush 24, 2) := by decide +kernel
theorem DM_X0_latestPlace_13 : decode (mC M_X0_latestPlace) 13 = .ok (.irem, 1) := by decide +kernel
theorem DM_X0_latestPlace_14 : decode (mC M_X0_latestPlace) 14 = .ok (.ireturn, 1) := by decide +kernel
theorem DM_X0_takeBack_0 : decode (mC M_X0_takeBack) 0 = .ok (.aload_n 0, 1) := by decide +kernel
theorem DM_X0_takeBack_1 : decode (mC M_X0_takeBack) 1 = .ok (.getfield 24, 3) := by decide +kernel
theorem DM_X0_takeBack_4 : decode (mC M_X0_takeBack) 4 = .ok (.ifCond .ne 4, 3) := by decide +kernel
theorem DM_X0_takeBack_7 : decode (mC M_X0_takeBack) 7 = .ok (.return_, 1) := by decide +kernel
theorem DM_X0_takeBack_8 : decode (mC M_X0_takeBack) 8 = .ok (.aload_n 0, 1) := by decide +kernel
theorem DM_X0_takeBack_9 : decode (mC M_X0_takeBack) 9 = .ok (.invokevirtual 35, 3) := by decide +kernel
theorem DM_X0_takeBack_12 : decode (mC M_X0_takeBack) 12 = .ok (.istore_n 2, 1) := by decide +kernel
theorem DM_X0_takeBack_13 : decode (mC M_X0_takeBack) 13 = .ok (.aload_n 0, 1) := by decide +kernel
theorem DM_X0_takeBack_14 : decode (mC M_X0_takeBack) 14 = .ok (.dup, 1) := by decide +kernel
theorem DM_X0_takeBack_15 : decode (mC M_X0_takeBack) 15 = .ok (.getfield 24, 3) := by decide +kernel
theorem DM_X0_takeBack_18 : decode (mC M_X0_takeBack) 18 = .ok (.iconst 1, 1) := by decide +kernel
theorem DM_X0_takeBack_19 : decode (mC M_X0_takeBack) 19 = .ok (.isub, 1) := by decide +kernel
theorem DM_X0_takeBack_20 : decode (mC M_X0_takeBack) 20 = .ok (.putfield 24, 3) := by decide +kernel
theorem DM_X0_takeBack_23 : decode (mC M_X0_takeBack) 23 = .ok (.aload_n 0, 1) := by decide +kernel
theorem DM_X0_takeBack_24 : decode (mC M_X0_takeBack) 24 = .ok (.getfield 9, 3) := by decide +kernel
theorem DM_X0_takeBack_27 : decode (mC M_X0_takeBack) 27 = .ok (.iload_n 2, 1) := by decide +kernel
theorem DM_X0_takeBack_28 : decode (mC M_X0_takeBack) 28 = .ok (.iaload, 1) := by decide +kernel
theorem DM_X0_takeBack_29 : decode (mC M_X0_takeBack) 29 = .ok (.lookupswitch 59 #[(0, 27), (1, 34)], 27) := by decide +kernel
theorem DM_X0_takeBack_56 : decode (mC M_X0_takeBack) 56 = .ok (.aload_n 1, 1) := by decide +kernel
theorem DM_X0_takeBack_57 : decode (mC M_X0_takeBack) 57 = .ok (.invokevirtual 39, 3) := by decide +kernel
theorem DM_X0_takeBack_60 : decode (mC M_X0_takeBack) 60 = .ok (.goto 45, 3) := by decide +kernel
theorem DM_X0_takeBack_63 : decode (mC M_X0_takeBack) 63 = .ok (.aload_n 1, 1) := by decide +kernel
theorem DM_X0_takeBack_64 : decode (mC M_X0_takeBack) 64 = .ok (.aload_n 0, 1) := by decide +kernel
theorem DM_X0_takeBack_65 : decode (mC M_X0_takeBack) 65 = .ok (.getfield 15, 3) := by decide +kernel
theorem DM_X0_takeBack_68 : decode (mC M_X0_takeBack) 68 = .ok (.iload_n 2, 1) := by decide +kernel
theorem DM_X0_takeBack_69 : decode (mC M_X0_takeBack) 69 = .ok (.iaload, 1) := by decide +kernel
theorem DM_X0_takeBack_70 : decode (mC M_X0_takeBack) 70 = .ok (.aload_n 0, 1) := by decide +kernel
theorem DM_X0_takeBack_71 : decode (mC M_X0_takeBack) 71 = .ok (.getfield 18, 3) := by decide +kernel
theorem DM_X0_takeBack_74 : decode (mC M_X0_takeBack) 74 = .ok (.iload_n 2, 1) := by decide +kernel
theorem DM_X0_takeBack_75 : decode (mC M_X0_takeBack) 75 = .ok (.iaload, 1) := by decide +kernel
theorem DM_X0_takeBack_76 : decode (mC M_X0_takeBack) 76 = .ok (.aload_n 0, 1) := by decide +kernel
theorem DM_X0_takeBack_77 : decode (mC M_X0_takeBack) 77 = .ok (.getfield 21, 3) := by decide +kernel
theorem DM_X0_takeBack_80 : decode (mC M_X0_takeBack) 80 = .ok (.iload_n 2, 1) := by decide +kernel
theorem DM_X0_takeBack_81 : decode (mC M_X0_takeBack) 81 = .ok (.iaload, 1) := by decide +kernel
theorem DM_X0_takeBack_82 : decode (mC M_X0_takeBack) 82 = .ok (.invokevirtual 44, 3) := by decide +kernel
theorem DM_X0_takeBack_85 : decode (mC M_X0_takeBack) 85 = .ok (.goto 20, 3) := by decide +kernel
theorem DM_X0_takeBack_88 : decode (mC M_X0_takeBack) 88 = .ok (.aload_n 1, 1) := by decide +kernel
theorem DM_X0_takeBack_89 : decode (mC M_X0_takeBack) 89 = .ok (.dup, 1) := by decide +kernel
theorem DM_X0_takeBack_90 : decode (mC M_X0_takeBack) 90 = .ok (.getfield 48, 3) := by decide +kernel
theorem DM_X0_takeBack_93 : decode (mC M_X0_takeBack) 93 = .ok (.iconst 1, 1) := by decide +kernel
theorem DM_X0_takeBack_94 : decode (mC M_X0_takeBack) 94 = .ok (.aload_n 0, 1) := by decide +kernel
theorem DM_X0_takeBack_95 : decode (mC M_X0_takeBack) 95 = .ok (.getfield 21, 3) := by decide +kernel
theorem DM_X0_takeBack_98 : decode (mC M_X0_takeBack) 98 = .ok (.iload_n 2, 1) := by decide +kernel
theorem DM_X0_takeBack_99 : decode (mC M_X0_takeBack) 99 = .ok (.iaload, 1) := by decide +kernel
theorem DM_X0_takeBack_100 : decode (mC M_X0_takeBack) 100 = .ok (.ishl, 1) := by decide +kernel
theorem DM_X0_takeBack_101 : decode (mC M_X0_takeBack) 101 = .ok (.ixor, 1) := by decide +kernel
theorem DM_X0_takeBack_102 : decode (mC M_X0_takeBack) 102 = .ok (.putfield 48, 3) := by decide +kernel
theorem DM_X0_takeBack_105 : decode (mC M_X0_takeBack) 105 = .ok (.return_, 1) := by decide +kernel
theorem DM_X1_init_0 : decode (mC M_X1_init) 0 = .ok (.aload_n 0, 1) := by decide +kernel
theorem DM_X1_init_1 : decode (mC M_X1_init) 1 = .ok (.invokespecial 3, 3) := by decide +kernel
theorem DM_X1_init_4 : decode (mC M_X1_init) 4 = .ok (.aload_n 0, 1) := by decide +kernel
theorem DM_X1_init_5 : decode (mC M_X1_init) 5 = .ok (.bipush 16, 2) := by decide +kernel
theorem DM_X1_init_7 : decode (mC M_X1_init) 7 = .ok (.newarray .int, 2) := by decide +kernel
theorem DM_X1_init_9 : decode (mC M_X1_init) 9 = .ok (.putfield 9, 3) := by decide +kernel
theorem DM_X1_init_12 : decode (mC M_X1_init) 12 = .ok (.return_, 1) := by decide +kernel
theorem DM_X1_answer_0 : decode (mC M_X1_answer) 0 = .ok (.aload_n 0, 1) := by decide +kernel
theorem DM_X1_answer_1 : decode (mC M_X1_answer) 1 = .ok (.iconst 0, 1) := by decide +kernel
theorem DM_X1_answer_2 : decode (mC M_X1_answer) 2 = .ok (.putfield 15, 3) := by decide +kernel
theorem DM_X1_answer_5 : decode (mC M_X1_answer) 5 = .ok (.aload_n 1, 1) := by decide +kernel
theorem DM_X1_answer_6 : decode (mC M_X1_answer) 6 = .ok (.getfield 19, 3) := by decide +kernel
theorem DM_X1_answer_9 : decode (mC M_X1_answer) 9 = .ok (.iload_n 2, 1) := by decide +kernel
theorem DM_X1_answer_10 : decode (mC M_X1_answer) 10 = .ok (.iaload, 1) := by decide +kernel
theorem DM_X1_answer_11 : decode (mC M_X1_answer) 11 = .ok (.istore 4, 2) := by decide +kernel
theorem DM_X1_answer_13 : decode (mC M_X1_answer) 13 = .ok (.aload_n 0, 1) := by decide +kernel
theorem DM_X1_answer_14 : decode (mC M_X1_answer) 14 = .ok (.aload_n 1, 1) := by decide +kernel
theorem DM_X1_answer_15 : decode (mC M_X1_answer) 15 = .ok (.iload_n 2, 1) := by decide +kernel
theorem DM_X1_answer_16 : decode (mC M_X1_answer) 16 = .ok (.iload_n 3, 1) := by decide +kernel
theorem DM_X1_answer_17 : decode (mC M_X1_answer) 17 = .ok (.ifCond .ne 12, 3) := by decide +kernel
theorem DM_X1_answer_20 : decode (mC M_X1_answer) 20 = .ok (.getstatic 24, 3) := by decide +kernel
theorem DM_X1_answer_23 : decode (mC M_X1_answer) 23 = .ok (.iload 4, 2) := by decide +kernel
theorem DM_X1_answer_25 : decode (mC M_X1_answer) 25 = .ok (.iaload, 1) := by decide +kernel
theorem DM_X1_answer_26 : decode (mC M_X1_answer) 26 = .ok (.goto 9, 3) := by decide +kernel
theorem DM_X1_answer_29 : decode (mC M_X1_answer) 29 = .ok (.getstatic 27, 3) := by decide +kernel
theorem DM_X1_answer_32 : decode (mC M_X1_answer) 32 = .ok (.iload 4, 2) := by decide +kernel
theorem DM_X1_answer_34 : decode (mC M_X1_answer) 34 = .ok (.iaload, 1) := by decide +kernel
theorem DM_X1_answer_35 : decode (mC M_X1_answer) 35 = .ok (.iconst 0, 1) := by decide +kernel
theorem DM_X1_answer_36 : decode (mC M_X1_answer) 36 = .ok (.invokevirtual 30, 3) := by decide +kernel
theorem DM_X1_answer_39 : decode (mC M_X1_answer) 39 = .ok (.ireturn, 1) := by decide +kernel
theorem DM_X1_leave_0 : decode (mC M_X1_leave) 0 = .ok (.aload_n 0, 1) := by decide +kernel
theorem DM_X1_leave_1 : decode (mC M_X1_leave) 1 = .ok (.getfield 15, 3) := by decide +kernel
theorem DM_X1_leave_4 : decode (mC M_X1_leave) 4 = .ok (.bipush 16, 2) := by decide +kernel
theorem DM_X1_leave_6 : decode (mC M_X1_leave) 6 = .ok (.if_icmp .ge 23, 3) := by decide +kernel
theorem DM_X1_leave_9 : decode (mC M_X1_leave) 9 = .ok (.aload_n 0, 1) := by decide +kernel
theorem DM_X1_leave_10 : decode (mC M_X1_leave) 10 = .ok (.getfield 9, 3) := by decide +kernel
theorem DM_X1_leave_13 : decode (mC M_X1_leave) 13 = .ok (.aload_n 0, 1) := by decide +kernel
theorem DM_X1_leave_14 : decode (mC M_X1_leave) 14 = .ok (.getfield 15, 3) := by decide +kernel
theorem DM_X1_leave_17 : decode (mC M_X1_leave) 17 = .ok (.iload_n 1, 1) := by decide +kernel
theorem DM_X1_leave_18 : decode (mC M_X1_leave) 18 = .ok (.iastore, 1) := by decide +kernel
theorem DM_X1_leave_19 : decode (mC M_X1_leave) 19 = .ok (.aload_n 0, 1) := by decide +kernel
theorem DM_X1_leave_20 : decode (mC M_X1_leave) 20 = .ok (.dup, 1) := by decide +kernel
theorem DM_X1_leave_21 : decode (mC M_X1_leave) 21 = .ok (.getfield 15, 3) := by decide +kernel
theorem DM_X1_leave_24 : decode (mC M_X1_leave) 24 = .ok (.iconst 1, 1) := by decide +kernel
theorem DM_X1_leave_25 : decode (mC M_X1_leave) 25 = .ok (.iadd, 1) := by decide +kernel
theorem DM_X1_leave_26 : decode (mC M_X1_leave) 26 = .ok (.putfield 15, 3) := by decide +kernel
theorem DM_X1_leave_29 : decode (mC M_X1_leave) 29 = .ok (.return_, 1) := by decide +kernel
theorem DM_X1_give_0 : decode (mC M_X1_give) 0 = .ok (.iload 4, 2) := by decide +kernel
theorem DM_X1_give_2 : decode (mC M_X1_give) 2 = .ok (.bipush 12, 2) := by decide +kernel
theorem DM_X1_give_4 : decode (mC M_X1_give) 4 = .ok (.if_icmp .le 5, 3) := by decide +kernel
theorem DM_X1_give_7 : decode (mC M_X1_give) 7 = .ok (.iconst 0, 1) := by decide +kernel
theorem DM_X1_give_8 : decode (mC M_X1_give) 8 = .ok (.ireturn, 1) := by decide +kernel
theorem DM_X1_give_9 : decode (mC M_X1_give) 9 = .ok (.aload_n 0, 1) := by decide +kernel
theorem DM_X1_give_10 : decode (mC M_X1_give) 10 = .ok (.iload_n 3, 1) := by decide +kernel
theorem DM_X1_give_11 : decode (mC M_X1_give) 11 = .ok (.invokevirtual 34, 3) := by decide +kernel
theorem DM_X1_give_14 : decode (mC M_X1_give) 14 = .ok (.iload 4, 2) := by decide +kernel
theorem DM_X1_give_16 : decode (mC M_X1_give) 16 = .ok (.iconst 1, 1) := by decide +kernel
theorem DM_X1_give_17 : decode (mC M_X1_give) 17 = .ok (.iadd, 1) := by decide +kernel
theorem DM_X1_give_18 : decode (mC M_X1_give) 18 = .ok (.istore 5, 2) := by decide +kernel
theorem DM_X1_give_20 : decode (mC M_X1_give) 20 = .ok (.iload_n 3, 1) := by decide +kernel
theorem DM_X1_give_21 : decode (mC M_X1_give) 21 = .ok (.tableswitch 230 10 24 #[75, 82, 112, 125, 139, 230, 230, 230, 230, 230, 152, 154, 172, 187, 217], 75) := by decide +kernel
theorem DM_X1_give_96 : decode (mC M_X1_give) 96 = .ok (.aload_n 1, 1) := by decide +kernel
theorem DM_X1_give_97 : decode (mC M_X1_give) 97 = .ok (.getfield 38, 3) := by decide +kernel
theorem DM_X1_give_100 : decode (mC M_X1_give) 100 = .ok (.iload_n 2, 1) := by decide +kernel
theorem DM_X1_give_101 : decode (mC M_X1_give) 101 = .ok (.iaload, 1) := by decide +kernel
theorem DM_X1_give_102 : decode (mC M_X1_give) 102 = .ok (.ireturn, 1) := by decide +kernel
theorem DM_X1_give_103 : decode (mC M_X1_give) 103 = .ok (.aload_n 0, 1) := by decide +kernel
theorem DM_X1_give_104 : decode (mC M_X1_give) 104 = .ok (.aload_n 1, 1) := by decide +kernel
theorem DM_X1_give_105 : decode (mC M_X1_give) 105 = .ok (.iload_n 2, 1) := by decide +kernel
theorem DM_X1_give_106 : decode (mC M_X1_give) 106 = .ok (.bipush 10, 2) := by decide +kernel
theorem DM_X1_give_108 : decode (mC M_X1_give) 108 = .ok (.iload 5, 2) := by decide +kernel
theorem DM_X1_give_110 : decode (mC M_X1_give) 110 = .ok (.invokevirtual 30, 3) := by decide +kernel
theorem DM_X1_give_113 : decode (mC M_X1_give) 113 = .ok (.aload_n 0, 1) := by decide +kernel
theorem DM_X1_give_114 : decode (mC M_X1_give) 114 = .ok (.aload_n 1, 1) := by decide +kernel
theorem DM_X1_give_115 : decode (mC M_X1_give) 115 = .ok (.iload_n 2, 1) := by decide +kernel
theorem DM_X1_give_116 : decode (mC M_X1_give) 116 = .ok (.getstatic 27, 3) := by decide +kernel
theorem DM_X1_give_119 : decode (mC M_X1_give) 119 = .ok (.aload_n 1, 1) := by decide +kernel
theorem DM_X1_give_120 : decode (mC M_X1_give) 120 = .ok (.getfield 19, 3) := by decide +kernel
theorem DM_X1_give_123 : decode (mC M_X1_give) 123 = .ok (.iload_n 2, 1) := by decide +kernel
theorem DM_X1_give_124 : decode (mC M_X1_give) 124 = .ok (.iaload, 1) := by decide +kernel
theorem DM_X1_give_125 : decode (mC M_X1_give) 125 = .ok (.iaload, 1) := by decide +kernel
theorem DM_X1_give_126 : decode (mC M_X1_give) 126 = .ok (.iload 5, 2) := by decide +kernel
theorem DM_X1_give_128 : decode (mC M_X1_give) 128 = .ok (.invokevirtual 30, 3) := by decide +kernel
theorem DM_X1_give_131 : decode (mC M_X1_give) 131 = .ok (.iadd, 1) := by decide +kernel
theorem DM_X1_give_132 : decode (mC M_X1_give) 132 = .ok (.ireturn, 1) := by decide +kernel
theorem DM_X1_give_133 : decode (mC M_X1_give) 133 = .ok (.iconst 0, 1) := by decide +kernel
theorem DM_X1_give_134 : decode (mC M_X1_give) 134 = .ok (.aload_n 0, 1) := by decide +kernel
theorem DM_X1_give_135 : decode (mC M_X1_give) 135 = .ok (.aload_n 1, 1) := by decide +kernel
theorem DM_X1_give_136 : decode (mC M_X1_give) 136 = .ok (.iload_n 2, 1) := by decide +kernel
theorem DM_X1_give_137 : decode (mC M_X1_give) 137 = .ok (.bipush 11, 2) := by decide +kernel
theorem DM_X1_give_139 : decode (mC M_X1_give) 139 = .ok (.iload 5, 2) := by decide +kernel
theorem DM_X1_give_141 : decode (mC M_X1_give) 141 = .ok (.invokevirtual 30, 3) := by decide +kernel
theorem DM_X1_give_144 : decode (mC M_X1_give) 144 = .ok (.isub, 1) := by decide +kernel
theorem DM_X1_give_145 : decode (mC M_X1_give) 145 = .ok (.ireturn, 1) := by decide +kernel
theorem DM_X1_give_146 : decode (mC M_X1_give) 146 = .ok (.aload_n 0, 1) := by decide +kernel
theorem DM_X1_give_147 : decode (mC M_X1_give) 147 = .ok (.aload_n 1, 1) := by decide +kernel
theorem DM_X1_give_148 : decode (mC M_X1_give) 148 = .ok (.iload_n 2, 1) := by decide +kernel
theorem DM_X1_give_149 : decode (mC M_X1_give) 149 = .ok (.bipush 10, 2) := by decide +kernel
theorem DM_X1_give_151 : decode (mC M_X1_give) 151 = .ok (.iload 5, 2) := by decide +kernel
theorem DM_X1_give_153 : decode (mC M_X1_give) 153 = .ok (.invokevirtual 30, 3) := by decide +kernel
theorem DM_X1_give_156 : decode (mC M_X1_give) 156 = .ok (.bipush 100, 2) := by decide +kernel
theorem DM_X1_give_158 : decode (mC M_X1_give) 158 = .ok (.isub, 1) := by decide +kernel
theorem DM_X1_give_159 : decode (mC M_X1_give) 159 = .ok (.ireturn, 1) := by decide +kernel
theorem DM_X1_give_160 : decode (mC M_X1_give) 160 = .ok (.aload_n 0, 1) := by decide +kernel
theorem DM_X1_give_161 : decode (mC M_X1_give) 161 = .ok (.aload_n 1, 1) := by decide +kernel
theorem DM_X1_give_162 : decode (mC M_X1_give) 162 = .ok (.iload_n 2, 1) := by decide +kernel
theorem DM_X1_give_163 : decode (mC M_X1_give) 163 = .ok (.bipush 13, 2) := by decide +kernel
theorem DM_X1_give_165 : decode (mC M_X1_give) 165 = .ok (.iload 5, 2) := by decide +kernel
theorem DM_X1_give_167 : decode (mC M_X1_give) 167 = .ok (.invokevirtual 30, 3) := by decide +kernel
theorem DM_X1_give_170 : decode (mC M_X1_give) 170 = .ok (.iconst 2, 1) := by decide +kernel
theorem DM_X1_give_171 : decode (mC M_X1_give) 171 = .ok (.imul, 1) := by decide +kernel
theorem DM_X1_give_172 : decode (mC M_X1_give) 172 = .ok (.ireturn, 1) := by decide +kernel
theorem DM_X1_give_173 : decode (mC M_X1_give) 173 = .ok (.iload_n 2, 1) := by decide +kernel
theorem DM_X1_give_174 : decode (mC M_X1_give) 174 = .ok (.ireturn, 1) := by decide +kernel
theorem DM_X1_give_175 : decode (mC M_X1_give) 175 = .ok (.aload_n 0, 1) := by decide +kernel
theorem DM_X1_give_176 : decode (mC M_X1_give) 176 = .ok (.aload_n 1, 1) := by decide +kernel
theorem DM_X1_give_177 : decode (mC M_X1_give) 177 = .ok (.iload_n 2, 1) := by decide +kernel
theorem DM_X1_give_178 : decode (mC M_X1_give) 178 = .ok (.bipush 20, 2) := by decide +kernel
theorem DM_X1_give_180 : decode (mC M_X1_give) 180 = .ok (.iload 5, 2) := by decide +kernel
theorem DM_X1_give_182 : decode (mC M_X1_give) 182 = .ok (.invokevirtual 30, 3) := by decide +kernel
theorem DM_X1_give_185 : decode (mC M_X1_give) 185 = .ok (.aload_n 1, 1) := by decide +kernel
theorem DM_X1_give_186 : decode (mC M_X1_give) 186 = .ok (.getfield 41, 3) := by decide +kernel
theorem DM_X1_give_189 : decode (mC M_X1_give) 189 = .ok (.iload_n 2, 1) := by decide +kernel
theorem DM_X1_give_190 : decode (mC M_X1_give) 190 = .ok (.iaload, 1) := by decide +kernel
theorem DM_X1_give_191 : decode (mC M_X1_give) 191 = .ok (.iadd, 1) := by decide +kernel
theorem DM_X1_give_192 : decode (mC M_X1_give) 192 = .ok (.ireturn, 1) := by decide +kernel
theorem DM_X1_give_193 : decode (mC M_X1_give) 193 = .ok (.aload_n 0, 1) := by decide +kernel
theorem DM_X1_give_194 : decode (mC M_X1_give) 194 = .ok (.aload_n 1, 1) := by decide +kernel
theorem DM_X1_give_195 : decode (mC M_X1_give) 195 = .ok (.iload_n 2, 1) := by decide +kernel
theorem DM_X1_give_196 : decode (mC M_X1_give) 196 = .ok (.bipush 21, 2) := by decide +kernel
theorem DM_X1_give_198 : decode (mC M_X1_give) 198 = .ok (.iload 5, 2) := by decide +kernel
theorem DM_X1_give_200 : decode (mC M_X1_give) 200 = .ok (.invokevirtual 30, 3) := by decide +kernel
theorem DM_X1_give_203 : decode (mC M_X1_give) 203 = .ok (.sipush 1000, 3) := by decide +kernel
theorem DM_X1_give_206 : decode (mC M_X1_give) 206 = .ok (.isub, 1) := by decide +kernel
theorem DM_X1_give_207 : decode (mC M_X1_give) 207 = .ok (.ireturn, 1) := by decide +kernel
theorem DM_X1_give_208 : decode (mC M_X1_give) 208 = .ok (.aload_n 0, 1) := by decide +kernel
theorem DM_X1_give_209 : decode (mC M_X1_give) 209 = .ok (.aload_n 1, 1) := by decide +kernel
theorem DM_X1_give_210 : decode (mC M_X1_give) 210 = .ok (.iload_n 2, 1) := by decide +kernel
theorem DM_X1_give_211 : decode (mC M_X1_give) 211 = .ok (.bipush 20, 2) := by decide +kernel
theorem DM_X1_give_213 : decode (mC M_X1_give) 213 = .ok (.iload 5, 2) := by decide +kernel
theorem DM_X1_give_215 : decode (mC M_X1_give) 215 = .ok (.invokevirtual 30, 3) := by decide +kernel
theorem DM_X1_give_218 : decode (mC M_X1_give) 218 = .ok (.aload_n 0, 1) := by decide +kernel
theorem DM_X1_give_219 : decode (mC M_X1_give) 219 = .ok (.aload_n 1, 1) := by decide +kernel
theorem DM_X1_give_220 : decode (mC M_X1_give) 220 = .ok (.iload_n 2, 1) := by decide +kernel
theorem DM_X1_give_221 : decode (mC M_X1_give) 221 = .ok (.getstatic 24, 3) := by decide +kernel
theorem DM_X1_give_224 : decode (mC M_X1_give) 224 = .ok (.aload_n 1, 1) := by decide +kernel
theorem DM_X1_give_225 : decode (mC M_X1_give) 225 = .ok (.getfield 19, 3) := by decide +kernel
theorem DM_X1_give_228 : decode (mC M_X1_give) 228 = .ok (.iload_n 2, 1) := by decide +kernel
theorem DM_X1_give_229 : decode (mC M_X1_give) 229 = .ok (.iaload, 1) := by decide +kernel
theorem DM_X1_give_230 : decode (mC M_X1_give) 230 = .ok (.iaload, 1) := by decide +kernel
theorem DM_X1_give_231 : decode (mC M_X1_give) 231 = .ok (.iload 5, 2) := by decide +kernel
theorem DM_X1_give_233 : decode (mC M_X1_give) 233 = .ok (.invokevirtual 30, 3) := by decide +kernel
theorem DM_X1_give_236 : decode (mC M_X1_give) 236 = .ok (.isub, 1) := by decide +kernel
theorem DM_X1_give_237 : decode (mC M_X1_give) 237 = .ok (.ireturn, 1) := by decide +kernel
theorem DM_X1_give_238 : decode (mC M_X1_give) 238 = .ok (.aload_n 0, 1) := by decide +kernel
theorem DM_X1_give_239 : decode (mC M_X1_give) 239 = .ok (.aload_n 1, 1) := by decide +kernel
theorem DM_X1_give_240 : decode (mC M_X1_give) 240 = .ok (.iload_n 2, 1) := by decide +kernel
theorem DM_X1_give_241 : decode (mC M_X1_give) 241 = .ok (.bipush 21, 2) := by decide +kernel
theorem DM_X1_give_243 : decode (mC M_X1_give) 243 = .ok (.iload 5, 2) := by decide +kernel
theorem DM_X1_give_245 : decode (mC M_X1_give) 245 = .ok (.invokevirtual 30, 3) := by decide +kernel
theorem DM_X1_give_248 : decode (mC M_X1_give) 248 = .ok (.iconst 2, 1) := by decide +kernel
theorem DM_X1_give_249 : decode (mC M_X1_give) 249 = .ok (.imul, 1) := by decide +kernel
theorem DM_X1_give_250 : decode (mC M_X1_give) 250 = .ok (.ireturn, 1) := by decide +kernel
theorem DM_X1_give_251 : decode (mC M_X1_give) 251 = .ok (.iconst 0, 1) := by decide +kernel
theorem DM_X1_give_252 : decode (mC M_X1_give) 252 = .ok (.ireturn, 1) := by decide +kernel
theorem DM_X2_init_0 : decode (mC M_X2_init) 0 = .ok (.aload_n 0, 1) := by decide +kernel
theorem DM_X2_init_1 : decode (mC M_X2_init) 1 = .ok (.invokespecial 3, 3) := by decide +kernel
theorem DM_X2_init_4 : decode (mC M_X2_init) 4 = .ok (.aload_n 0, 1) := by decide +kernel
theorem DM_X2_init_5 : decode (mC M_X2_init) 5 = .ok (.bipush 8, 2) := by decide +kernel
theorem DM_X2_init_7 : decode (mC M_X2_init) 7 = .ok (.newarray .int, 2) := by decide +kernel
theorem DM_X2_init_9 : decode (mC M_X2_init) 9 = .ok (.putfield 9, 3) := by decide +kernel
theorem DM_X2_init_12 : decode (mC M_X2_init) 12 = .ok (.aload_n 0, 1) := by decide +kernel
theorem DM_X2_init_13 : decode (mC M_X2_init) 13 = .ok (.bipush 8, 2) := by decide +kernel
theorem DM_X2_init_15 : decode (mC M_X2_init) 15 = .ok (.newarray .int, 2) := by decide +kernel
theorem DM_X2_init_17 : decode (mC M_X2_init) 17 = .ok (.putfield 15, 3) := by decide +kernel
theorem DM_X2_init_20 : decode (mC M_X2_init) 20 = .ok (.aload_n 0, 1) := by decide +kernel
theorem DM_X2_init_21 : decode (mC M_X2_init) 21 = .ok (.bipush 6, 2) := by decide +kernel
theorem DM_X2_init_23 : decode (mC M_X2_init) 23 = .ok (.newarray .int, 2) := by decide +kernel
theorem DM_X2_init_25 : decode (mC M_X2_init) 25 = .ok (.putfield 18, 3) := by decide +kernel
theorem DM_X2_init_28 : decode (mC M_X2_init) 28 = .ok (.aload_n 0, 1) := by decide +kernel
theorem DM_X2_init_29 : decode (mC M_X2_init) 29 = .ok (.bipush 6, 2) := by decide +kernel
theorem DM_X2_init_31 : decode (mC M_X2_init) 31 = .ok (.newarray .int, 2) := by decide +kernel
theorem DM_X2_init_33 : decode (mC M_X2_init) 33 = .ok (.putfield 21, 3) := by decide +kernel
theorem DM_X2_init_36 : decode (mC M_X2_init) 36 = .ok (.aload_n 0, 1) := by decide +kernel
theorem DM_X2_init_37 : decode (mC M_X2_init) 37 = .ok (.bipush 24, 2) := by decide +kernel
theorem DM_X2_init_39 : decode (mC M_X2_init) 39 = .ok (.newarray .int, 2) := by decide +kernel
theorem DM_X2_init_41 : decode (mC M_X2_init) 41 = .ok (.putfield 24, 3) := by decide +kernel
theorem DM_X2_init_44 : decode (mC M_X2_init) 44 = .ok (.aload_n 0, 1) := by decide +kernel
theorem DM_X2_init_45 : decode (mC M_X2_init) 45 = .ok (.bipush 6, 2) := by decide +kernel
theorem DM_X2_init_47 : decode (mC M_X2_init) 47 = .ok (.newarray .int, 2) := by decide +kernel
theorem DM_X2_init_49 : decode (mC M_X2_init) 49 = .ok (.putfield 27, 3) := by decide +kernel
theorem DM_X2_init_52 : decode (mC M_X2_init) 52 = .ok (.aload_n 0, 1) := by decide +kernel
theorem DM_X2_init_53 : decode (mC M_X2_init) 53 = .ok (.bipush 6, 2) := by decide +kernel
theorem DM_X2_init_55 : decode (mC M_X2_init) 55 = .ok (.newarray .int, 2) := by decide +kernel
theorem DM_X2_init_57 : decode (mC M_X2_init) 57 = .ok (.putfield 30, 3) := by decide +kernel
theorem DM_X2_init_60 : decode (mC M_X2_init) 60 = .ok (.aload_n 0, 1) := by decide +kernel
theorem DM_X2_init_61 : decode (mC M_X2_init) 61 = .ok (.bipush 6, 2) := by decide +kernel
theorem DM_X2_init_63 : decode (mC M_X2_init) 63 = .ok (.newarray .int, 2) := by decide +kernel
theorem DM_X2_init_65 : decode (mC M_X2_init) 65 = .ok (.putfield 33, 3) := by decide +kernel
theorem DM_X2_init_68 : decode (mC M_X2_init) 68 = .ok (.aload_n 0, 1) := by decide +kernel
theorem DM_X2_init_69 : decode (mC M_X2_init) 69 = .ok (.bipush 6, 2) := by decide +kernel
theorem DM_X2_init_71 : decode (mC M_X2_init) 71 = .ok (.newarray .int, 2) := by decide +kernel
theorem DM_X2_init_73 : decode (mC M_X2_init) 73 = .ok (.putfield 36, 3) := by decide +kernel
theorem DM_X2_init_76 : decode (mC M_X2_init) 76 = .ok (.return_, 1) := by decide +kernel
theorem DM_X2_takeFrom_0 : decode (mC M_X2_takeFrom) 0 = .ok (.aload_n 0, 1) := by decide +kernel
theorem DM_X2_takeFrom_1 : decode (mC M_X2_takeFrom) 1 = .ok (.aload_n 1, 1) := by decide +kernel
theorem DM_X2_takeFrom_2 : decode (mC M_X2_takeFrom) 2 = .ok (.getfield 39, 3) := by decide +kernel
theorem DM_X2_takeFrom_5 : decode (mC M_X2_takeFrom) 5 = .ok (.putfield 39, 3) := by decide +kernel
theorem DM_X2_takeFrom_8 : decode (mC M_X2_takeFrom) 8 = .ok (.aload_n 0, 1) := by decide +kernel
theorem DM_X2_takeFrom_9 : decode (mC M_X2_takeFrom) 9 = .ok (.aload_n 1, 1) := by decide +kernel
theorem DM_X2_takeFrom_10 : decode (mC M_X2_takeFrom) 10 = .ok (.getfield 43, 3) := by decide +kernel
theorem DM_X2_takeFrom_13 : decode (mC M_X2_takeFrom) 13 = .ok (.putfield 43, 3) := by decide +kernel
theorem DM_X2_takeFrom_16 : decode (mC M_X2_takeFrom) 16 = .ok (.aload_n 0, 1) := by decide +kernel
theorem DM_X2_takeFrom_17 : decode (mC M_X2_takeFrom) 17 = .ok (.aload_n 1, 1) := by decide +kernel
theorem DM_X2_takeFrom_18 : decode (mC M_X2_takeFrom) 18 = .ok (.getfield 47, 3) := by decide +kernel
theorem DM_X2_takeFrom_21 : decode (mC M_X2_takeFrom) 21 = .ok (.putfield 47, 3) := by decide +kernel
theorem DM_X2_takeFrom_24 : decode (mC M_X2_takeFrom) 24 = .ok (.aload_n 0, 1) := by decide +kernel
theorem DM_X2_takeFrom_25 : decode (mC M_X2_takeFrom) 25 = .ok (.aload_n 1, 1) := by decide +kernel
theorem DM_X2_takeFrom_26 : decode (mC M_X2_takeFrom) 26 = .ok (.getfield 50, 3) := by decide +kernel
theorem DM_X2_takeFrom_29 : decode (mC M_X2_takeFrom) 29 = .ok (.putfield 50, 3) := by decide +kernel
theorem DM_X2_takeFrom_32 : decode (mC M_X2_takeFrom) 32 = .ok (.aload_n 0, 1) := by decide +kernel
theorem DM_X2_takeFrom_33 : decode (mC M_X2_takeFrom) 33 = .ok (.aload_n 1, 1) := by decide +kernel
theorem DM_X2_takeFrom_34 : decode (mC M_X2_takeFrom) 34 = .ok (.getfield 53, 3) := by decide +kernel
theorem DM_X2_takeFrom_37 : decode (mC M_X2_takeFrom) 37 = .ok (.putfield 53, 3) := by decide +kernel
theorem DM_X2_takeFrom_40 : decode (mC M_X2_takeFrom) 40 = .ok (.aload_n 0, 1) := by decide +kernel
theorem DM_X2_takeFrom_41 : decode (mC M_X2_takeFrom) 41 = .ok (.aload_n 1, 1) := by decide +kernel
theorem DM_X2_takeFrom_42 : decode (mC M_X2_takeFrom) 42 = .ok (.getfield 56, 3) := by decide +kernel
theorem DM_X2_takeFrom_45 : decode (mC M_X2_takeFrom) 45 = .ok (.putfield 56, 3) := by decide +kernel
theorem DM_X2_takeFrom_48 : decode (mC M_X2_takeFrom) 48 = .ok (.aload_n 1, 1) := by decide +kernel
theorem DM_X2_takeFrom_49 : decode (mC M_X2_takeFrom) 49 = .ok (.getfield 9, 3) := by decide +kernel
theorem DM_X2_takeFrom_52 : decode (mC M_X2_takeFrom) 52 = .ok (.iconst 0, 1) := by decide +kernel
theorem DM_X2_takeFrom_53 : decode (mC M_X2_takeFrom) 53 = .ok (.aload_n 0, 1) := by decide +kernel
theorem DM_X2_takeFrom_54 : decode (mC M_X2_takeFrom) 54 = .ok (.getfield 9, 3) := by decide +kernel
theorem DM_X2_takeFrom_57 : decode (mC M_X2_takeFrom) 57 = .ok (.iconst 0, 1) := by decide +kernel
theorem DM_X2_takeFrom_58 : decode (mC M_X2_takeFrom) 58 = .ok (.bipush 8, 2) := by decide +kernel
theorem DM_X2_takeFrom_60 : decode (mC M_X2_takeFrom) 60 = .ok (.invokestatic 59, 3) := by decide +kernel
theorem DM_X2_takeFrom_63 : decode (mC M_X2_takeFrom) 63 = .ok (.aload_n 1, 1) := by decide +kernel
theorem DM_X2_takeFrom_64 : decode (mC M_X2_takeFrom) 64 = .ok (.getfield 15, 3) := by decide +kernel
theorem DM_X2_takeFrom_67 : decode (mC M_X2_takeFrom) 67 = .ok (.iconst 0, 1) := by decide +kernel
theorem DM_X2_takeFrom_68 : decode (mC M_X2_takeFrom) 68 = .ok (.aload_n 0, 1) := by decide +kernel
theorem DM_X2_takeFrom_69 : decode (mC M_X2_takeFrom) 69 = .ok (.getfield 15, 3) := by decide +kernel
theorem DM_X2_takeFrom_72 : decode (mC M_X2_takeFrom) 72 = .ok (.iconst 0, 1) := by decide +kernel
theorem DM_X2_takeFrom_73 : decode (mC M_X2_takeFrom) 73 = .ok (.bipush 8, 2) := by decide +kernel
theorem DM_X2_takeFrom_75 : decode (mC M_X2_takeFrom) 75 = .ok (.invokestatic 59, 3) := by decide +kernel
theorem DM_X2_takeFrom_78 : decode (mC M_X2_takeFrom) 78 = .ok (.aload_n 1, 1) := by decide +kernel
theorem DM_X2_takeFrom_79 : decode (mC M_X2_takeFrom) 79 = .ok (.getfield 18, 3) := by decide +kernel
theorem DM_X2_takeFrom_82 : decode (mC M_X2_takeFrom) 82 = .ok (.iconst 0, 1) := by decide +kernel
theorem DM_X2_takeFrom_83 : decode (mC M_X2_takeFrom) 83 = .ok (.aload_n 0, 1) := by decide +kernel
theorem DM_X2_takeFrom_84 : decode (mC M_X2_takeFrom) 84 = .ok (.getfield 18, 3) := by decide +kernel
theorem DM_X2_takeFrom_87 : decode (mC M_X2_takeFrom) 87 = .ok (.iconst 0, 1) := by decide +kernel
theorem DM_X2_takeFrom_88 : decode (mC M_X2_takeFrom) 88 = .ok (.bipush 6, 2) := by decide +kernel
theorem DM_X2_takeFrom_90 : decode (mC M_X2_takeFrom) 90 = .ok (.invokestatic 59, 3) := by decide +kernel
theorem DM_X2_takeFrom_93 : decode (mC M_X2_takeFrom) 93 = .ok (.aload_n 1, 1) := by decide +kernel
theorem DM_X2_takeFrom_94 : decode (mC M_X2_takeFrom) 94 = .ok (.getfield 21, 3) := by decide +kernel
theorem DM_X2_takeFrom_97 : decode (mC M_X2_takeFrom) 97 = .ok (.iconst 0, 1) := by decide +kernel
theorem DM_X2_takeFrom_98 : decode (mC M_X2_takeFrom) 98 = .ok (.aload_n 0, 1) := by decide +kernel
theorem DM_X2_takeFrom_99 : decode (mC M_X2_takeFrom) 99 = .ok (.getfield 21, 3) := by decide +kernel
theorem DM_X2_takeFrom_102 : decode (mC M_X2_takeFrom) 102 = .ok (.iconst 0, 1) := by decide +kernel
theorem DM_X2_takeFrom_103 : decode (mC M_X2_takeFrom) 103 = .ok (.bipush 6, 2) := by decide +kernel
theorem DM_X2_takeFrom_105 : decode (mC M_X2_takeFrom) 105 = .ok (.invokestatic 59, 3) := by decide +kernel
theorem DM_X2_takeFrom_108 : decode (mC M_X2_takeFrom) 108 = .ok (.aload_n 1, 1) := by decide +kernel
theorem DM_X2_takeFrom_109 : decode (mC M_X2_takeFrom) 109 = .ok (.getfield 24, 3) := by decide +kernel
theorem DM_X2_takeFrom_112 : decode (mC M_X2_takeFrom) 112 = .ok (.iconst 0, 1) := by decide +kernel
theorem DM_X2_takeFrom_113 : decode (mC M_X2_takeFrom) 113 = .ok (.aload_n 0, 1) := by decide +kernel
theorem DM_X2_takeFrom_114 : decode (mC M_X2_takeFrom) 114 = .ok (.getfield 24, 3) := by decide +kernel
theorem DM_X2_takeFrom_117 : decode (mC M_X2_takeFrom) 117 = .ok (.iconst 0, 1) := by decide +kernel
theorem DM_X2_takeFrom_118 : decode (mC M_X2_takeFrom) 118 = .ok (.bipush 24, 2) := by decide +kernel
theorem DM_X2_takeFrom_120 : decode (mC M_X2_takeFrom) 120 = .ok (.invokestatic 59, 3) := by decide +kernel
theorem DM_X2_takeFrom_123 : decode (mC M_X2_takeFrom) 123 = .ok (.aload_n 1, 1) := by decide +kernel
theorem DM_X2_takeFrom_124 : decode (mC M_X2_takeFrom) 124 = .ok (.getfield 27, 3) := by decide +kernel
theorem DM_X2_takeFrom_127 : decode (mC M_X2_takeFrom) 127 = .ok (.iconst 0, 1) := by decide +kernel
theorem DM_X2_takeFrom_128 : decode (mC M_X2_takeFrom) 128 = .ok (.aload_n 0, 1) := by decide +kernel
theorem DM_X2_takeFrom_129 : decode (mC M_X2_takeFrom) 129 = .ok (.getfield 27, 3) := by decide +kernel
theorem DM_X2_takeFrom_132 : decode (mC M_X2_takeFrom) 132 = .ok (.iconst 0, 1) := by decide +kernel
theorem DM_X2_takeFrom_133 : decode (mC M_X2_takeFrom) 133 = .ok (.bipush 6, 2) := by decide +kernel
theorem DM_X2_takeFrom_135 : decode (mC M_X2_takeFrom) 135 = .ok (.invokestatic 59, 3) := by decide +kernel
theorem DM_X2_takeFrom_138 : decode (mC M_X2_takeFrom) 138 = .ok (.aload_n 1, 1) := by decide +kernel
theorem DM_X2_takeFrom_139 : decode (mC M_X2_takeFrom) 139 = .ok (.getfield 30, 3) := by decide +kernel
theorem DM_X2_takeFrom_142 : decode (mC M_X2_takeFrom) 142 = .ok (.iconst 0, 1) := by decide +kernel
theorem DM_X2_takeFrom_143 : decode (mC M_X2_takeFrom) 143 = .ok (.aload_n 0, 1) := by decide +kernel
theorem DM_X2_takeFrom_144 : decode (mC M_X2_takeFrom) 144 = .ok (.getfield 30, 3) := by decide +kernel
theorem DM_X2_takeFrom_147 : decode (mC M_X2_takeFrom) 147 = .ok (.iconst 0, 1) := by decide +kernel
theorem DM_X2_takeFrom_148 : decode (mC M_X2_takeFrom) 148 = .ok (.bipush 6, 2) := by decide +kernel
theorem DM_X2_takeFrom_150 : decode (mC M_X2_takeFrom) 150 = .ok (.invokestatic 59, 3) := by decide +kernel
theorem DM_X2_takeFrom_153 : decode (mC M_X2_takeFrom) 153 = .ok (.aload_n 1, 1) := by decide +kernel
theorem DM_X2_takeFrom_154 : decode (mC M_X2_takeFrom) 154 = .ok (.getfield 33, 3) := by decide +kernel
theorem DM_X2_takeFrom_157 : decode (mC M_X2_takeFrom) 157 = .ok (.iconst 0, 1) := by decide +kernel
theorem DM_X2_takeFrom_158 : decode (mC M_X2_takeFrom) 158 = .ok (.aload_n 0, 1) := by decide +kernel
theorem DM_X2_takeFrom_159 : decode (mC M_X2_takeFrom) 159 = .ok (.getfield 33, 3) := by decide +kernel
theorem DM_X2_takeFrom_162 : decode (mC M_X2_takeFrom) 162 = .ok (.iconst 0, 1) := by decide +kernel
theorem DM_X2_takeFrom_163 : decode (mC M_X2_takeFrom) 163 = .ok (.bipush 6, 2) := by decide +kernel
theorem DM_X2_takeFrom_165 : decode (mC M_X2_takeFrom) 165 = .ok (.invokestatic 59, 3) := by decide +kernel
theorem DM_X2_takeFrom_168 : decode (mC M_X2_takeFrom) 168 = .ok (.return_, 1) := by decide +kernel
theorem DM_X2_begin_0 : decode (mC M_X2_begin) 0 = .ok (.aload_n 0, 1) := by decide +kernel
theorem DM_X2_begin_1 : decode (mC M_X2_begin) 1 = .ok (.iconst 1, 1) := by decide +kernel
theorem DM_X2_begin_2 : decode (mC M_X2_begin) 2 = .ok (.putfield 39, 3) := by decide +kernel
theorem DM_X2_begin_5 : decode (mC M_X2_begin) 5 = .ok (.aload_n 0, 1) := by decide +kernel
theorem DM_X2_begin_6 : decode (mC M_X2_begin) 6 = .ok (.iconst 0, 1) := by decide +kernel
theorem DM_X2_begin_7 : decode (mC M_X2_begin) 7 = .ok (.putfield 43, 3) := by decide +kernel
theorem DM_X2_begin_10 : decode (mC M_X2_begin) 10 = .ok (.aload_n 0, 1) := by decide +kernel
theorem DM_X2_begin_11 : decode (mC M_X2_begin) 11 = .ok (.iconst 0, 1) := by decide +kernel
theorem DM_X2_begin_12 : decode (mC M_X2_begin) 12 = .ok (.putfield 53, 3) := by decide +kernel
theorem DM_X2_begin_15 : decode (mC M_X2_begin) 15 = .ok (.aload_n 0, 1) := by decide +kernel
theorem DM_X2_begin_16 : decode (mC M_X2_begin) 16 = .ok (.iconst 0, 1) := by decide +kernel
theorem DM_X2_begin_17 : decode (mC M_X2_begin) 17 = .ok (.putfield 56, 3) := by decide +kernel
theorem DM_X2_begin_20 : decode (mC M_X2_begin) 20 = .ok (.iconst 0, 1) := by decide +kernel
theorem DM_X2_begin_21 : decode (mC M_X2_begin) 21 = .ok (.istore_n 1, 1) := by decide +kernel
theorem DM_X2_begin_22 : decode (mC M_X2_begin) 22 = .ok (.iload_n 1, 1) := by decide +kernel
theorem DM_X2_begin_23 : decode (mC M_X2_begin) 23 = .ok (.bipush 6, 2) := by decide +kernel
theorem DM_X2_begin_25 : decode (mC M_X2_begin) 25 = .ok (.if_icmp .ge 17, 3) := by decide +kernel
theorem DM_X2_begin_28 : decode (mC M_X2_begin) 28 = .ok (.aload_n 0, 1) := by decide +kernel
theorem DM_X2_begin_29 : decode (mC M_X2_begin) 29 = .ok (.getfield 33, 3) := by decide +kernel
theorem DM_X2_begin_32 : decode (mC M_X2_begin) 32 = .ok (.iload_n 1, 1) := by decide +kernel
theorem DM_X2_begin_33 : decode (mC M_X2_begin) 33 = .ok (.ldc 65, 2) := by decide +kernel
theorem DM_X2_begin_35 : decode (mC M_X2_begin) 35 = .ok (.iastore, 1) := by decide +kernel
theorem DM_X2_begin_36 : decode (mC M_X2_begin) 36 = .ok (.iinc 1 1, 3) := by decide +kernel
theorem DM_X2_begin_39 : decode (mC M_X2_begin) 39 = .ok (.goto (-17), 3) := by decide +kernel
theorem DM_X2_begin_42 : decode (mC M_X2_begin) 42 = .ok (.return_, 1) := by decide +kernel
theorem DM_X2_tellOrder_0 : decode (mC M_X2_tellOrder) 0 = .ok (.aload_n 0, 1) := by decide +kernel
theorem DM_X2_tellOrder_1 : decode (mC M_X2_tellOrder) 1 = .ok (.getfield 9, 3) := by decide +kernel
theorem DM_X2_tellOrder_4 : decode (mC M_X2_tellOrder) 4 = .ok (.iload_n 1, 1) := by decide +kernel
theorem DM_X2_tellOrder_5 : decode (mC M_X2_tellOrder) 5 = .ok (.iload_n 2, 1) := by decide +kernel
theorem DM_X2_tellOrder_6 : decode (mC M_X2_tellOrder) 6 = .ok (.iastore, 1) := by decide +kernel
theorem DM_X2_tellOrder_7 : decode (mC M_X2_tellOrder) 7 = .ok (.aload_n 0, 1) := by decide +kernel
theorem DM_X2_tellOrder_8 : decode (mC M_X2_tellOrder) 8 = .ok (.getfield 15, 3) := by decide +kernel
theorem DM_X2_tellOrder_11 : decode (mC M_X2_tellOrder) 11 = .ok (.iload_n 2, 1) := by decide +kernel
theorem DM_X2_tellOrder_12 : decode (mC M_X2_tellOrder) 12 = .ok (.iload_n 1, 1) := by decide +kernel
theorem DM_X2_tellOrder_13 : decode (mC M_X2_tellOrder) 13 = .ok (.iastore, 1) := by decide +kernel
theorem DM_X2_tellOrder_14 : decode (mC M_X2_tellOrder) 14 = .ok (.return_, 1) := by decide +kernel
theorem DM_X2_letterOf_0 : decode (mC M_X2_letterOf) 0 = .ok (.aload_n 0, 1) := by decide +kernel
theorem DM_X2_letterOf_1 : decode (mC M_X2_letterOf) 1 = .ok (.getfield 24, 3) := by decide +kernel
theorem DM_X2_letterOf_4 : decode (mC M_X2_letterOf) 4 = .ok (.iload_n 1, 1) := by decide +kernel
theorem DM_X2_letterOf_5 : decode (mC M_X2_letterOf) 5 = .ok (.iconst 4, 1) := by decide +kernel
theorem DM_X2_letterOf_6 : decode (mC M_X2_letterOf) 6 = .ok (.imul, 1) := by decide +kernel
theorem DM_X2_letterOf_7 : decode (mC M_X2_letterOf) 7 = .ok (.iload_n 2, 1) := by decide +kernel
theorem DM_X2_letterOf_8 : decode (mC M_X2_letterOf) 8 = .ok (.iadd, 1) := by decide +kernel
theorem DM_X2_letterOf_9 : decode (mC M_X2_letterOf) 9 = .ok (.iaload, 1) := by decide +kernel
theorem DM_X2_letterOf_10 : decode (mC M_X2_letterOf) 10 = .ok (.ireturn, 1) := by decide +kernel
theorem DM_X2_putLetter_0 : decode (mC M_X2_putLetter) 0 = .ok (.aload_n 0, 1) := by decide +kernel
theorem DM_X2_putLetter_1 : decode (mC M_X2_putLetter) 1 = .ok (.getfield 24, 3) := by decide +kernel
theorem DM_X2_putLetter_4 : decode (mC M_X2_putLetter) 4 = .ok (.iload_n 1, 1) := by decide +kernel
theorem DM_X2_putLetter_5 : decode (mC M_X2_putLetter) 5 = .ok (.iconst 4, 1) := by decide +kernel
theorem DM_X2_putLetter_6 : decode (mC M_X2_putLetter) 6 = .ok (.imul, 1) := by decide +kernel
theorem DM_X2_putLetter_7 : decode (mC M_X2_putLetter) 7 = .ok (.iload_n 2, 1) := by decide +kernel
theorem DM_X2_putLetter_8 : decode (mC M_X2_putLetter) 8 = .ok (.iadd, 1) := by decide +kernel
theorem DM_X2_putLetter_9 : decode (mC M_X2_putLetter) 9 = .ok (.iload_n 3, 1) := by decide +kernel
theorem DM_X2_putLetter_10 : decode (mC M_X2_putLetter) 10 = .ok (.iastore, 1) := by decide +kernel
theorem DM_X2_putLetter_11 : decode (mC M_X2_putLetter) 11 = .ok (.return_, 1) := by decide +kernel
theorem DM_X2_lettersAsBits_0 : decode (mC M_X2_lettersAsBits) 0 = .ok (.iconst 0, 1) := by decide +kernel
theorem DM_X2_lettersAsBits_1 : decode (mC M_X2_lettersAsBits) 1 = .ok (.istore_n 2, 1) := by decide +kernel
theorem DM_X2_lettersAsBits_2 : decode (mC M_X2_lettersAsBits) 2 = .ok (.iconst 0, 1) := by decide +kernel
theorem DM_X2_lettersAsBits_3 : decode (mC M_X2_lettersAsBits) 3 = .ok (.istore_n 3, 1) := by decide +kernel
theorem DM_X2_lettersAsBits_4 : decode (mC M_X2_lettersAsBits) 4 = .ok (.iload_n 3, 1) := by decide +kernel
theorem DM_X2_lettersAsBits_5 : decode (mC M_X2_lettersAsBits) 5 = .ok (.aload_n 0, 1) := by decide +kernel
theorem DM_X2_lettersAsBits_6 : decode (mC M_X2_lettersAsBits) 6 = .ok (.getfield 21, 3) := by decide +kernel
theorem DM_X2_lettersAsBits_9 : decode (mC M_X2_lettersAsBits) 9 = .ok (.iload_n 1, 1) := by decide +kernel
theorem DM_X2_lettersAsBits_10 : decode (mC M_X2_lettersAsBits) 10 = .ok (.iaload, 1) := by decide +kernel
theorem DM_X2_lettersAsBits_11 : decode (mC M_X2_lettersAsBits) 11 = .ok (.if_icmp .ge 20, 3) := by decide +kernel
theorem DM_X2_lettersAsBits_14 : decode (mC M_X2_lettersAsBits) 14 = .ok (.iload_n 2, 1) := by decide +kernel
theorem DM_X2_lettersAsBits_15 : decode (mC M_X2_lettersAsBits) 15 = .ok (.iconst 1, 1) := by decide +kernel
theorem DM_X2_lettersAsBits_16 : decode (mC M_X2_lettersAsBits) 16 = .ok (.aload_n 0, 1) := by decide +kernel
theorem DM_X2_lettersAsBits_17 : decode (mC M_X2_lettersAsBits) 17 = .ok (.iload_n 1, 1) := by decide +kernel
theorem DM_X2_lettersAsBits_18 : decode (mC M_X2_lettersAsBits) 18 = .ok (.iload_n 3, 1) := by decide +kernel
theorem DM_X2_lettersAsBits_19 : decode (mC M_X2_lettersAsBits) 19 = .ok (.invokevirtual 66, 3) := by decide +kernel
theorem DM_X2_lettersAsBits_22 : decode (mC M_X2_lettersAsBits) 22 = .ok (.ishl, 1) := by decide +kernel
theorem DM_X2_lettersAsBits_23 : decode (mC M_X2_lettersAsBits) 23 = .ok (.ior, 1) := by decide +kernel
theorem DM_X2_lettersAsBits_24 : decode (mC M_X2_lettersAsBits) 24 = .ok (.istore_n 2, 1) := by decide +kernel
theorem DM_X2_lettersAsBits_25 : decode (mC M_X2_lettersAsBits) 25 = .ok (.iinc 3 1, 3) := by decide +kernel
theorem DM_X2_lettersAsBits_28 : decode (mC M_X2_lettersAsBits) 28 = .ok (.goto (-24), 3) := by decide +kernel
theorem DM_X2_lettersAsBits_31 : decode (mC M_X2_lettersAsBits) 31 = .ok (.iload_n 2, 1) := by decide +kernel
theorem DM_X2_lettersAsBits_32 : decode (mC M_X2_lettersAsBits) 32 = .ok (.ireturn, 1) := by decide +kernel
theorem DM_X2_turnOn_0 : decode (mC M_X2_turnOn) 0 = .ok (.aload_n 0, 1) := by decide +kernel
theorem DM_X2_turnOn_1 : decode (mC M_X2_turnOn) 1 = .ok (.getfield 50, 3) := by decide +kernel
theorem DM_X2_turnOn_4 : decode (mC M_X2_turnOn) 4 = .ok (.ifCond .ne 7, 3) := by decide +kernel
theorem DM_X2_turnOn_7 : decode (mC M_X2_turnOn) 7 = .ok (.iload_n 2, 1) := by decide +kernel
theorem DM_X2_turnOn_8 : decode (mC M_X2_turnOn) 8 = .ok (.goto 11, 3) := by decide +kernel
theorem DM_X2_turnOn_11 : decode (mC M_X2_turnOn) 11 = .ok (.iload_n 2, 1) := by decide +kernel
theorem DM_X2_turnOn_12 : decode (mC M_X2_turnOn) 12 = .ok (.iload_n 1, 1) := by decide +kernel
theorem DM_X2_turnOn_13 : decode (mC M_X2_turnOn) 13 = .ok (.aload_n 0, 1) := by decide +kernel
theorem DM_X2_turnOn_14 : decode (mC M_X2_turnOn) 14 = .ok (.getfield 50, 3) := by decide +kernel
theorem DM_X2_turnOn_17 : decode (mC M_X2_turnOn) 17 = .ok (.idiv, 1) := by decide +kernel
theorem DM_X2_turnOn_18 : decode (mC M_X2_turnOn) 18 = .ok (.iadd, 1) := by decide +kernel
theorem DM_X2_turnOn_19 : decode (mC M_X2_turnOn) 19 = .ok (.ireturn, 1) := by decide +kernel
theorem DM_X2_letterInOrder_0 : decode (mC M_X2_letterInOrder) 0 = .ok (.aload_n 0, 1) := by decide +kernel
theorem DM_X2_letterInOrder_1 : decode (mC M_X2_letterInOrder) 1 = .ok (.getfield 9, 3) := by decide +kernel
theorem DM_X2_letterInOrder_4 : decode (mC M_X2_letterInOrder) 4 = .ok (.iload_n 1, 1) := by decide +kernel
theorem DM_X2_letterInOrder_5 : decode (mC M_X2_letterInOrder) 5 = .ok (.iload_n 2, 1) := by decide +kernel
theorem DM_X2_letterInOrder_6 : decode (mC M_X2_letterInOrder) 6 = .ok (.iadd, 1) := by decide +kernel
theorem DM_X2_letterInOrder_7 : decode (mC M_X2_letterInOrder) 7 = .ok (.bipush 8, 2) := by decide +kernel
theorem DM_X2_letterInOrder_9 : decode (mC M_X2_letterInOrder) 9 = .ok (.irem, 1) := by decide +kernel
theorem DM_X2_letterInOrder_10 : decode (mC M_X2_letterInOrder) 10 = .ok (.iaload, 1) := by decide +kernel
theorem DM_X2_letterInOrder_11 : decode (mC M_X2_letterInOrder) 11 = .ok (.ireturn, 1) := by decide +kernel
theorem DM_X2_placeInOrder_0 : decode (mC M_X2_placeInOrder) 0 = .ok (.aload_n 0, 1) := by decide +kernel
theorem DM_X2_placeInOrder_1 : decode (mC M_X2_placeInOrder) 1 = .ok (.getfield 15, 3) := by decide +kernel
theorem DM_X2_placeInOrder_4 : decode (mC M_X2_placeInOrder) 4 = .ok (.iload_n 1, 1) := by decide +kernel
theorem DM_X2_placeInOrder_5 : decode (mC M_X2_placeInOrder) 5 = .ok (.iaload, 1) := by decide +kernel
theorem DM_X2_placeInOrder_6 : decode (mC M_X2_placeInOrder) 6 = .ok (.iload_n 2, 1) := by decide +kernel
theorem DM_X2_placeInOrder_7 : decode (mC M_X2_placeInOrder) 7 = .ok (.isub, 1) := by decide +kernel
theorem DM_X2_placeInOrder_8 : decode (mC M_X2_placeInOrder) 8 = .ok (.bipush 7, 2) := by decide +kernel
theorem DM_X2_placeInOrder_10 : decode (mC M_X2_placeInOrder) 10 = .ok (.iand, 1) := by decide +kernel
theorem DM_X2_placeInOrder_11 : decode (mC M_X2_placeInOrder) 11 = .ok (.ireturn, 1) := by decide +kernel
theorem DM_X2_letterAsRead_0 : decode (mC M_X2_letterAsRead) 0 = .ok (.aload_n 0, 1) := by decide +kernel
theorem DM_X2_letterAsRead_1 : decode (mC M_X2_letterAsRead) 1 = .ok (.getfield 24, 3) := by decide +kernel
theorem DM_X2_letterAsRead_4 : decode (mC M_X2_letterAsRead) 4 = .ok (.iload_n 1, 1) := by decide +kernel
theorem DM_X2_letterAsRead_5 : decode (mC M_X2_letterAsRead) 5 = .ok (.iconst 4, 1) := by decide +kernel
theorem DM_X2_letterAsRead_6 : decode (mC M_X2_letterAsRead) 6 = .ok (.imul, 1) := by decide +kernel
theorem DM_X2_letterAsRead_7 : decode (mC M_X2_letterAsRead) 7 = .ok (.aload_n 0, 1) := by decide +kernel
theorem DM_X2_letterAsRead_8 : decode (mC M_X2_letterAsRead) 8 = .ok (.getfield 18, 3) := by decide +kernel
theorem DM_X2_letterAsRead_11 : decode (mC M_X2_letterAsRead) 11 = .ok (.iload_n 1, 1) := by decide +kernel
theorem DM_X2_letterAsRead_12 : decode (mC M_X2_letterAsRead) 12 = .ok (.iaload, 1) := by decide +kernel
theorem DM_X2_letterAsRead_13 : decode (mC M_X2_letterAsRead) 13 = .ok (.iconst 2, 1) := by decide +kernel
theorem DM_X2_letterAsRead_14 : decode (mC M_X2_letterAsRead) 14 = .ok (.if_icmp .ne 16, 3) := by decide +kernel
theorem DM_X2_letterAsRead_17 : decode (mC M_X2_letterAsRead) 17 = .ok (.aload_n 0, 1) := by decide +kernel
theorem DM_X2_letterAsRead_18 : decode (mC M_X2_letterAsRead) 18 = .ok (.getfield 21, 3) := by decide +kernel
theorem DM_X2_letterAsRead_21 : decode (mC M_X2_letterAsRead) 21 = .ok (.iload_n 1, 1) := by decide +kernel
theorem DM_X2_letterAsRead_22 : decode (mC M_X2_letterAsRead) 22 = .ok (.iaload, 1) := by decide +kernel
theorem DM_X2_letterAsRead_23 : decode (mC M_X2_letterAsRead) 23 = .ok (.iconst 1, 1) := by decide +kernel
theorem DM_X2_letterAsRead_24 : decode (mC M_X2_letterAsRead) 24 = .ok (.isub, 1) := by decide +kernel
theorem DM_X2_letterAsRead_25 : decode (mC M_X2_letterAsRead) 25 = .ok (.iload_n 2, 1) := by decide +kernel
theorem DM_X2_letterAsRead_26 : decode (mC M_X2_letterAsRead) 26 = .ok (.isub, 1) := by decide +kernel
theorem DM_X2_letterAsRead_27 : decode (mC M_X2_letterAsRead) 27 = .ok (.goto 4, 3) := by decide +kernel
theorem DM_X2_letterAsRead_30 : decode (mC M_X2_letterAsRead) 30 = .ok (.iload_n 2, 1) := by decide +kernel
theorem DM_X2_letterAsRead_31 : decode (mC M_X2_letterAsRead) 31 = .ok (.iadd, 1) := by decide +kernel
theorem DM_X2_letterAsRead_32 : decode (mC M_X2_letterAsRead) 32 = .ok (.iaload, 1) := by decide +kernel
theorem DM_X2_letterAsRead_33 : decode (mC M_X2_letterAsRead) 33 = .ok (.ireturn, 1) := by decide +kernel
theorem DM_X2_compareNames_0 : decode (mC M_X2_compareNames) 0 = .ok (.aload_n 0, 1) := by decide +kernel
theorem DM_X2_compareNames_1 : decode (mC M_X2_compareNames) 1 = .ok (.getfield 21, 3) := by decide +kernel
theorem DM_X2_compareNames_4 : decode (mC M_X2_compareNames) 4 = .ok (.iload_n 1, 1) := by decide +kernel
theorem DM_X2_compareNames_5 : decode (mC M_X2_compareNames) 5 = .ok (.iaload, 1) := by decide +kernel
theorem DM_X2_compareNames_6 : decode (mC M_X2_compareNames) 6 = .ok (.aload_n 0, 1) := by decide +kernel
theorem DM_X2_compareNames_7 : decode (mC M_X2_compareNames) 7 = .ok (.getfield 21, 3) := by decide +kernel
theorem DM_X2_compareNames_10 : decode (mC M_X2_compareNames) 10 = .ok (.iload_n 2, 1) := by decide +kernel
theorem DM_X2_compareNames_11 : decode (mC M_X2_compareNames) 11 = .ok (.iaload, 1) := by decide +kernel
theorem DM_X2_compareNames_12 : decode (mC M_X2_compareNames) 12 = .ok (.invokestatic 70, 3) := by decide +kernel
theorem DM_X2_compareNames_15 : decode (mC M_X2_compareNames) 15 = .ok (.istore 4, 2) := by decide +kernel
theorem DM_X2_compareNames_17 : decode (mC M_X2_compareNames) 17 = .ok (.iconst 0, 1) := by decide +kernel
theorem DM_X2_compareNames_18 : decode (mC M_X2_compareNames) 18 = .ok (.istore 5, 2) := by decide +kernel
theorem DM_X2_compareNames_20 : decode (mC M_X2_compareNames) 20 = .ok (.iload 5, 2) := by decide +kernel
theorem DM_X2_compareNames_22 : decode (mC M_X2_compareNames) 22 = .ok (.iload 4, 2) := by decide +kernel
theorem DM_X2_compareNames_24 : decode (mC M_X2_compareNames) 24 = .ok (.if_icmp .ge 50, 3) := by decide +kernel
theorem DM_X2_compareNames_27 : decode (mC M_X2_compareNames) 27 = .ok (.aload_n 0, 1) := by decide +kernel
theorem DM_X2_compareNames_28 : decode (mC M_X2_compareNames) 28 = .ok (.iload_n 1, 1) := by decide +kernel
theorem DM_X2_compareNames_29 : decode (mC M_X2_compareNames) 29 = .ok (.iload 5, 2) := by decide +kernel
theorem DM_X2_compareNames_31 : decode (mC M_X2_compareNames) 31 = .ok (.invokevirtual 75, 3) := by decide +kernel
theorem DM_X2_compareNames_34 : decode (mC M_X2_compareNames) 34 = .ok (.istore 6, 2) := by decide +kernel
theorem DM_X2_compareNames_36 : decode (mC M_X2_compareNames) 36 = .ok (.aload_n 0, 1) := by decide +kernel
theorem DM_X2_compareNames_37 : decode (mC M_X2_compareNames) 37 = .ok (.iload_n 2, 1) := by decide +kernel
theorem DM_X2_compareNames_38 : decode (mC M_X2_compareNames) 38 = .ok (.iload 5, 2) := by decide +kernel
theorem DM_X2_compareNames_40 : decode (mC M_X2_compareNames) 40 = .ok (.invokevirtual 75, 3) := by decide +kernel
theorem DM_X2_compareNames_43 : decode (mC M_X2_compareNames) 43 = .ok (.istore 7, 2) := by decide +kernel
theorem DM_X2_compareNames_45 : decode (mC M_X2_compareNames) 45 = .ok (.iload 6, 2) := by decide +kernel
theorem DM_X2_compareNames_47 : decode (mC M_X2_compareNames) 47 = .ok (.iload 7, 2) := by decide +kernel
theorem DM_X2_compareNames_49 : decode (mC M_X2_compareNames) 49 = .ok (.if_icmp .eq 19, 3) := by decide +kernel
theorem DM_X2_compareNames_52 : decode (mC M_X2_compareNames) 52 = .ok (.aload_n 0, 1) := by decide +kernel
theorem DM_X2_compareNames_53 : decode (mC M_X2_compareNames) 53 = .ok (.iload 6, 2) := by decide +kernel
theorem DM_X2_compareNames_55 : decode (mC M_X2_compareNames) 55 = .ok (.iload_n 3, 1) := by decide +kernel
theorem DM_X2_compareNames_56 : decode (mC M_X2_compareNames) 56 = .ok (.invokevirtual 78, 3) := by decide +kernel
theorem DM_X2_compareNames_59 : decode (mC M_X2_compareNames) 59 = .ok (.aload_n 0, 1) := by decide +kernel
theorem DM_X2_compareNames_60 : decode (mC M_X2_compareNames) 60 = .ok (.iload 7, 2) := by decide +kernel
theorem DM_X2_compareNames_62 : decode (mC M_X2_compareNames) 62 = .ok (.iload_n 3, 1) := by decide +kernel
theorem DM_X2_compareNames_63 : decode (mC M_X2_compareNames) 63 = .ok (.invokevirtual 78, 3) := by decide +kernel
theorem DM_X2_compareNames_66 : decode (mC M_X2_compareNames) 66 = .ok (.isub, 1) := by decide +kernel
theorem DM_X2_compareNames_67 : decode (mC M_X2_compareNames) 67 = .ok (.ireturn, 1) := by decide +kernel
theorem DM_X2_compareNames_68 : decode (mC M_X2_compareNames) 68 = .ok (.iinc 5 1, 3) := by decide +kernel
theorem DM_X2_compareNames_71 : decode (mC M_X2_compareNames) 71 = .ok (.goto (-51), 3) := by decide +kernel
theorem DM_X2_compareNames_74 : decode (mC M_X2_compareNames) 74 = .ok (.aload_n 0, 1) := by decide +kernel
theorem DM_X2_compareNames_75 : decode (mC M_X2_compareNames) 75 = .ok (.getfield 21, 3) := by decide +kernel
theorem DM_X2_compareNames_78 : decode (mC M_X2_compareNames) 78 = .ok (.iload_n 1, 1) := by decide +kernel
theorem DM_X2_compareNames_79 : decode (mC M_X2_compareNames) 79 = .ok (.iaload, 1) := by decide +kernel
theorem DM_X2_compareNames_80 : decode (mC M_X2_compareNames) 80 = .ok (.aload_n 0, 1) := by decide +kernel
theorem DM_X2_compareNames_81 : decode (mC M_X2_compareNames) 81 = .ok (.getfield 21, 3) := by decide +kernel
theorem DM_X2_compareNames_84 : decode (mC M_X2_compareNames) 84 = .ok (.iload_n 2, 1) := by decide +kernel
theorem DM_X2_compareNames_85 : decode (mC M_X2_compareNames) 85 = .ok (.iaload, 1) := by decide +kernel
theorem DM_X2_compareNames_86 : decode (mC M_X2_compareNames) 86 = .ok (.isub, 1) := by decide +kernel
theorem DM_X2_compareNames_87 : decode (mC M_X2_compareNames) 87 = .ok (.ireturn, 1) := by decide +kernel
theorem DM_X2_isBefore_0 : decode (mC M_X2_isBefore) 0 = .ok (.getstatic 81, 3) := by decide +kernel
theorem DM_X2_isBefore_3 : decode (mC M_X2_isBefore) 3 = .ok (.aload_n 0, 1) := by decide +kernel
theorem DM_X2_isBefore_4 : decode (mC M_X2_isBefore) 4 = .ok (.getfield 18, 3) := by decide +kernel
theorem DM_X2_isBefore_7 : decode (mC M_X2_isBefore) 7 = .ok (.iload_n 1, 1) := by decide +kernel
theorem DM_X2_isBefore_8 : decode (mC M_X2_isBefore) 8 = .ok (.iaload, 1) := by decide +kernel
theorem DM_X2_isBefore_9 : decode (mC M_X2_isBefore) 9 = .ok (.iaload, 1) := by decide +kernel
theorem DM_X2_isBefore_10 : decode (mC M_X2_isBefore) 10 = .ok (.getstatic 81, 3) := by decide +kernel
theorem DM_X2_isBefore_13 : decode (mC M_X2_isBefore) 13 = .ok (.aload_n 0, 1) := by decide +kernel
theorem DM_X2_isBefore_14 : decode (mC M_X2_isBefore) 14 = .ok (.getfield 18, 3) := by decide +kernel
theorem DM_X2_isBefore_17 : decode (mC M_X2_isBefore) 17 = .ok (.iload_n 2, 1) := by decide +kernel
theorem DM_X2_isBefore_18 : decode (mC M_X2_isBefore) 18 = .ok (.iaload, 1) := by decide +kernel
theorem DM_X2_isBefore_19 : decode (mC M_X2_isBefore) 19 = .ok (.iaload, 1) := by decide +kernel
theorem DM_X2_isBefore_20 : decode (mC M_X2_isBefore) 20 = .ok (.isub, 1) := by decide +kernel
theorem DM_X2_isBefore_21 : decode (mC M_X2_isBefore) 21 = .ok (.istore 4, 2) := by decide +kernel
theorem DM_X2_isBefore_23 : decode (mC M_X2_isBefore) 23 = .ok (.iload 4, 2) := by decide +kernel
theorem DM_X2_isBefore_25 : decode (mC M_X2_isBefore) 25 = .ok (.ifCond .eq 14, 3) := by decide +kernel
theorem DM_X2_isBefore_28 : decode (mC M_X2_isBefore) 28 = .ok (.iload 4, 2) := by decide +kernel
theorem DM_X2_isBefore_30 : decode (mC M_X2_isBefore) 30 = .ok (.ifCond .ge 7, 3) := by decide +kernel
theorem DM_X2_isBefore_33 : decode (mC M_X2_isBefore) 33 = .ok (.iconst 1, 1) := by decide +kernel
theorem DM_X2_isBefore_34 : decode (mC M_X2_isBefore) 34 = .ok (.goto 4, 3) := by decide +kernel
theorem DM_X2_isBefore_37 : decode (mC M_X2_isBefore) 37 = .ok (.iconst 0, 1) := by decide +kernel
theorem DM_X2_isBefore_38 : decode (mC M_X2_isBefore) 38 = .ok (.ireturn, 1) := by decide +kernel
theorem DM_X2_isBefore_39 : decode (mC M_X2_isBefore) 39 = .ok (.aload_n 0, 1) := by decide +kernel
theorem DM_X2_isBefore_40 : decode (mC M_X2_isBefore) 40 = .ok (.iload_n 1, 1) := by decide +kernel
theorem DM_X2_isBefore_41 : decode (mC M_X2_isBefore) 41 = .ok (.iload_n 2, 1) := by decide +kernel
theorem DM_X2_isBefore_42 : decode (mC M_X2_isBefore) 42 = .ok (.iload_n 3, 1) := by decide +kernel
theorem DM_X2_isBefore_43 : decode (mC M_X2_isBefore) 43 = .ok (.invokevirtual 84, 3) := by decide +kernel
theorem DM_X2_isBefore_46 : decode (mC M_X2_isBefore) 46 = .ok (.istore 5, 2) := by decide +kernel
theorem DM_X2_isBefore_48 : decode (mC M_X2_isBefore) 48 = .ok (.iload 5, 2) := by decide +kernel
theorem DM_X2_isBefore_50 : decode (mC M_X2_isBefore) 50 = .ok (.ifCond .ne 16, 3) := by decide +kernel
theorem DM_X2_isBefore_53 : decode (mC M_X2_isBefore) 53 = .ok (.iload_n 1, 1) := by decide +kernel
theorem DM_X2_isBefore_54 : decode (mC M_X2_isBefore) 54 = .ok (.iload_n 2, 1) := by decide +kernel
theorem DM_X2_isBefore_55 : decode (mC M_X2_isBefore) 55 = .ok (.if_icmp .ge 7, 3) := by decide +kernel
theorem DM_X2_isBefore_58 : decode (mC M_X2_isBefore) 58 = .ok (.iconst 1, 1) := by decide +kernel
theorem DM_X2_isBefore_59 : decode (mC M_X2_isBefore) 59 = .ok (.goto 17, 3) := by decide +kernel
theorem DM_X2_isBefore_62 : decode (mC M_X2_isBefore) 62 = .ok (.iconst 0, 1) := by decide +kernel
theorem DM_X2_isBefore_63 : decode (mC M_X2_isBefore) 63 = .ok (.goto 13, 3) := by decide +kernel
theorem DM_X2_isBefore_66 : decode (mC M_X2_isBefore) 66 = .ok (.iload 5, 2) := by decide +kernel
theorem DM_X2_isBefore_68 : decode (mC M_X2_isBefore) 68 = .ok (.ifCond .ge 7, 3) := by decide +kernel
theorem DM_X2_isBefore_71 : decode (mC M_X2_isBefore) 71 = .ok (.iconst 1, 1) := by decide +kernel
theorem DM_X2_isBefore_72 : decode (mC M_X2_isBefore) 72 = .ok (.goto 4, 3) := by decide +kernel
theorem DM_X2_isBefore_75 : decode (mC M_X2_isBefore) 75 = .ok (.iconst 0, 1) := by decide +kernel
theorem DM_X2_isBefore_76 : decode (mC M_X2_isBefore) 76 = .ok (.ireturn, 1) := by decide +kernel
theorem DM_X2_isSeated_0 : decode (mC M_X2_isSeated) 0 = .ok (.aload_n 0, 1) := by decide +kernel
theorem DM_X2_isSeated_1 : decode (mC M_X2_isSeated) 1 = .ok (.getfield 33, 3) := by decide +kernel
theorem DM_X2_isSeated_4 : decode (mC M_X2_isSeated) 4 = .ok (.iload_n 1, 1) := by decide +kernel
theorem DM_X2_isSeated_5 : decode (mC M_X2_isSeated) 5 = .ok (.iaload, 1) := by decide +kernel
theorem DM_X2_isSeated_6 : decode (mC M_X2_isSeated) 6 = .ok (.ldc 65, 2) := by decide +kernel
theorem DM_X2_isSeated_8 : decode (mC M_X2_isSeated) 8 = .ok (.if_icmp .eq 7, 3) := by decide +kernel
theorem DM_X2_isSeated_11 : decode (mC M_X2_isSeated) 11 = .ok (.iconst 1, 1) := by decide +kernel
theorem DM_X2_isSeated_12 : decode (mC M_X2_isSeated) 12 = .ok (.goto 4, 3) := by decide +kernel
theorem DM_X2_isSeated_15 : decode (mC M_X2_isSeated) 15 = .ok (.iconst 0, 1) := by decide +kernel
theorem DM_X2_isSeated_16 : decode (mC M_X2_isSeated) 16 = .ok (.ireturn, 1) := by decide +kernel
theorem DM_X2_freeDay_0 : decode (mC M_X2_freeDay) 0 = .ok (.aload_n 0, 1) := by decide +kernel
theorem DM_X2_freeDay_1 : decode (mC M_X2_freeDay) 1 = .ok (.getfield 33, 3) := by decide +kernel
theorem DM_X2_freeDay_4 : decode (mC M_X2_freeDay) 4 = .ok (.iload_n 1, 1) := by decide +kernel
theorem DM_X2_freeDay_5 : decode (mC M_X2_freeDay) 5 = .ok (.iaload, 1) := by decide +kernel
theorem DM_X2_freeDay_6 : decode (mC M_X2_freeDay) 6 = .ok (.aload_n 0, 1) := by decide +kernel
theorem DM_X2_freeDay_7 : decode (mC M_X2_freeDay) 7 = .ok (.getfield 27, 3) := by decide +kernel
theorem DM_X2_freeDay_10 : decode (mC M_X2_freeDay) 10 = .ok (.iload_n 1, 1) := by decide +kernel
theorem DM_X2_freeDay_11 : decode (mC M_X2_freeDay) 11 = .ok (.iaload, 1) := by decide +kernel
theorem DM_X2_freeDay_12 : decode (mC M_X2_freeDay) 12 = .ok (.iadd, 1) := by decide +kernel
theorem DM_X2_freeDay_13 : decode (mC M_X2_freeDay) 13 = .ok (.ireturn, 1) := by decide +kernel
theorem DM_X2_waitsOn_0 : decode (mC M_X2_waitsOn) 0 = .ok (.aload_n 0, 1) := by decide +kernel
theorem DM_X2_waitsOn_1 : decode (mC M_X2_waitsOn) 1 = .ok (.iload_n 1, 1) := by decide +kernel
theorem DM_X2_waitsOn_2 : decode (mC M_X2_waitsOn) 2 = .ok (.invokevirtual 88, 3) := by decide +kernel
theorem DM_X2_waitsOn_5 : decode (mC M_X2_waitsOn) 5 = .ok (.ifCond .ne 17, 3) := by decide +kernel
theorem DM_X2_waitsOn_8 : decode (mC M_X2_waitsOn) 8 = .ok (.iload_n 2, 1) := by decide +kernel
theorem DM_X2_waitsOn_9 : decode (mC M_X2_waitsOn) 9 = .ok (.aload_n 0, 1) := by decide +kernel
theorem DM_X2_waitsOn_10 : decode (mC M_X2_waitsOn) 10 = .ok (.getfield 30, 3) := by decide +kernel
theorem DM_X2_waitsOn_13 : decode (mC M_X2_waitsOn) 13 = .ok (.iload_n 1, 1) := by decide +kernel
theorem DM_X2_waitsOn_14 : decode (mC M_X2_waitsOn) 14 = .ok (.iaload, 1) := by decide +kernel
theorem DM_X2_waitsOn_15 : decode (mC M_X2_waitsOn) 15 = .ok (.if_icmp .ge 7, 3) := by decide +kernel
theorem DM_X2_waitsOn_18 : decode (mC M_X2_waitsOn) 18 = .ok (.iconst 1, 1) := by decide +kernel
theorem DM_X2_waitsOn_19 : decode (mC M_X2_waitsOn) 19 = .ok (.goto 4, 3) := by decide +kernel
theorem DM_X2_waitsOn_22 : decode (mC M_X2_waitsOn) 22 = .ok (.iconst 0, 1) := by decide +kernel
theorem DM_X2_waitsOn_23 : decode (mC M_X2_waitsOn) 23 = .ok (.ireturn, 1) := by decide +kernel
theorem DM_X2_servesOn_0 : decode (mC M_X2_servesOn) 0 = .ok (.aload_n 0, 1) := by decide +kernel
theorem DM_X2_servesOn_1 : decode (mC M_X2_servesOn) 1 = .ok (.iload_n 1, 1) := by decide +kernel
theorem DM_X2_servesOn_2 : decode (mC M_X2_servesOn) 2 = .ok (.invokevirtual 88, 3) := by decide +kernel
theorem DM_X2_servesOn_5 : decode (mC M_X2_servesOn) 5 = .ok (.ifCond .eq 16, 3) := by decide +kernel
theorem DM_X2_servesOn_8 : decode (mC M_X2_servesOn) 8 = .ok (.iload_n 2, 1) := by decide +kernel
theorem DM_X2_servesOn_9 : decode (mC M_X2_servesOn) 9 = .ok (.aload_n 0, 1) := by decide +kernel
theorem DM_X2_servesOn_10 : decode (mC M_X2_servesOn) 10 = .ok (.iload_n 1, 1) := by decide +kernel
theorem DM_X2_servesOn_11 : decode (mC M_X2_servesOn) 11 = .ok (.invokevirtual 92, 3) := by decide +kernel
theorem DM_X2_servesOn_14 : decode (mC M_X2_servesOn) 14 = .ok (.if_icmp .ge 7, 3) := by decide +kernel
theorem DM_X2_servesOn_17 : decode (mC M_X2_servesOn) 17 = .ok (.iconst 1, 1) := by decide +kernel
theorem DM_X2_servesOn_18 : decode (mC M_X2_servesOn) 18 = .ok (.goto 4, 3) := by decide +kernel
theorem DM_X2_servesOn_21 : decode (mC M_X2_servesOn) 21 = .ok (.iconst 0, 1) := by decide +kernel
theorem DM_X2_servesOn_22 : decode (mC M_X2_servesOn) 22 = .ok (.ireturn, 1) := by decide +kernel
theorem DM_X2_stateOf_0 : decode (mC M_X2_stateOf) 0 = .ok (.aload_n 0, 1) := by decide +kernel
theorem DM_X2_stateOf_1 : decode (mC M_X2_stateOf) 1 = .ok (.iload_n 1, 1) := by decide +kernel
theorem DM_X2_stateOf_2 : decode (mC M_X2_stateOf) 2 = .ok (.invokevirtual 88, 3) := by decide +kernel
theorem DM_X2_stateOf_5 : decode (mC M_X2_stateOf) 5 = .ok (.ifCond .eq 21, 3) := by decide +kernel
theorem DM_X2_stateOf_8 : decode (mC M_X2_stateOf) 8 = .ok (.aload_n 0, 1) := by decide +kernel
theorem DM_X2_stateOf_9 : decode (mC M_X2_stateOf) 9 = .ok (.iload_n 1, 1) := by decide +kernel
theorem DM_X2_stateOf_10 : decode (mC M_X2_stateOf) 10 = .ok (.aload_n 0, 1) := by decide +kernel
theorem DM_X2_stateOf_11 : decode (mC M_X2_stateOf) 11 = .ok (.getfield 53, 3) := by decide +kernel
theorem DM_X2_stateOf_14 : decode (mC M_X2_stateOf) 14 = .ok (.invokevirtual 96, 3) := by decide +kernel
theorem DM_X2_stateOf_17 : decode (mC M_X2_stateOf) 17 = .ok (.ifCond .eq 7, 3) := by decide +kernel
theorem DM_X2_stateOf_20 : decode (mC M_X2_stateOf) 20 = .ok (.iconst 1, 1) := by decide +kernel
theorem DM_X2_stateOf_21 : decode (mC M_X2_stateOf) 21 = .ok (.goto 4, 3) := by decide +kernel
theorem DM_X2_stateOf_24 : decode (mC M_X2_stateOf) 24 = .ok (.iconst 2, 1) := by decide +kernel
theorem DM_X2_stateOf_25 : decode (mC M_X2_stateOf) 25 = .ok (.ireturn, 1) := by decide +kernel
theorem DM_X2_stateOf_26 : decode (mC M_X2_stateOf) 26 = .ok (.aload_n 0, 1) := by decide +kernel
theorem DM_X2_stateOf_27 : decode (mC M_X2_stateOf) 27 = .ok (.iload_n 1, 1) := by decide +kernel
theorem DM_X2_stateOf_28 : decode (mC M_X2_stateOf) 28 = .ok (.aload_n 0, 1) := by decide +kernel
theorem DM_X2_stateOf_29 : decode (mC M_X2_stateOf) 29 = .ok (.getfield 53, 3) := by decide +kernel
theorem DM_X2_stateOf_32 : decode (mC M_X2_stateOf) 32 = .ok (.invokevirtual 100, 3) := by decide +kernel
theorem DM_X2_stateOf_35 : decode (mC M_X2_stateOf) 35 = .ok (.ifCond .eq 7, 3) := by decide +kernel
theorem DM_X2_stateOf_38 : decode (mC M_X2_stateOf) 38 = .ok (.iconst 0, 1) := by decide +kernel
theorem DM_X2_stateOf_39 : decode (mC M_X2_stateOf) 39 = .ok (.goto 4, 3) := by decide +kernel
theorem DM_X2_stateOf_42 : decode (mC M_X2_stateOf) 42 = .ok (.iconst 3, 1) := by decide +kernel
theorem DM_X2_stateOf_43 : decode (mC M_X2_stateOf) 43 = .ok (.ireturn, 1) := by decide +kernel
theorem DM_X2_howMany_0 : decode (mC M_X2_howMany) 0 = .ok (.iconst 0, 1) := by decide +kernel
theorem DM_X2_howMany_1 : decode (mC M_X2_howMany) 1 = .ok (.istore_n 2, 1) := by decide +kernel
theorem DM_X2_howMany_2 : decode (mC M_X2_howMany) 2 = .ok (.iconst 0, 1) := by decide +kernel
theorem DM_X2_howMany_3 : decode (mC M_X2_howMany) 3 = .ok (.istore_n 3, 1) := by decide +kernel
theorem DM_X2_howMany_4 : decode (mC M_X2_howMany) 4 = .ok (.iload_n 3, 1) := by decide +kernel
theorem DM_X2_howMany_5 : decode (mC M_X2_howMany) 5 = .ok (.aload_n 0, 1) := by decide +kernel
theorem DM_X2_howMany_6 : decode (mC M_X2_howMany) 6 = .ok (.getfield 43, 3) := by decide +kernel
theorem DM_X2_howMany_9 : decode (mC M_X2_howMany) 9 = .ok (.if_icmp .ge 21, 3) := by decide +kernel
theorem DM_X2_howMany_12 : decode (mC M_X2_howMany) 12 = .ok (.aload_n 0, 1) := by decide +kernel
theorem DM_X2_howMany_13 : decode (mC M_X2_howMany) 13 = .ok (.iload_n 3, 1) := by decide +kernel
theorem DM_X2_howMany_14 : decode (mC M_X2_howMany) 14 = .ok (.invokevirtual 103, 3) := by decide +kernel
theorem DM_X2_howMany_17 : decode (mC M_X2_howMany) 17 = .ok (.iload_n 1, 1) := by decide +kernel
theorem DM_X2_howMany_18 : decode (mC M_X2_howMany) 18 = .ok (.if_icmp .ne 6, 3) := by decide +kernel
theorem DM_X2_howMany_21 : decode (mC M_X2_howMany) 21 = .ok (.iinc 2 1, 3) := by decide +kernel
theorem DM_X2_howMany_24 : decode (mC M_X2_howMany) 24 = .ok (.iinc 3 1, 3) := by decide +kernel
theorem DM_X2_howMany_27 : decode (mC M_X2_howMany) 27 = .ok (.goto (-23), 3) := by decide +kernel
theorem DM_X2_howMany_30 : decode (mC M_X2_howMany) 30 = .ok (.iload_n 2, 1) := by decide +kernel
theorem DM_X2_howMany_31 : decode (mC M_X2_howMany) 31 = .ok (.ireturn, 1) := by decide +kernel
theorem DM_X2_howManyBefore_0 : decode (mC M_X2_howManyBefore) 0 = .ok (.aload_n 0, 1) := by decide +kernel
theorem DM_X2_howManyBefore_1 : decode (mC M_X2_howManyBefore) 1 = .ok (.aload_n 0, 1) := by decide +kernel
theorem DM_X2_howManyBefore_2 : decode (mC M_X2_howManyBefore) 2 = .ok (.getfield 53, 3) := by decide +kernel
theorem DM_X2_howManyBefore_5 : decode (mC M_X2_howManyBefore) 5 = .ok (.iconst 0, 1) := by decide +kernel
theorem DM_X2_howManyBefore_6 : decode (mC M_X2_howManyBefore) 6 = .ok (.invokevirtual 106, 3) := by decide +kernel
theorem DM_X2_howManyBefore_9 : decode (mC M_X2_howManyBefore) 9 = .ok (.istore_n 2, 1) := by decide +kernel
theorem DM_X2_howManyBefore_10 : decode (mC M_X2_howManyBefore) 10 = .ok (.iconst 0, 1) := by decide +kernel
theorem DM_X2_howManyBefore_11 : decode (mC M_X2_howManyBefore) 11 = .ok (.istore_n 3, 1) := by decide +kernel
theorem DM_X2_howManyBefore_12 : decode (mC M_X2_howManyBefore) 12 = .ok (.iconst 0, 1) := by decide +kernel
theorem DM_X2_howManyBefore_13 : decode (mC M_X2_howManyBefore) 13 = .ok (.istore 4, 2) := by decide +kernel
theorem DM_X2_howManyBefore_15 : decode (mC M_X2_howManyBefore) 15 = .ok (.iload 4, 2) := by decide +kernel
theorem DM_X2_howManyBefore_17 : decode (mC M_X2_howManyBefore) 17 = .ok (.aload_n 0, 1) := by decide +kernel
theorem DM_X2_howManyBefore_18 : decode (mC M_X2_howManyBefore) 18 = .ok (.getfield 43, 3) := by decide +kernel
theorem DM_X2_howManyBefore_21 : decode (mC M_X2_howManyBefore) 21 = .ok (.if_icmp .ge 36, 3) := by decide +kernel
theorem DM_X2_howManyBefore_24 : decode (mC M_X2_howManyBefore) 24 = .ok (.aload_n 0, 1) := by decide +kernel
theorem DM_X2_howManyBefore_25 : decode (mC M_X2_howManyBefore) 25 = .ok (.iload 4, 2) := by decide +kernel
theorem DM_X2_howManyBefore_27 : decode (mC M_X2_howManyBefore) 27 = .ok (.aload_n 0, 1) := by decide +kernel
theorem DM_X2_howManyBefore_28 : decode (mC M_X2_howManyBefore) 28 = .ok (.getfield 53, 3) := by decide +kernel
theorem DM_X2_howManyBefore_31 : decode (mC M_X2_howManyBefore) 31 = .ok (.invokevirtual 100, 3) := by decide +kernel
theorem DM_X2_howManyBefore_34 : decode (mC M_X2_howManyBefore) 34 = .ok (.ifCond .eq 17, 3) := by decide +kernel
theorem DM_X2_howManyBefore_37 : decode (mC M_X2_howManyBefore) 37 = .ok (.aload_n 0, 1) := by decide +kernel
theorem DM_X2_howManyBefore_38 : decode (mC M_X2_howManyBefore) 38 = .ok (.iload 4, 2) := by decide +kernel
theorem DM_X2_howManyBefore_40 : decode (mC M_X2_howManyBefore) 40 = .ok (.iload_n 1, 1) := by decide +kernel
theorem DM_X2_howManyBefore_41 : decode (mC M_X2_howManyBefore) 41 = .ok (.iload_n 2, 1) := by decide +kernel
theorem DM_X2_howManyBefore_42 : decode (mC M_X2_howManyBefore) 42 = .ok (.invokevirtual 109, 3) := by decide +kernel
theorem DM_X2_howManyBefore_45 : decode (mC M_X2_howManyBefore) 45 = .ok (.ifCond .eq 6, 3) := by decide +kernel
theorem DM_X2_howManyBefore_48 : decode (mC M_X2_howManyBefore) 48 = .ok (.iinc 3 1, 3) := by decide +kernel
theorem DM_X2_howManyBefore_51 : decode (mC M_X2_howManyBefore) 51 = .ok (.iinc 4 1, 3) := by decide +kernel
theorem DM_X2_howManyBefore_54 : decode (mC M_X2_howManyBefore) 54 = .ok (.goto (-39), 3) := by decide +kernel
theorem DM_X2_howManyBefore_57 : decode (mC M_X2_howManyBefore) 57 = .ok (.iload_n 3, 1) := by decide +kernel
theorem DM_X2_howManyBefore_58 : decode (mC M_X2_howManyBefore) 58 = .ok (.ireturn, 1) := by decide +kernel
theorem DM_X2_howManyWaitWith_0 : decode (mC M_X2_howManyWaitWith) 0 = .ok (.iconst 0, 1) := by decide +kernel
theorem DM_X2_howManyWaitWith_1 : decode (mC M_X2_howManyWaitWith) 1 = .ok (.istore_n 2, 1) := by decide +kernel
theorem DM_X2_howManyWaitWith_2 : decode (mC M_X2_howManyWaitWith) 2 = .ok (.iconst 0, 1) := by decide +kernel
theorem DM_X2_howManyWaitWith_3 : decode (mC M_X2_howManyWaitWith) 3 = .ok (.istore_n 3, 1) := by decide +kernel
theorem DM_X2_howManyWaitWith_4 : decode (mC M_X2_howManyWaitWith) 4 = .ok (.iload_n 3, 1) := by decide +kernel
theorem DM_X2_howManyWaitWith_5 : decode (mC M_X2_howManyWaitWith) 5 = .ok (.aload_n 0, 1) := by decide +kernel
theorem DM_X2_howManyWaitWith_6 : decode (mC M_X2_howManyWaitWith) 6 = .ok (.getfield 43, 3) := by decide +kernel
theorem DM_X2_howManyWaitWith_9 : decode (mC M_X2_howManyWaitWith) 9 = .ok (.if_icmp .ge 37, 3) := by decide +kernel
theorem DM_X2_howManyWaitWith_12 : decode (mC M_X2_howManyWaitWith) 12 = .ok (.aload_n 0, 1) := by decide +kernel
theorem DM_X2_howManyWaitWith_13 : decode (mC M_X2_howManyWaitWith) 13 = .ok (.iload_n 3, 1) := by decide +kernel
theorem DM_X2_howManyWaitWith_14 : decode (mC M_X2_howManyWaitWith) 14 = .ok (.aload_n 0, 1) := by decide +kernel
theorem DM_X2_howManyWaitWith_15 : decode (mC M_X2_howManyWaitWith) 15 = .ok (.getfield 53, 3) := by decide +kernel
theorem DM_X2_howManyWaitWith_18 : decode (mC M_X2_howManyWaitWith) 18 = .ok (.invokevirtual 100, 3) := by decide +kernel
theorem DM_X2_howManyWaitWith_21 : decode (mC M_X2_howManyWaitWith) 21 = .ok (.ifCond .eq 19, 3) := by decide +kernel
theorem DM_X2_howManyWaitWith_24 : decode (mC M_X2_howManyWaitWith) 24 = .ok (.aload_n 0, 1) := by decide +kernel
theorem DM_X2_howManyWaitWith_25 : decode (mC M_X2_howManyWaitWith) 25 = .ok (.iload_n 3, 1) := by decide +kernel
theorem DM_X2_howManyWaitWith_26 : decode (mC M_X2_howManyWaitWith) 26 = .ok (.invokevirtual 113, 3) := by decide +kernel
theorem DM_X2_howManyWaitWith_29 : decode (mC M_X2_howManyWaitWith) 29 = .ok (.iload_n 1, 1) := by decide +kernel
theorem DM_X2_howManyWaitWith_30 : decode (mC M_X2_howManyWaitWith) 30 = .ok (.ishr, 1) := by decide +kernel
theorem DM_X2_howManyWaitWith_31 : decode (mC M_X2_howManyWaitWith) 31 = .ok (.iconst 1, 1) := by decide +kernel
theorem DM_X2_howManyWaitWith_32 : decode (mC M_X2_howManyWaitWith) 32 = .ok (.iand, 1) := by decide +kernel
theorem DM_X2_howManyWaitWith_33 : decode (mC M_X2_howManyWaitWith) 33 = .ok (.iconst 1, 1) := by decide +kernel
theorem DM_X2_howManyWaitWith_34 : decode (mC M_X2_howManyWaitWith) 34 = .ok (.if_icmp .ne 6, 3) := by decide +kernel
theorem DM_X2_howManyWaitWith_37 : decode (mC M_X2_howManyWaitWith) 37 = .ok (.iinc 2 1, 3) := by decide +kernel
theorem DM_X2_howManyWaitWith_40 : decode (mC M_X2_howManyWaitWith) 40 = .ok (.iinc 3 1, 3) := by decide +kernel
theorem DM_X2_howManyWaitWith_43 : decode (mC M_X2_howManyWaitWith) 43 = .ok (.goto (-39), 3) := by decide +kernel
theorem DM_X2_howManyWaitWith_46 : decode (mC M_X2_howManyWaitWith) 46 = .ok (.iload_n 2, 1) := by decide +kernel
theorem DM_X2_howManyWaitWith_47 : decode (mC M_X2_howManyWaitWith) 47 = .ok (.ireturn, 1) := by decide +kernel
theorem DM_X2_lastWaitingBut_0 : decode (mC M_X2_lastWaitingBut) 0 = .ok (.iconst (-1), 1) := by decide +kernel
theorem DM_X2_lastWaitingBut_1 : decode (mC M_X2_lastWaitingBut) 1 = .ok (.istore_n 3, 1) := by decide +kernel
theorem DM_X2_lastWaitingBut_2 : decode (mC M_X2_lastWaitingBut) 2 = .ok (.iconst 0, 1) := by decide +kernel
theorem DM_X2_lastWaitingBut_3 : decode (mC M_X2_lastWaitingBut) 3 = .ok (.istore 4, 2) := by decide +kernel
theorem DM_X2_lastWaitingBut_5 : decode (mC M_X2_lastWaitingBut) 5 = .ok (.iload 4, 2) := by decide +kernel
theorem DM_X2_lastWaitingBut_7 : decode (mC M_X2_lastWaitingBut) 7 = .ok (.aload_n 0, 1) := by decide +kernel
theorem DM_X2_lastWaitingBut_8 : decode (mC M_X2_lastWaitingBut) 8 = .ok (.getfield 43, 3) := by decide +kernel
theorem DM_X2_lastWaitingBut_11 : decode (mC M_X2_lastWaitingBut) 11 = .ok (.if_icmp .ge 47, 3) := by decide +kernel
theorem DM_X2_lastWaitingBut_14 : decode (mC M_X2_lastWaitingBut) 14 = .ok (.iload 4, 2) := by decide +kernel
theorem DM_X2_lastWaitingBut_16 : decode (mC M_X2_lastWaitingBut) 16 = .ok (.iload_n 1, 1) := by decide +kernel
theorem DM_X2_lastWaitingBut_17 : decode (mC M_X2_lastWaitingBut) 17 = .ok (.if_icmp .eq 35, 3) := by decide +kernel
theorem DM_X2_lastWaitingBut_20 : decode (mC M_X2_lastWaitingBut) 20 = .ok (.aload_n 0, 1) := by decide +kernel
theorem DM_X2_lastWaitingBut_21 : decode (mC M_X2_lastWaitingBut) 21 = .ok (.iload 4, 2) := by decide +kernel
theorem DM_X2_lastWaitingBut_23 : decode (mC M_X2_lastWaitingBut) 23 = .ok (.aload_n 0, 1) := by decide +kernel
theorem DM_X2_lastWaitingBut_24 : decode (mC M_X2_lastWaitingBut) 24 = .ok (.getfield 53, 3) := by decide +kernel
theorem DM_X2_lastWaitingBut_27 : decode (mC M_X2_lastWaitingBut) 27 = .ok (.invokevirtual 100, 3) := by decide +kernel
theorem DM_X2_lastWaitingBut_30 : decode (mC M_X2_lastWaitingBut) 30 = .ok (.ifCond .eq 22, 3) := by decide +kernel
theorem DM_X2_lastWaitingBut_33 : decode (mC M_X2_lastWaitingBut) 33 = .ok (.iload_n 3, 1) := by decide +kernel
theorem DM_X2_lastWaitingBut_34 : decode (mC M_X2_lastWaitingBut) 34 = .ok (.iconst (-1), 1) := by decide +kernel
theorem DM_X2_lastWaitingBut_35 : decode (mC M_X2_lastWaitingBut) 35 = .ok (.if_icmp .eq 14, 3) := by decide +kernel
theorem DM_X2_lastWaitingBut_38 : decode (mC M_X2_lastWaitingBut) 38 = .ok (.aload_n 0, 1) := by decide +kernel
theorem DM_X2_lastWaitingBut_39 : decode (mC M_X2_lastWaitingBut) 39 = .ok (.iload_n 3, 1) := by decide +kernel
theorem DM_X2_lastWaitingBut_40 : decode (mC M_X2_lastWaitingBut) 40 = .ok (.iload 4, 2) := by decide +kernel
theorem DM_X2_lastWaitingBut_42 : decode (mC M_X2_lastWaitingBut) 42 = .ok (.iload_n 2, 1) := by decide +kernel
theorem DM_X2_lastWaitingBut_43 : decode (mC M_X2_lastWaitingBut) 43 = .ok (.invokevirtual 109, 3) := by decide +kernel
theorem DM_X2_lastWaitingBut_46 : decode (mC M_X2_lastWaitingBut) 46 = .ok (.ifCond .eq 6, 3) := by decide +kernel
theorem DM_X2_lastWaitingBut_49 : decode (mC M_X2_lastWaitingBut) 49 = .ok (.iload 4, 2) := by decide +kernel
theorem DM_X2_lastWaitingBut_51 : decode (mC M_X2_lastWaitingBut) 51 = .ok (.istore_n 3, 1) := by decide +kernel
theorem DM_X2_lastWaitingBut_52 : decode (mC M_X2_lastWaitingBut) 52 = .ok (.iinc 4 1, 3) := by decide +kernel
theorem DM_X2_lastWaitingBut_55 : decode (mC M_X2_lastWaitingBut) 55 = .ok (.goto (-50), 3) := by decide +kernel
theorem DM_X2_lastWaitingBut_58 : decode (mC M_X2_lastWaitingBut) 58 = .ok (.iload_n 3, 1) := by decide +kernel
theorem DM_X2_lastWaitingBut_59 : decode (mC M_X2_lastWaitingBut) 59 = .ok (.ireturn, 1) := by decide +kernel
theorem DM_X2_seatTill_0 : decode (mC M_X2_seatTill) 0 = .ok (.aload_n 0, 1) := by decide +kernel
theorem DM_X2_seatTill_1 : decode (mC M_X2_seatTill) 1 = .ok (.iconst 0, 1) := by decide +kernel
theorem DM_X2_seatTill_2 : decode (mC M_X2_seatTill) 2 = .ok (.putfield 116, 3) := by decide +kernel
theorem DM_X2_seatTill_5 : decode (mC M_X2_seatTill) 5 = .ok (.aload_n 0, 1) := by decide +kernel
theorem DM_X2_seatTill_6 : decode (mC M_X2_seatTill) 6 = .ok (.getfield 53, 3) := by decide +kernel
theorem DM_X2_seatTill_9 : decode (mC M_X2_seatTill) 9 = .ok (.iconst 1, 1) := by decide +kernel
theorem DM_X2_seatTill_10 : decode (mC M_X2_seatTill) 10 = .ok (.iadd, 1) := by decide +kernel
theorem DM_X2_seatTill_11 : decode (mC M_X2_seatTill) 11 = .ok (.istore_n 3, 1) := by decide +kernel
theorem DM_X2_seatTill_12 : decode (mC M_X2_seatTill) 12 = .ok (.iconst 0, 1) := by decide +kernel
theorem DM_X2_seatTill_13 : decode (mC M_X2_seatTill) 13 = .ok (.istore 4, 2) := by decide +kernel
theorem DM_X2_seatTill_15 : decode (mC M_X2_seatTill) 15 = .ok (.iload 4, 2) := by decide +kernel
theorem DM_X2_seatTill_17 : decode (mC M_X2_seatTill) 17 = .ok (.aload_n 0, 1) := by decide +kernel
theorem DM_X2_seatTill_18 : decode (mC M_X2_seatTill) 18 = .ok (.getfield 43, 3) := by decide +kernel
theorem DM_X2_seatTill_21 : decode (mC M_X2_seatTill) 21 = .ok (.if_icmp .ge 64, 3) := by decide +kernel
theorem DM_X2_seatTill_24 : decode (mC M_X2_seatTill) 24 = .ok (.aload_n 0, 1) := by decide +kernel
theorem DM_X2_seatTill_25 : decode (mC M_X2_seatTill) 25 = .ok (.iload_n 3, 1) := by decide +kernel
theorem DM_X2_seatTill_26 : decode (mC M_X2_seatTill) 26 = .ok (.invokevirtual 119, 3) := by decide +kernel
theorem DM_X2_seatTill_29 : decode (mC M_X2_seatTill) 29 = .ok (.istore_n 3, 1) := by decide +kernel
theorem DM_X2_seatTill_30 : decode (mC M_X2_seatTill) 30 = .ok (.iload_n 3, 1) := by decide +kernel
theorem DM_X2_seatTill_31 : decode (mC M_X2_seatTill) 31 = .ok (.iload_n 1, 1) := by decide +kernel
theorem DM_X2_seatTill_32 : decode (mC M_X2_seatTill) 32 = .ok (.if_icmp .le 7, 3) := by decide +kernel
theorem DM_X2_seatTill_35 : decode (mC M_X2_seatTill) 35 = .ok (.iconst (-1), 1) := by decide +kernel
theorem DM_X2_seatTill_36 : decode (mC M_X2_seatTill) 36 = .ok (.goto 9, 3) := by decide +kernel
theorem DM_X2_seatTill_39 : decode (mC M_X2_seatTill) 39 = .ok (.aload_n 0, 1) := by decide +kernel
theorem DM_X2_seatTill_40 : decode (mC M_X2_seatTill) 40 = .ok (.iload_n 3, 1) := by decide +kernel
theorem DM_X2_seatTill_41 : decode (mC M_X2_seatTill) 41 = .ok (.iload_n 2, 1) := by decide +kernel
theorem DM_X2_seatTill_42 : decode (mC M_X2_seatTill) 42 = .ok (.invokevirtual 122, 3) := by decide +kernel
theorem DM_X2_seatTill_45 : decode (mC M_X2_seatTill) 45 = .ok (.istore 5, 2) := by decide +kernel
theorem DM_X2_seatTill_47 : decode (mC M_X2_seatTill) 47 = .ok (.iload 5, 2) := by decide +kernel
theorem DM_X2_seatTill_49 : decode (mC M_X2_seatTill) 49 = .ok (.iconst (-1), 1) := by decide +kernel
theorem DM_X2_seatTill_50 : decode (mC M_X2_seatTill) 50 = .ok (.if_icmp .ne 4, 3) := by decide +kernel
theorem DM_X2_seatTill_53 : decode (mC M_X2_seatTill) 53 = .ok (.return_, 1) := by decide +kernel
theorem DM_X2_seatTill_54 : decode (mC M_X2_seatTill) 54 = .ok (.aload_n 0, 1) := by decide +kernel
theorem DM_X2_seatTill_55 : decode (mC M_X2_seatTill) 55 = .ok (.getfield 33, 3) := by decide +kernel
theorem DM_X2_seatTill_58 : decode (mC M_X2_seatTill) 58 = .ok (.iload 5, 2) := by decide +kernel
theorem DM_X2_seatTill_60 : decode (mC M_X2_seatTill) 60 = .ok (.iload_n 3, 1) := by decide +kernel
theorem DM_X2_seatTill_61 : decode (mC M_X2_seatTill) 61 = .ok (.iastore, 1) := by decide +kernel
theorem DM_X2_seatTill_62 : decode (mC M_X2_seatTill) 62 = .ok (.aload_n 0, 1) := by decide +kernel
theorem DM_X2_seatTill_63 : decode (mC M_X2_seatTill) 63 = .ok (.getfield 36, 3) := by decide +kernel
theorem DM_X2_seatTill_66 : decode (mC M_X2_seatTill) 66 = .ok (.iload 4, 2) := by decide +kernel
theorem DM_X2_seatTill_68 : decode (mC M_X2_seatTill) 68 = .ok (.iload 5, 2) := by decide +kernel
theorem DM_X2_seatTill_70 : decode (mC M_X2_seatTill) 70 = .ok (.iastore, 1) := by decide +kernel
theorem DM_X2_seatTill_71 : decode (mC M_X2_seatTill) 71 = .ok (.aload_n 0, 1) := by decide +kernel
theorem DM_X2_seatTill_72 : decode (mC M_X2_seatTill) 72 = .ok (.iload 4, 2) := by decide +kernel
theorem DM_X2_seatTill_74 : decode (mC M_X2_seatTill) 74 = .ok (.iconst 1, 1) := by decide +kernel
theorem DM_X2_seatTill_75 : decode (mC M_X2_seatTill) 75 = .ok (.iadd, 1) := by decide +kernel
theorem DM_X2_seatTill_76 : decode (mC M_X2_seatTill) 76 = .ok (.putfield 116, 3) := by decide +kernel
theorem DM_X2_seatTill_79 : decode (mC M_X2_seatTill) 79 = .ok (.iinc 4 1, 3) := by decide +kernel
theorem DM_X2_seatTill_82 : decode (mC M_X2_seatTill) 82 = .ok (.goto (-67), 3) := by decide +kernel
theorem DM_X2_seatTill_85 : decode (mC M_X2_seatTill) 85 = .ok (.return_, 1) := by decide +kernel
theorem DM_X2_openDay_0 : decode (mC M_X2_openDay) 0 = .ok (.iconst 0, 1) := by decide +kernel
theorem DM_X2_openDay_1 : decode (mC M_X2_openDay) 1 = .ok (.istore_n 2, 1) := by decide +kernel
theorem DM_X2_openDay_2 : decode (mC M_X2_openDay) 2 = .ok (.ldc 127, 2) := by decide +kernel
theorem DM_X2_openDay_4 : decode (mC M_X2_openDay) 4 = .ok (.istore_n 3, 1) := by decide +kernel
theorem DM_X2_openDay_5 : decode (mC M_X2_openDay) 5 = .ok (.iconst 0, 1) := by decide +kernel
theorem DM_X2_openDay_6 : decode (mC M_X2_openDay) 6 = .ok (.istore 4, 2) := by decide +kernel
theorem DM_X2_openDay_8 : decode (mC M_X2_openDay) 8 = .ok (.iload 4, 2) := by decide +kernel
theorem DM_X2_openDay_10 : decode (mC M_X2_openDay) 10 = .ok (.aload_n 0, 1) := by decide +kernel
theorem DM_X2_openDay_11 : decode (mC M_X2_openDay) 11 = .ok (.getfield 43, 3) := by decide +kernel
theorem DM_X2_openDay_14 : decode (mC M_X2_openDay) 14 = .ok (.if_icmp .ge 33, 3) := by decide +kernel
theorem DM_X2_openDay_17 : decode (mC M_X2_openDay) 17 = .ok (.aload_n 0, 1) := by decide +kernel
theorem DM_X2_openDay_18 : decode (mC M_X2_openDay) 18 = .ok (.iload 4, 2) := by decide +kernel
theorem DM_X2_openDay_20 : decode (mC M_X2_openDay) 20 = .ok (.iload_n 1, 1) := by decide +kernel
theorem DM_X2_openDay_21 : decode (mC M_X2_openDay) 21 = .ok (.invokevirtual 96, 3) := by decide +kernel
theorem DM_X2_openDay_24 : decode (mC M_X2_openDay) 24 = .ok (.ifCond .eq 17, 3) := by decide +kernel
theorem DM_X2_openDay_27 : decode (mC M_X2_openDay) 27 = .ok (.iinc 2 1, 3) := by decide +kernel
theorem DM_X2_openDay_30 : decode (mC M_X2_openDay) 30 = .ok (.iload_n 3, 1) := by decide +kernel
theorem DM_X2_openDay_31 : decode (mC M_X2_openDay) 31 = .ok (.aload_n 0, 1) := by decide +kernel
theorem DM_X2_openDay_32 : decode (mC M_X2_openDay) 32 = .ok (.iload 4, 2) := by decide +kernel
theorem DM_X2_openDay_34 : decode (mC M_X2_openDay) 34 = .ok (.invokevirtual 92, 3) := by decide +kernel
theorem DM_X2_openDay_37 : decode (mC M_X2_openDay) 37 = .ok (.invokestatic 70, 3) := by decide +kernel
theorem DM_X2_openDay_40 : decode (mC M_X2_openDay) 40 = .ok (.istore_n 3, 1) := by decide +kernel
theorem DM_X2_openDay_41 : decode (mC M_X2_openDay) 41 = .ok (.iinc 4 1, 3) := by decide +kernel
theorem DM_X2_openDay_44 : decode (mC M_X2_openDay) 44 = .ok (.goto (-36), 3) := by decide +kernel
theorem DM_X2_openDay_47 : decode (mC M_X2_openDay) 47 = .ok (.iload_n 2, 1) := by decide +kernel
theorem DM_X2_openDay_48 : decode (mC M_X2_openDay) 48 = .ok (.aload_n 0, 1) := by decide +kernel
theorem DM_X2_openDay_49 : decode (mC M_X2_openDay) 49 = .ok (.getfield 47, 3) := by decide +kernel
theorem DM_X2_openDay_52 : decode (mC M_X2_openDay) 52 = .ok (.if_icmp .ge 7, 3) := by decide +kernel
theorem DM_X2_openDay_55 : decode (mC M_X2_openDay) 55 = .ok (.iload_n 1, 1) := by decide +kernel
theorem DM_X2_openDay_56 : decode (mC M_X2_openDay) 56 = .ok (.goto 4, 3) := by decide +kernel
theorem DM_X2_openDay_59 : decode (mC M_X2_openDay) 59 = .ok (.iload_n 3, 1) := by decide +kernel
theorem DM_X2_openDay_60 : decode (mC M_X2_openDay) 60 = .ok (.ireturn, 1) := by decide +kernel
theorem DM_X2_firstOn_0 : decode (mC M_X2_firstOn) 0 = .ok (.aload_n 0, 1) := by decide +kernel
theorem DM_X2_firstOn_1 : decode (mC M_X2_firstOn) 1 = .ok (.iload_n 1, 1) := by decide +kernel
theorem DM_X2_firstOn_2 : decode (mC M_X2_firstOn) 2 = .ok (.iload_n 2, 1) := by decide +kernel
theorem DM_X2_firstOn_3 : decode (mC M_X2_firstOn) 3 = .ok (.invokevirtual 106, 3) := by decide +kernel
theorem DM_X2_firstOn_6 : decode (mC M_X2_firstOn) 6 = .ok (.istore_n 3, 1) := by decide +kernel
theorem DM_X2_firstOn_7 : decode (mC M_X2_firstOn) 7 = .ok (.iconst (-1), 1) := by decide +kernel
theorem DM_X2_firstOn_8 : decode (mC M_X2_firstOn) 8 = .ok (.istore 4, 2) := by decide +kernel
theorem DM_X2_firstOn_10 : decode (mC M_X2_firstOn) 10 = .ok (.iconst 0, 1) := by decide +kernel
theorem DM_X2_firstOn_11 : decode (mC M_X2_firstOn) 11 = .ok (.istore 5, 2) := by decide +kernel
theorem DM_X2_firstOn_13 : decode (mC M_X2_firstOn) 13 = .ok (.iload 5, 2) := by decide +kernel
theorem DM_X2_firstOn_15 : decode (mC M_X2_firstOn) 15 = .ok (.aload_n 0, 1) := by decide +kernel
theorem DM_X2_firstOn_16 : decode (mC M_X2_firstOn) 16 = .ok (.getfield 43, 3) := by decide +kernel
theorem DM_X2_firstOn_19 : decode (mC M_X2_firstOn) 19 = .ok (.if_icmp .ge 67, 3) := by decide +kernel
theorem DM_X2_firstOn_22 : decode (mC M_X2_firstOn) 22 = .ok (.aload_n 0, 1) := by decide +kernel
theorem DM_X2_firstOn_23 : decode (mC M_X2_firstOn) 23 = .ok (.iload 5, 2) := by decide +kernel
theorem DM_X2_firstOn_25 : decode (mC M_X2_firstOn) 25 = .ok (.iload_n 1, 1) := by decide +kernel
theorem DM_X2_firstOn_26 : decode (mC M_X2_firstOn) 26 = .ok (.invokevirtual 100, 3) := by decide +kernel
theorem DM_X2_firstOn_29 : decode (mC M_X2_firstOn) 29 = .ok (.ifCond .eq 21, 3) := by decide +kernel
theorem DM_X2_firstOn_32 : decode (mC M_X2_firstOn) 32 = .ok (.aload_n 0, 1) := by decide +kernel
theorem DM_X2_firstOn_33 : decode (mC M_X2_firstOn) 33 = .ok (.iload 5, 2) := by decide +kernel
theorem DM_X2_firstOn_35 : decode (mC M_X2_firstOn) 35 = .ok (.invokevirtual 113, 3) := by decide +kernel
theorem DM_X2_firstOn_38 : decode (mC M_X2_firstOn) 38 = .ok (.aload_n 0, 1) := by decide +kernel
theorem DM_X2_firstOn_39 : decode (mC M_X2_firstOn) 39 = .ok (.getfield 56, 3) := by decide +kernel
theorem DM_X2_firstOn_42 : decode (mC M_X2_firstOn) 42 = .ok (.iand, 1) := by decide +kernel
theorem DM_X2_firstOn_43 : decode (mC M_X2_firstOn) 43 = .ok (.ifCond .ne 7, 3) := by decide +kernel
theorem DM_X2_firstOn_46 : decode (mC M_X2_firstOn) 46 = .ok (.iconst 1, 1) := by decide +kernel
theorem DM_X2_firstOn_47 : decode (mC M_X2_firstOn) 47 = .ok (.goto 4, 3) := by decide +kernel
theorem DM_X2_firstOn_50 : decode (mC M_X2_firstOn) 50 = .ok (.iconst 0, 1) := by decide +kernel
theorem DM_X2_firstOn_51 : decode (mC M_X2_firstOn) 51 = .ok (.istore 6, 2) := by decide +kernel
theorem DM_X2_firstOn_53 : decode (mC M_X2_firstOn) 53 = .ok (.iload 6, 2) := by decide +kernel
theorem DM_X2_firstOn_55 : decode (mC M_X2_firstOn) 55 = .ok (.ifCond .eq 25, 3) := by decide +kernel
theorem DM_X2_firstOn_58 : decode (mC M_X2_firstOn) 58 = .ok (.iload 4, 2) := by decide +kernel
theorem DM_X2_firstOn_60 : decode (mC M_X2_firstOn) 60 = .ok (.iconst (-1), 1) := by decide +kernel
theorem DM_X2_firstOn_61 : decode (mC M_X2_firstOn) 61 = .ok (.if_icmp .eq 15, 3) := by decide +kernel
theorem DM_X2_firstOn_64 : decode (mC M_X2_firstOn) 64 = .ok (.aload_n 0, 1) := by decide +kernel
theorem DM_X2_firstOn_65 : decode (mC M_X2_firstOn) 65 = .ok (.iload 5, 2) := by decide +kernel
theorem DM_X2_firstOn_67 : decode (mC M_X2_firstOn) 67 = .ok (.iload 4, 2) := by decide +kernel
theorem DM_X2_firstOn_69 : decode (mC M_X2_firstOn) 69 = .ok (.iload_n 3, 1) := by decide +kernel
theorem DM_X2_firstOn_70 : decode (mC M_X2_firstOn) 70 = .ok (.invokevirtual 109, 3) := by decide +kernel
theorem DM_X2_firstOn_73 : decode (mC M_X2_firstOn) 73 = .ok (.ifCond .eq 7, 3) := by decide +kernel
theorem DM_X2_firstOn_76 : decode (mC M_X2_firstOn) 76 = .ok (.iload 5, 2) := by decide +kernel
theorem DM_X2_firstOn_78 : decode (mC M_X2_firstOn) 78 = .ok (.istore 4, 2) := by decide +kernel
theorem DM_X2_firstOn_80 : decode (mC M_X2_firstOn) 80 = .ok (.iinc 5 1, 3) := by decide +kernel
theorem DM_X2_firstOn_83 : decode (mC M_X2_firstOn) 83 = .ok (.goto (-70), 3) := by decide +kernel
theorem DM_X2_firstOn_86 : decode (mC M_X2_firstOn) 86 = .ok (.iload 4, 2) := by decide +kernel
theorem DM_X2_firstOn_88 : decode (mC M_X2_firstOn) 88 = .ok (.ireturn, 1) := by decide +kernel
theorem DM_X2_takeBackDay_0 : decode (mC M_X2_takeBackDay) 0 = .ok (.iconst 0, 1) := by decide +kernel
theorem DM_X2_takeBackDay_1 : decode (mC M_X2_takeBackDay) 1 = .ok (.istore_n 1, 1) := by decide +kernel
theorem DM_X2_takeBackDay_2 : decode (mC M_X2_takeBackDay) 2 = .ok (.iload_n 1, 1) := by decide +kernel
theorem DM_X2_takeBackDay_3 : decode (mC M_X2_takeBackDay) 3 = .ok (.aload_n 0, 1) := by decide +kernel
theorem DM_X2_takeBackDay_4 : decode (mC M_X2_takeBackDay) 4 = .ok (.getfield 43, 3) := by decide +kernel
theorem DM_X2_takeBackDay_7 : decode (mC M_X2_takeBackDay) 7 = .ok (.if_icmp .ge 30, 3) := by decide +kernel
theorem DM_X2_takeBackDay_10 : decode (mC M_X2_takeBackDay) 10 = .ok (.aload_n 0, 1) := by decide +kernel
theorem DM_X2_takeBackDay_11 : decode (mC M_X2_takeBackDay) 11 = .ok (.getfield 33, 3) := by decide +kernel
theorem DM_X2_takeBackDay_14 : decode (mC M_X2_takeBackDay) 14 = .ok (.iload_n 1, 1) := by decide +kernel
theorem DM_X2_takeBackDay_15 : decode (mC M_X2_takeBackDay) 15 = .ok (.iaload, 1) := by decide +kernel
theorem DM_X2_takeBackDay_16 : decode (mC M_X2_takeBackDay) 16 = .ok (.aload_n 0, 1) := by decide +kernel
theorem DM_X2_takeBackDay_17 : decode (mC M_X2_takeBackDay) 17 = .ok (.getfield 53, 3) := by decide +kernel
theorem DM_X2_takeBackDay_20 : decode (mC M_X2_takeBackDay) 20 = .ok (.if_icmp .ne 11, 3) := by decide +kernel
theorem DM_X2_takeBackDay_23 : decode (mC M_X2_takeBackDay) 23 = .ok (.aload_n 0, 1) := by decide +kernel
theorem DM_X2_takeBackDay_24 : decode (mC M_X2_takeBackDay) 24 = .ok (.getfield 33, 3) := by decide +kernel
theorem DM_X2_takeBackDay_27 : decode (mC M_X2_takeBackDay) 27 = .ok (.iload_n 1, 1) := by decide +kernel
theorem DM_X2_takeBackDay_28 : decode (mC M_X2_takeBackDay) 28 = .ok (.ldc 65, 2) := by decide +kernel
theorem DM_X2_takeBackDay_30 : decode (mC M_X2_takeBackDay) 30 = .ok (.iastore, 1) := by decide +kernel
theorem DM_X2_takeBackDay_31 : decode (mC M_X2_takeBackDay) 31 = .ok (.iinc 1 1, 3) := by decide +kernel
theorem DM_X2_takeBackDay_34 : decode (mC M_X2_takeBackDay) 34 = .ok (.goto (-32), 3) := by decide +kernel
theorem DM_X2_takeBackDay_37 : decode (mC M_X2_takeBackDay) 37 = .ok (.aload_n 0, 1) := by decide +kernel
theorem DM_X2_takeBackDay_38 : decode (mC M_X2_takeBackDay) 38 = .ok (.dup, 1) := by decide +kernel
theorem DM_X2_takeBackDay_39 : decode (mC M_X2_takeBackDay) 39 = .ok (.getfield 53, 3) := by decide +kernel
theorem DM_X2_takeBackDay_42 : decode (mC M_X2_takeBackDay) 42 = .ok (.iconst 1, 1) := by decide +kernel
theorem DM_X2_takeBackDay_43 : decode (mC M_X2_takeBackDay) 43 = .ok (.isub, 1) := by decide +kernel
theorem DM_X2_takeBackDay_44 : decode (mC M_X2_takeBackDay) 44 = .ok (.putfield 53, 3) := by decide +kernel
theorem DM_X2_takeBackDay_47 : decode (mC M_X2_takeBackDay) 47 = .ok (.return_, 1) := by decide +kernel
theorem DM_X2_waitedByAll_0 : decode (mC M_X2_waitedByAll) 0 = .ok (.iconst 0, 1) := by decide +kernel
theorem DM_X2_waitedByAll_1 : decode (mC M_X2_waitedByAll) 1 = .ok (.istore_n 1, 1) := by decide +kernel
theorem DM_X2_waitedByAll_2 : decode (mC M_X2_waitedByAll) 2 = .ok (.iconst 0, 1) := by decide +kernel
theorem DM_X2_waitedByAll_3 : decode (mC M_X2_waitedByAll) 3 = .ok (.istore_n 2, 1) := by decide +kernel
theorem DM_X2_waitedByAll_4 : decode (mC M_X2_waitedByAll) 4 = .ok (.iload_n 2, 1) := by decide +kernel
theorem DM_X2_waitedByAll_5 : decode (mC M_X2_waitedByAll) 5 = .ok (.aload_n 0, 1) := by decide +kernel
theorem DM_X2_waitedByAll_6 : decode (mC M_X2_waitedByAll) 6 = .ok (.getfield 43, 3) := by decide +kernel
theorem DM_X2_waitedByAll_9 : decode (mC M_X2_waitedByAll) 9 = .ok (.if_icmp .ge 35, 3) := by decide +kernel
theorem DM_X2_waitedByAll_12 : decode (mC M_X2_waitedByAll) 12 = .ok (.iload_n 1, 1) := by decide +kernel
theorem DM_X2_waitedByAll_13 : decode (mC M_X2_waitedByAll) 13 = .ok (.aload_n 0, 1) := by decide +kernel
theorem DM_X2_waitedByAll_14 : decode (mC M_X2_waitedByAll) 14 = .ok (.iload_n 2, 1) := by decide +kernel
theorem DM_X2_waitedByAll_15 : decode (mC M_X2_waitedByAll) 15 = .ok (.invokevirtual 88, 3) := by decide +kernel
theorem DM_X2_waitedByAll_18 : decode (mC M_X2_waitedByAll) 18 = .ok (.ifCond .eq 12, 3) := by decide +kernel
theorem DM_X2_waitedByAll_21 : decode (mC M_X2_waitedByAll) 21 = .ok (.aload_n 0, 1) := by decide +kernel
theorem DM_X2_waitedByAll_22 : decode (mC M_X2_waitedByAll) 22 = .ok (.getfield 33, 3) := by decide +kernel
theorem DM_X2_waitedByAll_25 : decode (mC M_X2_waitedByAll) 25 = .ok (.iload_n 2, 1) := by decide +kernel
theorem DM_X2_waitedByAll_26 : decode (mC M_X2_waitedByAll) 26 = .ok (.iaload, 1) := by decide +kernel
theorem DM_X2_waitedByAll_27 : decode (mC M_X2_waitedByAll) 27 = .ok (.goto 9, 3) := by decide +kernel
theorem DM_X2_waitedByAll_30 : decode (mC M_X2_waitedByAll) 30 = .ok (.aload_n 0, 1) := by decide +kernel
theorem DM_X2_waitedByAll_31 : decode (mC M_X2_waitedByAll) 31 = .ok (.getfield 30, 3) := by decide +kernel
theorem DM_X2_waitedByAll_34 : decode (mC M_X2_waitedByAll) 34 = .ok (.iload_n 2, 1) := by decide +kernel
theorem DM_X2_waitedByAll_35 : decode (mC M_X2_waitedByAll) 35 = .ok (.iaload, 1) := by decide +kernel
theorem DM_X2_waitedByAll_36 : decode (mC M_X2_waitedByAll) 36 = .ok (.iadd, 1) := by decide +kernel
theorem DM_X2_waitedByAll_37 : decode (mC M_X2_waitedByAll) 37 = .ok (.istore_n 1, 1) := by decide +kernel
theorem DM_X2_waitedByAll_38 : decode (mC M_X2_waitedByAll) 38 = .ok (.iinc 2 1, 3) := by decide +kernel
theorem DM_X2_waitedByAll_41 : decode (mC M_X2_waitedByAll) 41 = .ok (.goto (-37), 3) := by decide +kernel
theorem DM_X2_waitedByAll_44 : decode (mC M_X2_waitedByAll) 44 = .ok (.iload_n 1, 1) := by decide +kernel
theorem DM_X2_waitedByAll_45 : decode (mC M_X2_waitedByAll) 45 = .ok (.ireturn, 1) := by decide +kernel
theorem DM_X3_init_0 : decode (mC M_X3_init) 0 = .ok (.aload_n 0, 1) := by decide +kernel
theorem DM_X3_init_1 : decode (mC M_X3_init) 1 = .ok (.invokespecial 3, 3) := by decide +kernel
theorem DM_X3_init_4 : decode (mC M_X3_init) 4 = .ok (.aload_n 0, 1) := by decide +kernel
theorem DM_X3_init_5 : decode (mC M_X3_init) 5 = .ok (.bipush 6, 2) := by decide +kernel
theorem DM_X3_init_7 : decode (mC M_X3_init) 7 = .ok (.newarray .int, 2) := by decide +kernel
theorem DM_X3_init_9 : decode (mC M_X3_init) 9 = .ok (.putfield 9, 3) := by decide +kernel
theorem DM_X3_init_12 : decode (mC M_X3_init) 12 = .ok (.aload_n 0, 1) := by decide +kernel
theorem DM_X3_init_13 : decode (mC M_X3_init) 13 = .ok (.bipush 6, 2) := by decide +kernel
theorem DM_X3_init_15 : decode (mC M_X3_init) 15 = .ok (.newarray .int, 2) := by decide +kernel
theorem DM_X3_init_17 : decode (mC M_X3_init) 17 = .ok (.putfield 15, 3) := by decide +kernel
theorem DM_X3_init_20 : decode (mC M_X3_init) 20 = .ok (.aload_n 0, 1) := by decide +kernel
theorem DM_X3_init_21 : decode (mC M_X3_init) 21 = .ok (.iconst 4, 1) := by decide +kernel
theorem DM_X3_init_22 : decode (mC M_X3_init) 22 = .ok (.newarray .int, 2) := by decide +kernel
theorem DM_X3_init_24 : decode (mC M_X3_init) 24 = .ok (.putfield 18, 3) := by decide +kernel
theorem DM_X3_init_27 : decode (mC M_X3_init) 27 = .ok (.return_, 1) := by decide +kernel
theorem DM_X3_plan_0 : decode (mC M_X3_plan) 0 = .ok (.aload_n 0, 1) := by decide +kernel
theorem DM_X3_plan_1 : decode (mC M_X3_plan) 1 = .ok (.aload_n 1, 1) := by decide +kernel
theorem DM_X3_plan_2 : decode (mC M_X3_plan) 2 = .ok (.invokevirtual 21, 3) := by decide +kernel
theorem DM_X3_plan_5 : decode (mC M_X3_plan) 5 = .ok (.aload_n 0, 1) := by decide +kernel
theorem DM_X3_plan_6 : decode (mC M_X3_plan) 6 = .ok (.iconst 0, 1) := by decide +kernel
theorem DM_X3_plan_7 : decode (mC M_X3_plan) 7 = .ok (.putfield 25, 3) := by decide +kernel
theorem DM_X3_plan_10 : decode (mC M_X3_plan) 10 = .ok (.aload_n 0, 1) := by decide +kernel
theorem DM_X3_plan_11 : decode (mC M_X3_plan) 11 = .ok (.ldc 31, 2) := by decide +kernel
theorem DM_X3_plan_13 : decode (mC M_X3_plan) 13 = .ok (.putfield 32, 3) := by decide +kernel
theorem DM_X3_plan_16 : decode (mC M_X3_plan) 16 = .ok (.iconst 0, 1) := by decide +kernel
theorem DM_X3_plan_17 : decode (mC M_X3_plan) 17 = .ok (.istore_n 2, 1) := by decide +kernel
theorem DM_X3_plan_18 : decode (mC M_X3_plan) 18 = .ok (.iconst 0, 1) := by decide +kernel
theorem DM_X3_plan_19 : decode (mC M_X3_plan) 19 = .ok (.istore_n 3, 1) := by decide +kernel
theorem DM_X3_plan_20 : decode (mC M_X3_plan) 20 = .ok (.iconst 0, 1) := by decide +kernel
theorem DM_X3_plan_21 : decode (mC M_X3_plan) 21 = .ok (.istore 4, 2) := by decide +kernel
theorem DM_X3_plan_23 : decode (mC M_X3_plan) 23 = .ok (.iload 4, 2) := by decide +kernel
theorem DM_X3_plan_25 : decode (mC M_X3_plan) 25 = .ok (.aload_n 1, 1) := by decide +kernel
theorem DM_X3_plan_26 : decode (mC M_X3_plan) 26 = .ok (.getfield 35, 3) := by decide +kernel
theorem DM_X3_plan_29 : decode (mC M_X3_plan) 29 = .ok (.if_icmp .ge 67, 3) := by decide +kernel
theorem DM_X3_plan_32 : decode (mC M_X3_plan) 32 = .ok (.aload_n 1, 1) := by decide +kernel
theorem DM_X3_plan_33 : decode (mC M_X3_plan) 33 = .ok (.iload 4, 2) := by decide +kernel
theorem DM_X3_plan_35 : decode (mC M_X3_plan) 35 = .ok (.invokevirtual 40, 3) := by decide +kernel
theorem DM_X3_plan_38 : decode (mC M_X3_plan) 38 = .ok (.ifCond .ne 23, 3) := by decide +kernel
theorem DM_X3_plan_41 : decode (mC M_X3_plan) 41 = .ok (.iload_n 2, 1) := by decide +kernel
theorem DM_X3_plan_42 : decode (mC M_X3_plan) 42 = .ok (.iconst 1, 1) := by decide +kernel
theorem DM_X3_plan_43 : decode (mC M_X3_plan) 43 = .ok (.iload 4, 2) := by decide +kernel
theorem DM_X3_plan_45 : decode (mC M_X3_plan) 45 = .ok (.ishl, 1) := by decide +kernel
theorem DM_X3_plan_46 : decode (mC M_X3_plan) 46 = .ok (.ior, 1) := by decide +kernel
theorem DM_X3_plan_47 : decode (mC M_X3_plan) 47 = .ok (.istore_n 2, 1) := by decide +kernel
theorem DM_X3_plan_48 : decode (mC M_X3_plan) 48 = .ok (.aload_n 0, 1) := by decide +kernel
theorem DM_X3_plan_49 : decode (mC M_X3_plan) 49 = .ok (.dup, 1) := by decide +kernel
theorem DM_X3_plan_50 : decode (mC M_X3_plan) 50 = .ok (.getfield 25, 3) := by decide +kernel
theorem DM_X3_plan_53 : decode (mC M_X3_plan) 53 = .ok (.iconst 1, 1) := by decide +kernel
theorem DM_X3_plan_54 : decode (mC M_X3_plan) 54 = .ok (.iadd, 1) := by decide +kernel
theorem DM_X3_plan_55 : decode (mC M_X3_plan) 55 = .ok (.putfield 25, 3) := by decide +kernel
theorem DM_X3_plan_58 : decode (mC M_X3_plan) 58 = .ok (.goto 32, 3) := by decide +kernel
theorem DM_X3_plan_61 : decode (mC M_X3_plan) 61 = .ok (.iload_n 3, 1) := by decide +kernel
theorem DM_X3_plan_62 : decode (mC M_X3_plan) 62 = .ok (.aload_n 1, 1) := by decide +kernel
theorem DM_X3_plan_63 : decode (mC M_X3_plan) 63 = .ok (.iload 4, 2) := by decide +kernel
theorem DM_X3_plan_65 : decode (mC M_X3_plan) 65 = .ok (.invokevirtual 44, 3) := by decide +kernel
theorem DM_X3_plan_68 : decode (mC M_X3_plan) 68 = .ok (.ifCond .eq 13, 3) := by decide +kernel
theorem DM_X3_plan_71 : decode (mC M_X3_plan) 71 = .ok (.aload_n 1, 1) := by decide +kernel
theorem DM_X3_plan_72 : decode (mC M_X3_plan) 72 = .ok (.getfield 48, 3) := by decide +kernel
theorem DM_X3_plan_75 : decode (mC M_X3_plan) 75 = .ok (.iload 4, 2) := by decide +kernel
theorem DM_X3_plan_77 : decode (mC M_X3_plan) 77 = .ok (.iaload, 1) := by decide +kernel
theorem DM_X3_plan_78 : decode (mC M_X3_plan) 78 = .ok (.goto 10, 3) := by decide +kernel
theorem DM_X3_plan_81 : decode (mC M_X3_plan) 81 = .ok (.aload_n 1, 1) := by decide +kernel
theorem DM_X3_plan_82 : decode (mC M_X3_plan) 82 = .ok (.getfield 51, 3) := by decide +kernel
theorem DM_X3_plan_85 : decode (mC M_X3_plan) 85 = .ok (.iload 4, 2) := by decide +kernel
theorem DM_X3_plan_87 : decode (mC M_X3_plan) 87 = .ok (.iaload, 1) := by decide +kernel
theorem DM_X3_plan_88 : decode (mC M_X3_plan) 88 = .ok (.iadd, 1) := by decide +kernel
theorem DM_X3_plan_89 : decode (mC M_X3_plan) 89 = .ok (.istore_n 3, 1) := by decide +kernel
theorem DM_X3_plan_90 : decode (mC M_X3_plan) 90 = .ok (.iinc 4 1, 3) := by decide +kernel
theorem DM_X3_plan_93 : decode (mC M_X3_plan) 93 = .ok (.goto (-70), 3) := by decide +kernel
theorem DM_X3_plan_96 : decode (mC M_X3_plan) 96 = .ok (.aload_n 0, 1) := by decide +kernel
theorem DM_X3_plan_97 : decode (mC M_X3_plan) 97 = .ok (.aload_n 1, 1) := by decide +kernel
theorem DM_X3_plan_98 : decode (mC M_X3_plan) 98 = .ok (.iconst 0, 1) := by decide +kernel
theorem DM_X3_plan_99 : decode (mC M_X3_plan) 99 = .ok (.iload_n 2, 1) := by decide +kernel
theorem DM_X3_plan_100 : decode (mC M_X3_plan) 100 = .ok (.iload_n 3, 1) := by decide +kernel
theorem DM_X3_plan_101 : decode (mC M_X3_plan) 101 = .ok (.invokevirtual 54, 3) := by decide +kernel
theorem DM_X3_plan_104 : decode (mC M_X3_plan) 104 = .ok (.return_, 1) := by decide +kernel
theorem DM_X3_openSeats_0 : decode (mC M_X3_openSeats) 0 = .ok (.aload_n 0, 1) := by decide +kernel
theorem DM_X3_openSeats_1 : decode (mC M_X3_openSeats) 1 = .ok (.iconst 0, 1) := by decide +kernel
theorem DM_X3_openSeats_2 : decode (mC M_X3_openSeats) 2 = .ok (.putfield 58, 3) := by decide +kernel
theorem DM_X3_openSeats_5 : decode (mC M_X3_openSeats) 5 = .ok (.iconst 0, 1) := by decide +kernel
theorem DM_X3_openSeats_6 : decode (mC M_X3_openSeats) 6 = .ok (.istore_n 2, 1) := by decide +kernel
theorem DM_X3_openSeats_7 : decode (mC M_X3_openSeats) 7 = .ok (.iload_n 2, 1) := by decide +kernel
theorem DM_X3_openSeats_8 : decode (mC M_X3_openSeats) 8 = .ok (.aload_n 1, 1) := by decide +kernel
theorem DM_X3_openSeats_9 : decode (mC M_X3_openSeats) 9 = .ok (.getfield 35, 3) := by decide +kernel
theorem DM_X3_openSeats_12 : decode (mC M_X3_openSeats) 12 = .ok (.if_icmp .ge 50, 3) := by decide +kernel
theorem DM_X3_openSeats_15 : decode (mC M_X3_openSeats) 15 = .ok (.aload_n 1, 1) := by decide +kernel
theorem DM_X3_openSeats_16 : decode (mC M_X3_openSeats) 16 = .ok (.iload_n 2, 1) := by decide +kernel
theorem DM_X3_openSeats_17 : decode (mC M_X3_openSeats) 17 = .ok (.invokevirtual 40, 3) := by decide +kernel
theorem DM_X3_openSeats_20 : decode (mC M_X3_openSeats) 20 = .ok (.iconst 1, 1) := by decide +kernel
theorem DM_X3_openSeats_21 : decode (mC M_X3_openSeats) 21 = .ok (.if_icmp .ne 35, 3) := by decide +kernel
theorem DM_X3_openSeats_24 : decode (mC M_X3_openSeats) 24 = .ok (.aload_n 0, 1) := by decide +kernel
theorem DM_X3_openSeats_25 : decode (mC M_X3_openSeats) 25 = .ok (.getfield 58, 3) := by decide +kernel
theorem DM_X3_openSeats_28 : decode (mC M_X3_openSeats) 28 = .ok (.iconst 4, 1) := by decide +kernel
theorem DM_X3_openSeats_29 : decode (mC M_X3_openSeats) 29 = .ok (.if_icmp .ge 27, 3) := by decide +kernel
theorem DM_X3_openSeats_32 : decode (mC M_X3_openSeats) 32 = .ok (.aload_n 0, 1) := by decide +kernel
theorem DM_X3_openSeats_33 : decode (mC M_X3_openSeats) 33 = .ok (.getfield 18, 3) := by decide +kernel
theorem DM_X3_openSeats_36 : decode (mC M_X3_openSeats) 36 = .ok (.aload_n 0, 1) := by decide +kernel
theorem DM_X3_openSeats_37 : decode (mC M_X3_openSeats) 37 = .ok (.getfield 58, 3) := by decide +kernel
theorem DM_X3_openSeats_40 : decode (mC M_X3_openSeats) 40 = .ok (.aload_n 1, 1) := by decide +kernel
theorem DM_X3_openSeats_41 : decode (mC M_X3_openSeats) 41 = .ok (.iload_n 2, 1) := by decide +kernel
theorem DM_X3_openSeats_42 : decode (mC M_X3_openSeats) 42 = .ok (.invokevirtual 61, 3) := by decide +kernel
theorem DM_X3_openSeats_45 : decode (mC M_X3_openSeats) 45 = .ok (.iastore, 1) := by decide +kernel
theorem DM_X3_openSeats_46 : decode (mC M_X3_openSeats) 46 = .ok (.aload_n 0, 1) := by decide +kernel
theorem DM_X3_openSeats_47 : decode (mC M_X3_openSeats) 47 = .ok (.dup, 1) := by decide +kernel
theorem DM_X3_openSeats_48 : decode (mC M_X3_openSeats) 48 = .ok (.getfield 58, 3) := by decide +kernel
theorem DM_X3_openSeats_51 : decode (mC M_X3_openSeats) 51 = .ok (.iconst 1, 1) := by decide +kernel
theorem DM_X3_openSeats_52 : decode (mC M_X3_openSeats) 52 = .ok (.iadd, 1) := by decide +kernel
theorem DM_X3_openSeats_53 : decode (mC M_X3_openSeats) 53 = .ok (.putfield 58, 3) := by decide +kernel
theorem DM_X3_openSeats_56 : decode (mC M_X3_openSeats) 56 = .ok (.iinc 2 1, 3) := by decide +kernel
theorem DM_X3_openSeats_59 : decode (mC M_X3_openSeats) 59 = .ok (.goto (-52), 3) := by decide +kernel
theorem DM_X3_openSeats_62 : decode (mC M_X3_openSeats) 62 = .ok (.aload_n 0, 1) := by decide +kernel
theorem DM_X3_openSeats_63 : decode (mC M_X3_openSeats) 63 = .ok (.getfield 58, 3) := by decide +kernel
theorem DM_X3_openSeats_66 : decode (mC M_X3_openSeats) 66 = .ok (.aload_n 1, 1) := by decide +kernel
theorem DM_X3_openSeats_67 : decode (mC M_X3_openSeats) 67 = .ok (.getfield 64, 3) := by decide +kernel
theorem DM_X3_openSeats_70 : decode (mC M_X3_openSeats) 70 = .ok (.if_icmp .ge 39, 3) := by decide +kernel
theorem DM_X3_openSeats_73 : decode (mC M_X3_openSeats) 73 = .ok (.aload_n 0, 1) := by decide +kernel
theorem DM_X3_openSeats_74 : decode (mC M_X3_openSeats) 74 = .ok (.getfield 58, 3) := by decide +kernel
theorem DM_X3_openSeats_77 : decode (mC M_X3_openSeats) 77 = .ok (.iconst 4, 1) := by decide +kernel
theorem DM_X3_openSeats_78 : decode (mC M_X3_openSeats) 78 = .ok (.if_icmp .ge 31, 3) := by decide +kernel
theorem DM_X3_openSeats_81 : decode (mC M_X3_openSeats) 81 = .ok (.aload_n 0, 1) := by decide +kernel
theorem DM_X3_openSeats_82 : decode (mC M_X3_openSeats) 82 = .ok (.getfield 18, 3) := by decide +kernel
end
section
theorem DM_X3_openSeats_85 : decode (mC M_X3_openSeats) 85 = .ok (.aload_n 0, 1) := by decide +kernel
theorem DM_X3_openSeats_86 : decode (mC M_X3_openSeats) 86 = .ok (.getfield 58, 3) := by decide +kernel
theorem DM_X3_openSeats_89 : decode (mC M_X3_openSeats) 89 = .ok (.aload_n 1, 1) := by decide +kernel
theorem DM_X3_openSeats_90 : decode (mC M_X3_openSeats) 90 = .ok (.getfield 65, 3) := by decide +kernel
theorem DM_X3_openSeats_93 : decode (mC M_X3_openSeats) 93 = .ok (.iconst 1, 1) := by decide +kernel
theorem DM_X3_openSeats_94 : decode (mC M_X3_openSeats) 94 = .ok (.iadd, 1) := by decide +kernel
theorem DM_X3_openSeats_95 : decode (mC M_X3_openSeats) 95 = .ok (.iastore, 1) := by decide +kernel
theorem DM_X3_openSeats_96 : decode (mC M_X3_openSeats) 96 = .ok (.aload_n 0, 1) := by decide +kernel
theorem DM_X3_openSeats_97 : decode (mC M_X3_openSeats) 97 = .ok (.dup, 1) := by decide +kernel
theorem DM_X3_openSeats_98 : decode (mC M_X3_openSeats) 98 = .ok (.getfield 58, 3) := by decide +kernel
theorem DM_X3_openSeats_101 : decode (mC M_X3_openSeats) 101 = .ok (.iconst 1, 1) := by decide +kernel
theorem DM_X3_openSeats_102 : decode (mC M_X3_openSeats) 102 = .ok (.iadd, 1) := by decide +kernel
theorem DM_X3_openSeats_103 : decode (mC M_X3_openSeats) 103 = .ok (.putfield 58, 3) := by decide +kernel
theorem DM_X3_openSeats_106 : decode (mC M_X3_openSeats) 106 = .ok (.goto (-44), 3) := by decide +kernel
theorem DM_X3_openSeats_109 : decode (mC M_X3_openSeats) 109 = .ok (.return_, 1) := by decide +kernel
theorem DM_X3_firstOpenSeat_0 : decode (mC M_X3_firstOpenSeat) 0 = .ok (.iconst 0, 1) := by decide +kernel
theorem DM_X3_firstOpenSeat_1 : decode (mC M_X3_firstOpenSeat) 1 = .ok (.istore_n 1, 1) := by decide +kernel
theorem DM_X3_firstOpenSeat_2 : decode (mC M_X3_firstOpenSeat) 2 = .ok (.iconst 1, 1) := by decide +kernel
theorem DM_X3_firstOpenSeat_3 : decode (mC M_X3_firstOpenSeat) 3 = .ok (.istore_n 2, 1) := by decide +kernel
theorem DM_X3_firstOpenSeat_4 : decode (mC M_X3_firstOpenSeat) 4 = .ok (.iload_n 2, 1) := by decide +kernel
theorem DM_X3_firstOpenSeat_5 : decode (mC M_X3_firstOpenSeat) 5 = .ok (.aload_n 0, 1) := by decide +kernel
theorem DM_X3_firstOpenSeat_6 : decode (mC M_X3_firstOpenSeat) 6 = .ok (.getfield 58, 3) := by decide +kernel
theorem DM_X3_firstOpenSeat_9 : decode (mC M_X3_firstOpenSeat) 9 = .ok (.if_icmp .ge 26, 3) := by decide +kernel
theorem DM_X3_firstOpenSeat_12 : decode (mC M_X3_firstOpenSeat) 12 = .ok (.aload_n 0, 1) := by decide +kernel
theorem DM_X3_firstOpenSeat_13 : decode (mC M_X3_firstOpenSeat) 13 = .ok (.getfield 18, 3) := by decide +kernel
theorem DM_X3_firstOpenSeat_16 : decode (mC M_X3_firstOpenSeat) 16 = .ok (.iload_n 2, 1) := by decide +kernel
theorem DM_X3_firstOpenSeat_17 : decode (mC M_X3_firstOpenSeat) 17 = .ok (.iaload, 1) := by decide +kernel
theorem DM_X3_firstOpenSeat_18 : decode (mC M_X3_firstOpenSeat) 18 = .ok (.aload_n 0, 1) := by decide +kernel
theorem DM_X3_firstOpenSeat_19 : decode (mC M_X3_firstOpenSeat) 19 = .ok (.getfield 18, 3) := by decide +kernel
theorem DM_X3_firstOpenSeat_22 : decode (mC M_X3_firstOpenSeat) 22 = .ok (.iload_n 1, 1) := by decide +kernel
theorem DM_X3_firstOpenSeat_23 : decode (mC M_X3_firstOpenSeat) 23 = .ok (.iaload, 1) := by decide +kernel
theorem DM_X3_firstOpenSeat_24 : decode (mC M_X3_firstOpenSeat) 24 = .ok (.if_icmp .ge 5, 3) := by decide +kernel
theorem DM_X3_firstOpenSeat_27 : decode (mC M_X3_firstOpenSeat) 27 = .ok (.iload_n 2, 1) := by decide +kernel
theorem DM_X3_firstOpenSeat_28 : decode (mC M_X3_firstOpenSeat) 28 = .ok (.istore_n 1, 1) := by decide +kernel
theorem DM_X3_firstOpenSeat_29 : decode (mC M_X3_firstOpenSeat) 29 = .ok (.iinc 2 1, 3) := by decide +kernel
theorem DM_X3_firstOpenSeat_32 : decode (mC M_X3_firstOpenSeat) 32 = .ok (.goto (-28), 3) := by decide +kernel
theorem DM_X3_firstOpenSeat_35 : decode (mC M_X3_firstOpenSeat) 35 = .ok (.iload_n 1, 1) := by decide +kernel
theorem DM_X3_firstOpenSeat_36 : decode (mC M_X3_firstOpenSeat) 36 = .ok (.ireturn, 1) := by decide +kernel
theorem DM_X3_seatOneByOne_0 : decode (mC M_X3_seatOneByOne) 0 = .ok (.iload 4, 2) := by decide +kernel
theorem DM_X3_seatOneByOne_2 : decode (mC M_X3_seatOneByOne) 2 = .ok (.aload_n 0, 1) := by decide +kernel
theorem DM_X3_seatOneByOne_3 : decode (mC M_X3_seatOneByOne) 3 = .ok (.getfield 32, 3) := by decide +kernel
theorem DM_X3_seatOneByOne_6 : decode (mC M_X3_seatOneByOne) 6 = .ok (.if_icmp .lt 4, 3) := by decide +kernel
theorem DM_X3_seatOneByOne_9 : decode (mC M_X3_seatOneByOne) 9 = .ok (.return_, 1) := by decide +kernel
theorem DM_X3_seatOneByOne_10 : decode (mC M_X3_seatOneByOne) 10 = .ok (.iload_n 2, 1) := by decide +kernel
theorem DM_X3_seatOneByOne_11 : decode (mC M_X3_seatOneByOne) 11 = .ok (.aload_n 0, 1) := by decide +kernel
theorem DM_X3_seatOneByOne_12 : decode (mC M_X3_seatOneByOne) 12 = .ok (.getfield 25, 3) := by decide +kernel
theorem DM_X3_seatOneByOne_15 : decode (mC M_X3_seatOneByOne) 15 = .ok (.if_icmp .lt 27, 3) := by decide +kernel
theorem DM_X3_seatOneByOne_18 : decode (mC M_X3_seatOneByOne) 18 = .ok (.aload_n 0, 1) := by decide +kernel
theorem DM_X3_seatOneByOne_19 : decode (mC M_X3_seatOneByOne) 19 = .ok (.iload 4, 2) := by decide +kernel
theorem DM_X3_seatOneByOne_21 : decode (mC M_X3_seatOneByOne) 21 = .ok (.putfield 32, 3) := by decide +kernel
theorem DM_X3_seatOneByOne_24 : decode (mC M_X3_seatOneByOne) 24 = .ok (.aload_n 0, 1) := by decide +kernel
theorem DM_X3_seatOneByOne_25 : decode (mC M_X3_seatOneByOne) 25 = .ok (.getfield 15, 3) := by decide +kernel
theorem DM_X3_seatOneByOne_28 : decode (mC M_X3_seatOneByOne) 28 = .ok (.iconst 0, 1) := by decide +kernel
theorem DM_X3_seatOneByOne_29 : decode (mC M_X3_seatOneByOne) 29 = .ok (.aload_n 0, 1) := by decide +kernel
theorem DM_X3_seatOneByOne_30 : decode (mC M_X3_seatOneByOne) 30 = .ok (.getfield 9, 3) := by decide +kernel
theorem DM_X3_seatOneByOne_33 : decode (mC M_X3_seatOneByOne) 33 = .ok (.iconst 0, 1) := by decide +kernel
theorem DM_X3_seatOneByOne_34 : decode (mC M_X3_seatOneByOne) 34 = .ok (.aload_n 0, 1) := by decide +kernel
theorem DM_X3_seatOneByOne_35 : decode (mC M_X3_seatOneByOne) 35 = .ok (.getfield 25, 3) := by decide +kernel
theorem DM_X3_seatOneByOne_38 : decode (mC M_X3_seatOneByOne) 38 = .ok (.invokestatic 68, 3) := by decide +kernel
theorem DM_X3_seatOneByOne_41 : decode (mC M_X3_seatOneByOne) 41 = .ok (.return_, 1) := by decide +kernel
theorem DM_X3_seatOneByOne_42 : decode (mC M_X3_seatOneByOne) 42 = .ok (.aload_n 0, 1) := by decide +kernel
theorem DM_X3_seatOneByOne_43 : decode (mC M_X3_seatOneByOne) 43 = .ok (.invokevirtual 74, 3) := by decide +kernel
theorem DM_X3_seatOneByOne_46 : decode (mC M_X3_seatOneByOne) 46 = .ok (.istore 5, 2) := by decide +kernel
theorem DM_X3_seatOneByOne_48 : decode (mC M_X3_seatOneByOne) 48 = .ok (.aload_n 0, 1) := by decide +kernel
theorem DM_X3_seatOneByOne_49 : decode (mC M_X3_seatOneByOne) 49 = .ok (.getfield 18, 3) := by decide +kernel
theorem DM_X3_seatOneByOne_52 : decode (mC M_X3_seatOneByOne) 52 = .ok (.iload 5, 2) := by decide +kernel
theorem DM_X3_seatOneByOne_54 : decode (mC M_X3_seatOneByOne) 54 = .ok (.iaload, 1) := by decide +kernel
theorem DM_X3_seatOneByOne_55 : decode (mC M_X3_seatOneByOne) 55 = .ok (.istore 6, 2) := by decide +kernel
theorem DM_X3_seatOneByOne_57 : decode (mC M_X3_seatOneByOne) 57 = .ok (.iconst 0, 1) := by decide +kernel
theorem DM_X3_seatOneByOne_58 : decode (mC M_X3_seatOneByOne) 58 = .ok (.istore 7, 2) := by decide +kernel
theorem DM_X3_seatOneByOne_60 : decode (mC M_X3_seatOneByOne) 60 = .ok (.iload 7, 2) := by decide +kernel
theorem DM_X3_seatOneByOne_62 : decode (mC M_X3_seatOneByOne) 62 = .ok (.aload_n 1, 1) := by decide +kernel
theorem DM_X3_seatOneByOne_63 : decode (mC M_X3_seatOneByOne) 63 = .ok (.getfield 35, 3) := by decide +kernel
theorem DM_X3_seatOneByOne_66 : decode (mC M_X3_seatOneByOne) 66 = .ok (.if_icmp .ge 113, 3) := by decide +kernel
theorem DM_X3_seatOneByOne_69 : decode (mC M_X3_seatOneByOne) 69 = .ok (.iload_n 3, 1) := by decide +kernel
theorem DM_X3_seatOneByOne_70 : decode (mC M_X3_seatOneByOne) 70 = .ok (.iload 7, 2) := by decide +kernel
theorem DM_X3_seatOneByOne_72 : decode (mC M_X3_seatOneByOne) 72 = .ok (.ishr, 1) := by decide +kernel
theorem DM_X3_seatOneByOne_73 : decode (mC M_X3_seatOneByOne) 73 = .ok (.iconst 1, 1) := by decide +kernel
theorem DM_X3_seatOneByOne_74 : decode (mC M_X3_seatOneByOne) 74 = .ok (.iand, 1) := by decide +kernel
theorem DM_X3_seatOneByOne_75 : decode (mC M_X3_seatOneByOne) 75 = .ok (.iconst 1, 1) := by decide +kernel
theorem DM_X3_seatOneByOne_76 : decode (mC M_X3_seatOneByOne) 76 = .ok (.if_icmp .ne 97, 3) := by decide +kernel
theorem DM_X3_seatOneByOne_79 : decode (mC M_X3_seatOneByOne) 79 = .ok (.aload_n 0, 1) := by decide +kernel
theorem DM_X3_seatOneByOne_80 : decode (mC M_X3_seatOneByOne) 80 = .ok (.getfield 15, 3) := by decide +kernel
theorem DM_X3_seatOneByOne_83 : decode (mC M_X3_seatOneByOne) 83 = .ok (.iload_n 2, 1) := by decide +kernel
theorem DM_X3_seatOneByOne_84 : decode (mC M_X3_seatOneByOne) 84 = .ok (.iload 7, 2) := by decide +kernel
theorem DM_X3_seatOneByOne_86 : decode (mC M_X3_seatOneByOne) 86 = .ok (.iastore, 1) := by decide +kernel
theorem DM_X3_seatOneByOne_87 : decode (mC M_X3_seatOneByOne) 87 = .ok (.iload_n 3, 1) := by decide +kernel
theorem DM_X3_seatOneByOne_88 : decode (mC M_X3_seatOneByOne) 88 = .ok (.iconst 1, 1) := by decide +kernel
theorem DM_X3_seatOneByOne_89 : decode (mC M_X3_seatOneByOne) 89 = .ok (.iload 7, 2) := by decide +kernel
theorem DM_X3_seatOneByOne_91 : decode (mC M_X3_seatOneByOne) 91 = .ok (.ishl, 1) := by decide +kernel
theorem DM_X3_seatOneByOne_92 : decode (mC M_X3_seatOneByOne) 92 = .ok (.iconst (-1), 1) := by decide +kernel
theorem DM_X3_seatOneByOne_93 : decode (mC M_X3_seatOneByOne) 93 = .ok (.ixor, 1) := by decide +kernel
theorem DM_X3_seatOneByOne_94 : decode (mC M_X3_seatOneByOne) 94 = .ok (.iand, 1) := by decide +kernel
theorem DM_X3_seatOneByOne_95 : decode (mC M_X3_seatOneByOne) 95 = .ok (.istore 8, 2) := by decide +kernel
theorem DM_X3_seatOneByOne_97 : decode (mC M_X3_seatOneByOne) 97 = .ok (.iload 6, 2) := by decide +kernel
theorem DM_X3_seatOneByOne_99 : decode (mC M_X3_seatOneByOne) 99 = .ok (.aload_n 1, 1) := by decide +kernel
theorem DM_X3_seatOneByOne_100 : decode (mC M_X3_seatOneByOne) 100 = .ok (.getfield 51, 3) := by decide +kernel
theorem DM_X3_seatOneByOne_103 : decode (mC M_X3_seatOneByOne) 103 = .ok (.iload 7, 2) := by decide +kernel
theorem DM_X3_seatOneByOne_105 : decode (mC M_X3_seatOneByOne) 105 = .ok (.iaload, 1) := by decide +kernel
theorem DM_X3_seatOneByOne_106 : decode (mC M_X3_seatOneByOne) 106 = .ok (.if_icmp .ge 47, 3) := by decide +kernel
theorem DM_X3_seatOneByOne_109 : decode (mC M_X3_seatOneByOne) 109 = .ok (.aload_n 0, 1) := by decide +kernel
theorem DM_X3_seatOneByOne_110 : decode (mC M_X3_seatOneByOne) 110 = .ok (.getfield 18, 3) := by decide +kernel
theorem DM_X3_seatOneByOne_113 : decode (mC M_X3_seatOneByOne) 113 = .ok (.iload 5, 2) := by decide +kernel
theorem DM_X3_seatOneByOne_115 : decode (mC M_X3_seatOneByOne) 115 = .ok (.iload 6, 2) := by decide +kernel
theorem DM_X3_seatOneByOne_117 : decode (mC M_X3_seatOneByOne) 117 = .ok (.aload_n 1, 1) := by decide +kernel
theorem DM_X3_seatOneByOne_118 : decode (mC M_X3_seatOneByOne) 118 = .ok (.getfield 78, 3) := by decide +kernel
theorem DM_X3_seatOneByOne_121 : decode (mC M_X3_seatOneByOne) 121 = .ok (.iload 7, 2) := by decide +kernel
theorem DM_X3_seatOneByOne_123 : decode (mC M_X3_seatOneByOne) 123 = .ok (.iaload, 1) := by decide +kernel
theorem DM_X3_seatOneByOne_124 : decode (mC M_X3_seatOneByOne) 124 = .ok (.iadd, 1) := by decide +kernel
theorem DM_X3_seatOneByOne_125 : decode (mC M_X3_seatOneByOne) 125 = .ok (.iastore, 1) := by decide +kernel
theorem DM_X3_seatOneByOne_126 : decode (mC M_X3_seatOneByOne) 126 = .ok (.aload_n 0, 1) := by decide +kernel
theorem DM_X3_seatOneByOne_127 : decode (mC M_X3_seatOneByOne) 127 = .ok (.aload_n 1, 1) := by decide +kernel
theorem DM_X3_seatOneByOne_128 : decode (mC M_X3_seatOneByOne) 128 = .ok (.iload_n 2, 1) := by decide +kernel
theorem DM_X3_seatOneByOne_129 : decode (mC M_X3_seatOneByOne) 129 = .ok (.iconst 1, 1) := by decide +kernel
theorem DM_X3_seatOneByOne_130 : decode (mC M_X3_seatOneByOne) 130 = .ok (.iadd, 1) := by decide +kernel
theorem DM_X3_seatOneByOne_131 : decode (mC M_X3_seatOneByOne) 131 = .ok (.iload 8, 2) := by decide +kernel
theorem DM_X3_seatOneByOne_133 : decode (mC M_X3_seatOneByOne) 133 = .ok (.iload 4, 2) := by decide +kernel
theorem DM_X3_seatOneByOne_135 : decode (mC M_X3_seatOneByOne) 135 = .ok (.iload 6, 2) := by decide +kernel
theorem DM_X3_seatOneByOne_137 : decode (mC M_X3_seatOneByOne) 137 = .ok (.iadd, 1) := by decide +kernel
theorem DM_X3_seatOneByOne_138 : decode (mC M_X3_seatOneByOne) 138 = .ok (.invokevirtual 54, 3) := by decide +kernel
theorem DM_X3_seatOneByOne_141 : decode (mC M_X3_seatOneByOne) 141 = .ok (.aload_n 0, 1) := by decide +kernel
theorem DM_X3_seatOneByOne_142 : decode (mC M_X3_seatOneByOne) 142 = .ok (.getfield 18, 3) := by decide +kernel
theorem DM_X3_seatOneByOne_145 : decode (mC M_X3_seatOneByOne) 145 = .ok (.iload 5, 2) := by decide +kernel
theorem DM_X3_seatOneByOne_147 : decode (mC M_X3_seatOneByOne) 147 = .ok (.iload 6, 2) := by decide +kernel
theorem DM_X3_seatOneByOne_149 : decode (mC M_X3_seatOneByOne) 149 = .ok (.iastore, 1) := by decide +kernel
theorem DM_X3_seatOneByOne_150 : decode (mC M_X3_seatOneByOne) 150 = .ok (.goto 23, 3) := by decide +kernel
theorem DM_X3_seatOneByOne_153 : decode (mC M_X3_seatOneByOne) 153 = .ok (.aload_n 0, 1) := by decide +kernel
theorem DM_X3_seatOneByOne_154 : decode (mC M_X3_seatOneByOne) 154 = .ok (.aload_n 1, 1) := by decide +kernel
theorem DM_X3_seatOneByOne_155 : decode (mC M_X3_seatOneByOne) 155 = .ok (.iload_n 2, 1) := by decide +kernel
theorem DM_X3_seatOneByOne_156 : decode (mC M_X3_seatOneByOne) 156 = .ok (.iconst 1, 1) := by decide +kernel
theorem DM_X3_seatOneByOne_157 : decode (mC M_X3_seatOneByOne) 157 = .ok (.iadd, 1) := by decide +kernel
theorem DM_X3_seatOneByOne_158 : decode (mC M_X3_seatOneByOne) 158 = .ok (.iload 8, 2) := by decide +kernel
theorem DM_X3_seatOneByOne_160 : decode (mC M_X3_seatOneByOne) 160 = .ok (.iload 4, 2) := by decide +kernel
theorem DM_X3_seatOneByOne_162 : decode (mC M_X3_seatOneByOne) 162 = .ok (.aload_n 1, 1) := by decide +kernel
theorem DM_X3_seatOneByOne_163 : decode (mC M_X3_seatOneByOne) 163 = .ok (.getfield 51, 3) := by decide +kernel
theorem DM_X3_seatOneByOne_166 : decode (mC M_X3_seatOneByOne) 166 = .ok (.iload 7, 2) := by decide +kernel
theorem DM_X3_seatOneByOne_168 : decode (mC M_X3_seatOneByOne) 168 = .ok (.iaload, 1) := by decide +kernel
theorem DM_X3_seatOneByOne_169 : decode (mC M_X3_seatOneByOne) 169 = .ok (.iadd, 1) := by decide +kernel
theorem DM_X3_seatOneByOne_170 : decode (mC M_X3_seatOneByOne) 170 = .ok (.invokevirtual 54, 3) := by decide +kernel
theorem DM_X3_seatOneByOne_173 : decode (mC M_X3_seatOneByOne) 173 = .ok (.iinc 7 1, 3) := by decide +kernel
theorem DM_X3_seatOneByOne_176 : decode (mC M_X3_seatOneByOne) 176 = .ok (.goto (-116), 3) := by decide +kernel
theorem DM_X3_seatOneByOne_179 : decode (mC M_X3_seatOneByOne) 179 = .ok (.return_, 1) := by decide +kernel
theorem DM_X4_init_0 : decode (mC M_X4_init) 0 = .ok (.aload_n 0, 1) := by decide +kernel
theorem DM_X4_init_1 : decode (mC M_X4_init) 1 = .ok (.invokespecial 3, 3) := by decide +kernel
theorem DM_X4_init_4 : decode (mC M_X4_init) 4 = .ok (.aload_n 0, 1) := by decide +kernel
theorem DM_X4_init_5 : decode (mC M_X4_init) 5 = .ok (.bipush 120, 2) := by decide +kernel
theorem DM_X4_init_7 : decode (mC M_X4_init) 7 = .ok (.newarray .int, 2) := by decide +kernel
theorem DM_X4_init_9 : decode (mC M_X4_init) 9 = .ok (.putfield 9, 3) := by decide +kernel
theorem DM_X4_init_12 : decode (mC M_X4_init) 12 = .ok (.return_, 1) := by decide +kernel
theorem DM_X4_addByte_0 : decode (mC M_X4_addByte) 0 = .ok (.aload_n 0, 1) := by decide +kernel
theorem DM_X4_addByte_1 : decode (mC M_X4_addByte) 1 = .ok (.getfield 15, 3) := by decide +kernel
theorem DM_X4_addByte_4 : decode (mC M_X4_addByte) 4 = .ok (.bipush 120, 2) := by decide +kernel
theorem DM_X4_addByte_6 : decode (mC M_X4_addByte) 6 = .ok (.if_icmp .ge 23, 3) := by decide +kernel
theorem DM_X4_addByte_9 : decode (mC M_X4_addByte) 9 = .ok (.aload_n 0, 1) := by decide +kernel
theorem DM_X4_addByte_10 : decode (mC M_X4_addByte) 10 = .ok (.getfield 9, 3) := by decide +kernel
theorem DM_X4_addByte_13 : decode (mC M_X4_addByte) 13 = .ok (.aload_n 0, 1) := by decide +kernel
theorem DM_X4_addByte_14 : decode (mC M_X4_addByte) 14 = .ok (.getfield 15, 3) := by decide +kernel
theorem DM_X4_addByte_17 : decode (mC M_X4_addByte) 17 = .ok (.iload_n 1, 1) := by decide +kernel
theorem DM_X4_addByte_18 : decode (mC M_X4_addByte) 18 = .ok (.iastore, 1) := by decide +kernel
theorem DM_X4_addByte_19 : decode (mC M_X4_addByte) 19 = .ok (.aload_n 0, 1) := by decide +kernel
theorem DM_X4_addByte_20 : decode (mC M_X4_addByte) 20 = .ok (.dup, 1) := by decide +kernel
theorem DM_X4_addByte_21 : decode (mC M_X4_addByte) 21 = .ok (.getfield 15, 3) := by decide +kernel
theorem DM_X4_addByte_24 : decode (mC M_X4_addByte) 24 = .ok (.iconst 1, 1) := by decide +kernel
theorem DM_X4_addByte_25 : decode (mC M_X4_addByte) 25 = .ok (.iadd, 1) := by decide +kernel
theorem DM_X4_addByte_26 : decode (mC M_X4_addByte) 26 = .ok (.putfield 15, 3) := by decide +kernel
theorem DM_X4_addByte_29 : decode (mC M_X4_addByte) 29 = .ok (.return_, 1) := by decide +kernel
theorem DM_X4_readInto_0 : decode (mC M_X4_readInto) 0 = .ok (.aload_n 1, 1) := by decide +kernel
theorem DM_X4_readInto_1 : decode (mC M_X4_readInto) 1 = .ok (.invokevirtual 19, 3) := by decide +kernel
theorem DM_X4_readInto_4 : decode (mC M_X4_readInto) 4 = .ok (.aload_n 0, 1) := by decide +kernel
theorem DM_X4_readInto_5 : decode (mC M_X4_readInto) 5 = .ok (.iconst 0, 1) := by decide +kernel
theorem DM_X4_readInto_6 : decode (mC M_X4_readInto) 6 = .ok (.putfield 24, 3) := by decide +kernel
theorem DM_X4_readInto_9 : decode (mC M_X4_readInto) 9 = .ok (.aload_n 0, 1) := by decide +kernel
theorem DM_X4_readInto_10 : decode (mC M_X4_readInto) 10 = .ok (.invokevirtual 27, 3) := by decide +kernel
theorem DM_X4_readInto_13 : decode (mC M_X4_readInto) 13 = .ok (.aload_n 0, 1) := by decide +kernel
theorem DM_X4_readInto_14 : decode (mC M_X4_readInto) 14 = .ok (.aload_n 1, 1) := by decide +kernel
theorem DM_X4_readInto_15 : decode (mC M_X4_readInto) 15 = .ok (.invokevirtual 30, 3) := by decide +kernel
theorem DM_X4_readInto_18 : decode (mC M_X4_readInto) 18 = .ok (.ifCond .eq 23, 3) := by decide +kernel
theorem DM_X4_readInto_21 : decode (mC M_X4_readInto) 21 = .ok (.aload_n 0, 1) := by decide +kernel
theorem DM_X4_readInto_22 : decode (mC M_X4_readInto) 22 = .ok (.aload_n 1, 1) := by decide +kernel
theorem DM_X4_readInto_23 : decode (mC M_X4_readInto) 23 = .ok (.invokevirtual 34, 3) := by decide +kernel
theorem DM_X4_readInto_26 : decode (mC M_X4_readInto) 26 = .ok (.ifCond .eq 15, 3) := by decide +kernel
theorem DM_X4_readInto_29 : decode (mC M_X4_readInto) 29 = .ok (.aload_n 0, 1) := by decide +kernel
theorem DM_X4_readInto_30 : decode (mC M_X4_readInto) 30 = .ok (.aload_n 1, 1) := by decide +kernel
theorem DM_X4_readInto_31 : decode (mC M_X4_readInto) 31 = .ok (.invokevirtual 37, 3) := by decide +kernel
theorem DM_X4_readInto_34 : decode (mC M_X4_readInto) 34 = .ok (.ifCond .eq 7, 3) := by decide +kernel
theorem DM_X4_readInto_37 : decode (mC M_X4_readInto) 37 = .ok (.iconst 1, 1) := by decide +kernel
theorem DM_X4_readInto_38 : decode (mC M_X4_readInto) 38 = .ok (.goto 4, 3) := by decide +kernel
theorem DM_X4_readInto_41 : decode (mC M_X4_readInto) 41 = .ok (.iconst 0, 1) := by decide +kernel
theorem DM_X4_readInto_42 : decode (mC M_X4_readInto) 42 = .ok (.ireturn, 1) := by decide +kernel
theorem DM_X4_readLaw_0 : decode (mC M_X4_readLaw) 0 = .ok (.aload_n 0, 1) := by decide +kernel
theorem DM_X4_readLaw_1 : decode (mC M_X4_readLaw) 1 = .ok (.bipush 119, 2) := by decide +kernel
theorem DM_X4_readLaw_3 : decode (mC M_X4_readLaw) 3 = .ok (.invokevirtual 40, 3) := by decide +kernel
theorem DM_X4_readLaw_6 : decode (mC M_X4_readLaw) 6 = .ok (.ifCond .eq 12, 3) := by decide +kernel
theorem DM_X4_readLaw_9 : decode (mC M_X4_readLaw) 9 = .ok (.aload_n 0, 1) := by decide +kernel
theorem DM_X4_readLaw_10 : decode (mC M_X4_readLaw) 10 = .ok (.iconst 1, 1) := by decide +kernel
theorem DM_X4_readLaw_11 : decode (mC M_X4_readLaw) 11 = .ok (.iconst 4, 1) := by decide +kernel
theorem DM_X4_readLaw_12 : decode (mC M_X4_readLaw) 12 = .ok (.invokevirtual 44, 3) := by decide +kernel
theorem DM_X4_readLaw_15 : decode (mC M_X4_readLaw) 15 = .ok (.ifCond .ne 5, 3) := by decide +kernel
theorem DM_X4_readLaw_18 : decode (mC M_X4_readLaw) 18 = .ok (.iconst 0, 1) := by decide +kernel
theorem DM_X4_readLaw_19 : decode (mC M_X4_readLaw) 19 = .ok (.ireturn, 1) := by decide +kernel
theorem DM_X4_readLaw_20 : decode (mC M_X4_readLaw) 20 = .ok (.aload_n 1, 1) := by decide +kernel
theorem DM_X4_readLaw_21 : decode (mC M_X4_readLaw) 21 = .ok (.aload_n 0, 1) := by decide +kernel
theorem DM_X4_readLaw_22 : decode (mC M_X4_readLaw) 22 = .ok (.invokevirtual 48, 3) := by decide +kernel
theorem DM_X4_readLaw_25 : decode (mC M_X4_readLaw) 25 = .ok (.putfield 52, 3) := by decide +kernel
theorem DM_X4_readLaw_28 : decode (mC M_X4_readLaw) 28 = .ok (.aload_n 0, 1) := by decide +kernel
theorem DM_X4_readLaw_29 : decode (mC M_X4_readLaw) 29 = .ok (.bipush 44, 2) := by decide +kernel
theorem DM_X4_readLaw_31 : decode (mC M_X4_readLaw) 31 = .ok (.invokevirtual 40, 3) := by decide +kernel
theorem DM_X4_readLaw_34 : decode (mC M_X4_readLaw) 34 = .ok (.ifCond .eq 13, 3) := by decide +kernel
theorem DM_X4_readLaw_37 : decode (mC M_X4_readLaw) 37 = .ok (.aload_n 0, 1) := by decide +kernel
theorem DM_X4_readLaw_38 : decode (mC M_X4_readLaw) 38 = .ok (.iconst 0, 1) := by decide +kernel
theorem DM_X4_readLaw_39 : decode (mC M_X4_readLaw) 39 = .ok (.bipush 30, 2) := by decide +kernel
theorem DM_X4_readLaw_41 : decode (mC M_X4_readLaw) 41 = .ok (.invokevirtual 44, 3) := by decide +kernel
theorem DM_X4_readLaw_44 : decode (mC M_X4_readLaw) 44 = .ok (.ifCond .ne 5, 3) := by decide +kernel
theorem DM_X4_readLaw_47 : decode (mC M_X4_readLaw) 47 = .ok (.iconst 0, 1) := by decide +kernel
theorem DM_X4_readLaw_48 : decode (mC M_X4_readLaw) 48 = .ok (.ireturn, 1) := by decide +kernel
theorem DM_X4_readLaw_49 : decode (mC M_X4_readLaw) 49 = .ok (.aload_n 1, 1) := by decide +kernel
theorem DM_X4_readLaw_50 : decode (mC M_X4_readLaw) 50 = .ok (.aload_n 0, 1) := by decide +kernel
theorem DM_X4_readLaw_51 : decode (mC M_X4_readLaw) 51 = .ok (.invokevirtual 48, 3) := by decide +kernel
theorem DM_X4_readLaw_54 : decode (mC M_X4_readLaw) 54 = .ok (.putfield 55, 3) := by decide +kernel
theorem DM_X4_readLaw_57 : decode (mC M_X4_readLaw) 57 = .ok (.aload_n 0, 1) := by decide +kernel
theorem DM_X4_readLaw_58 : decode (mC M_X4_readLaw) 58 = .ok (.bipush 59, 2) := by decide +kernel
theorem DM_X4_readLaw_60 : decode (mC M_X4_readLaw) 60 = .ok (.invokevirtual 40, 3) := by decide +kernel
theorem DM_X4_readLaw_63 : decode (mC M_X4_readLaw) 63 = .ok (.ireturn, 1) := by decide +kernel
theorem DM_X4_readOrder_0 : decode (mC M_X4_readOrder) 0 = .ok (.aload_n 0, 1) := by decide +kernel
theorem DM_X4_readOrder_1 : decode (mC M_X4_readOrder) 1 = .ok (.bipush 111, 2) := by decide +kernel
theorem DM_X4_readOrder_3 : decode (mC M_X4_readOrder) 3 = .ok (.invokevirtual 40, 3) := by decide +kernel
theorem DM_X4_readOrder_6 : decode (mC M_X4_readOrder) 6 = .ok (.ifCond .ne 5, 3) := by decide +kernel
theorem DM_X4_readOrder_9 : decode (mC M_X4_readOrder) 9 = .ok (.iconst 0, 1) := by decide +kernel
theorem DM_X4_readOrder_10 : decode (mC M_X4_readOrder) 10 = .ok (.ireturn, 1) := by decide +kernel
theorem DM_X4_readOrder_11 : decode (mC M_X4_readOrder) 11 = .ok (.iconst 0, 1) := by decide +kernel
theorem DM_X4_readOrder_12 : decode (mC M_X4_readOrder) 12 = .ok (.istore_n 2, 1) := by decide +kernel
theorem DM_X4_readOrder_13 : decode (mC M_X4_readOrder) 13 = .ok (.iconst 0, 1) := by decide +kernel
theorem DM_X4_readOrder_14 : decode (mC M_X4_readOrder) 14 = .ok (.istore_n 3, 1) := by decide +kernel
theorem DM_X4_readOrder_15 : decode (mC M_X4_readOrder) 15 = .ok (.iload_n 3, 1) := by decide +kernel
theorem DM_X4_readOrder_16 : decode (mC M_X4_readOrder) 16 = .ok (.bipush 8, 2) := by decide +kernel
theorem DM_X4_readOrder_18 : decode (mC M_X4_readOrder) 18 = .ok (.if_icmp .ge 56, 3) := by decide +kernel
theorem DM_X4_readOrder_21 : decode (mC M_X4_readOrder) 21 = .ok (.aload_n 0, 1) := by decide +kernel
theorem DM_X4_readOrder_22 : decode (mC M_X4_readOrder) 22 = .ok (.invokevirtual 58, 3) := by decide +kernel
theorem DM_X4_readOrder_25 : decode (mC M_X4_readOrder) 25 = .ok (.ifCond .eq 49, 3) := by decide +kernel
theorem DM_X4_readOrder_28 : decode (mC M_X4_readOrder) 28 = .ok (.aload_n 0, 1) := by decide +kernel
theorem DM_X4_readOrder_29 : decode (mC M_X4_readOrder) 29 = .ok (.invokevirtual 62, 3) := by decide +kernel
theorem DM_X4_readOrder_32 : decode (mC M_X4_readOrder) 32 = .ok (.istore 4, 2) := by decide +kernel
theorem DM_X4_readOrder_34 : decode (mC M_X4_readOrder) 34 = .ok (.iload_n 2, 1) := by decide +kernel
theorem DM_X4_readOrder_35 : decode (mC M_X4_readOrder) 35 = .ok (.iload 4, 2) := by decide +kernel
theorem DM_X4_readOrder_37 : decode (mC M_X4_readOrder) 37 = .ok (.ishr, 1) := by decide +kernel
theorem DM_X4_readOrder_38 : decode (mC M_X4_readOrder) 38 = .ok (.iconst 1, 1) := by decide +kernel
theorem DM_X4_readOrder_39 : decode (mC M_X4_readOrder) 39 = .ok (.iand, 1) := by decide +kernel
theorem DM_X4_readOrder_40 : decode (mC M_X4_readOrder) 40 = .ok (.iconst 1, 1) := by decide +kernel
theorem DM_X4_readOrder_41 : decode (mC M_X4_readOrder) 41 = .ok (.if_icmp .ne 9, 3) := by decide +kernel
theorem DM_X4_readOrder_44 : decode (mC M_X4_readOrder) 44 = .ok (.aload_n 0, 1) := by decide +kernel
theorem DM_X4_readOrder_45 : decode (mC M_X4_readOrder) 45 = .ok (.iconst 2, 1) := by decide +kernel
theorem DM_X4_readOrder_46 : decode (mC M_X4_readOrder) 46 = .ok (.invokevirtual 65, 3) := by decide +kernel
theorem DM_X4_readOrder_49 : decode (mC M_X4_readOrder) 49 = .ok (.ireturn, 1) := by decide +kernel
theorem DM_X4_readOrder_50 : decode (mC M_X4_readOrder) 50 = .ok (.iload_n 2, 1) := by decide +kernel
theorem DM_X4_readOrder_51 : decode (mC M_X4_readOrder) 51 = .ok (.iconst 1, 1) := by decide +kernel
theorem DM_X4_readOrder_52 : decode (mC M_X4_readOrder) 52 = .ok (.iload 4, 2) := by decide +kernel
theorem DM_X4_readOrder_54 : decode (mC M_X4_readOrder) 54 = .ok (.ishl, 1) := by decide +kernel
theorem DM_X4_readOrder_55 : decode (mC M_X4_readOrder) 55 = .ok (.ior, 1) := by decide +kernel
theorem DM_X4_readOrder_56 : decode (mC M_X4_readOrder) 56 = .ok (.istore_n 2, 1) := by decide +kernel
theorem DM_X4_readOrder_57 : decode (mC M_X4_readOrder) 57 = .ok (.aload_n 1, 1) := by decide +kernel
theorem DM_X4_readOrder_58 : decode (mC M_X4_readOrder) 58 = .ok (.iload_n 3, 1) := by decide +kernel
theorem DM_X4_readOrder_59 : decode (mC M_X4_readOrder) 59 = .ok (.iload 4, 2) := by decide +kernel
theorem DM_X4_readOrder_61 : decode (mC M_X4_readOrder) 61 = .ok (.invokevirtual 68, 3) := by decide +kernel
theorem DM_X4_readOrder_64 : decode (mC M_X4_readOrder) 64 = .ok (.aload_n 0, 1) := by decide +kernel
theorem DM_X4_readOrder_65 : decode (mC M_X4_readOrder) 65 = .ok (.invokevirtual 27, 3) := by decide +kernel
theorem DM_X4_readOrder_68 : decode (mC M_X4_readOrder) 68 = .ok (.iinc 3 1, 3) := by decide +kernel
theorem DM_X4_readOrder_71 : decode (mC M_X4_readOrder) 71 = .ok (.goto (-56), 3) := by decide +kernel
theorem DM_X4_readOrder_74 : decode (mC M_X4_readOrder) 74 = .ok (.aload_n 0, 1) := by decide +kernel
theorem DM_X4_readOrder_75 : decode (mC M_X4_readOrder) 75 = .ok (.invokevirtual 58, 3) := by decide +kernel
theorem DM_X4_readOrder_78 : decode (mC M_X4_readOrder) 78 = .ok (.ifCond .eq 9, 3) := by decide +kernel
theorem DM_X4_readOrder_81 : decode (mC M_X4_readOrder) 81 = .ok (.aload_n 0, 1) := by decide +kernel
theorem DM_X4_readOrder_82 : decode (mC M_X4_readOrder) 82 = .ok (.iconst 2, 1) := by decide +kernel
theorem DM_X4_readOrder_83 : decode (mC M_X4_readOrder) 83 = .ok (.invokevirtual 65, 3) := by decide +kernel
theorem DM_X4_readOrder_86 : decode (mC M_X4_readOrder) 86 = .ok (.ireturn, 1) := by decide +kernel
theorem DM_X4_readOrder_87 : decode (mC M_X4_readOrder) 87 = .ok (.iconst 0, 1) := by decide +kernel
theorem DM_X4_readOrder_88 : decode (mC M_X4_readOrder) 88 = .ok (.istore 4, 2) := by decide +kernel
theorem DM_X4_readOrder_90 : decode (mC M_X4_readOrder) 90 = .ok (.iload 4, 2) := by decide +kernel
theorem DM_X4_readOrder_92 : decode (mC M_X4_readOrder) 92 = .ok (.bipush 8, 2) := by decide +kernel
theorem DM_X4_readOrder_94 : decode (mC M_X4_readOrder) 94 = .ok (.if_icmp .ge 34, 3) := by decide +kernel
theorem DM_X4_readOrder_97 : decode (mC M_X4_readOrder) 97 = .ok (.iload_n 3, 1) := by decide +kernel
theorem DM_X4_readOrder_98 : decode (mC M_X4_readOrder) 98 = .ok (.bipush 8, 2) := by decide +kernel
theorem DM_X4_readOrder_100 : decode (mC M_X4_readOrder) 100 = .ok (.if_icmp .ge 28, 3) := by decide +kernel
theorem DM_X4_readOrder_103 : decode (mC M_X4_readOrder) 103 = .ok (.iload_n 2, 1) := by decide +kernel
theorem DM_X4_readOrder_104 : decode (mC M_X4_readOrder) 104 = .ok (.iload 4, 2) := by decide +kernel
theorem DM_X4_readOrder_106 : decode (mC M_X4_readOrder) 106 = .ok (.ishr, 1) := by decide +kernel
theorem DM_X4_readOrder_107 : decode (mC M_X4_readOrder) 107 = .ok (.iconst 1, 1) := by decide +kernel
theorem DM_X4_readOrder_108 : decode (mC M_X4_readOrder) 108 = .ok (.iand, 1) := by decide +kernel
theorem DM_X4_readOrder_109 : decode (mC M_X4_readOrder) 109 = .ok (.ifCond .ne 13, 3) := by decide +kernel
theorem DM_X4_readOrder_112 : decode (mC M_X4_readOrder) 112 = .ok (.aload_n 1, 1) := by decide +kernel
theorem DM_X4_readOrder_113 : decode (mC M_X4_readOrder) 113 = .ok (.iload_n 3, 1) := by decide +kernel
theorem DM_X4_readOrder_114 : decode (mC M_X4_readOrder) 114 = .ok (.iload 4, 2) := by decide +kernel
theorem DM_X4_readOrder_116 : decode (mC M_X4_readOrder) 116 = .ok (.invokevirtual 68, 3) := by decide +kernel
theorem DM_X4_readOrder_119 : decode (mC M_X4_readOrder) 119 = .ok (.iinc 3 1, 3) := by decide +kernel
theorem DM_X4_readOrder_122 : decode (mC M_X4_readOrder) 122 = .ok (.iinc 4 1, 3) := by decide +kernel
theorem DM_X4_readOrder_125 : decode (mC M_X4_readOrder) 125 = .ok (.goto (-35), 3) := by decide +kernel
theorem DM_X4_readOrder_128 : decode (mC M_X4_readOrder) 128 = .ok (.aload_n 0, 1) := by decide +kernel
theorem DM_X4_readOrder_129 : decode (mC M_X4_readOrder) 129 = .ok (.bipush 59, 2) := by decide +kernel
theorem DM_X4_readOrder_131 : decode (mC M_X4_readOrder) 131 = .ok (.invokevirtual 40, 3) := by decide +kernel
theorem DM_X4_readOrder_134 : decode (mC M_X4_readOrder) 134 = .ok (.ireturn, 1) := by decide +kernel
theorem DM_X4_readPeople_0 : decode (mC M_X4_readPeople) 0 = .ok (.iconst 0, 1) := by decide +kernel
theorem DM_X4_readPeople_1 : decode (mC M_X4_readPeople) 1 = .ok (.istore_n 2, 1) := by decide +kernel
theorem DM_X4_readPeople_2 : decode (mC M_X4_readPeople) 2 = .ok (.iload_n 2, 1) := by decide +kernel
theorem DM_X4_readPeople_3 : decode (mC M_X4_readPeople) 3 = .ok (.bipush 120, 2) := by decide +kernel
theorem DM_X4_readPeople_5 : decode (mC M_X4_readPeople) 5 = .ok (.if_icmp .ge 80, 3) := by decide +kernel
theorem DM_X4_readPeople_8 : decode (mC M_X4_readPeople) 8 = .ok (.aload_n 0, 1) := by decide +kernel
theorem DM_X4_readPeople_9 : decode (mC M_X4_readPeople) 9 = .ok (.getfield 72, 3) := by decide +kernel
theorem DM_X4_readPeople_12 : decode (mC M_X4_readPeople) 12 = .ok (.iconst (-1), 1) := by decide +kernel
theorem DM_X4_readPeople_13 : decode (mC M_X4_readPeople) 13 = .ok (.if_icmp .eq 72, 3) := by decide +kernel
theorem DM_X4_readPeople_16 : decode (mC M_X4_readPeople) 16 = .ok (.aload_n 0, 1) := by decide +kernel
theorem DM_X4_readPeople_17 : decode (mC M_X4_readPeople) 17 = .ok (.getfield 72, 3) := by decide +kernel
theorem DM_X4_readPeople_20 : decode (mC M_X4_readPeople) 20 = .ok (.bipush 112, 2) := by decide +kernel
theorem DM_X4_readPeople_22 : decode (mC M_X4_readPeople) 22 = .ok (.if_icmp .lt 12, 3) := by decide +kernel
theorem DM_X4_readPeople_25 : decode (mC M_X4_readPeople) 25 = .ok (.aload_n 0, 1) := by decide +kernel
theorem DM_X4_readPeople_26 : decode (mC M_X4_readPeople) 26 = .ok (.getfield 72, 3) := by decide +kernel
theorem DM_X4_readPeople_29 : decode (mC M_X4_readPeople) 29 = .ok (.bipush 116, 2) := by decide +kernel
theorem DM_X4_readPeople_31 : decode (mC M_X4_readPeople) 31 = .ok (.if_icmp .le 9, 3) := by decide +kernel
theorem DM_X4_readPeople_34 : decode (mC M_X4_readPeople) 34 = .ok (.aload_n 0, 1) := by decide +kernel
theorem DM_X4_readPeople_35 : decode (mC M_X4_readPeople) 35 = .ok (.iconst 1, 1) := by decide +kernel
theorem DM_X4_readPeople_36 : decode (mC M_X4_readPeople) 36 = .ok (.invokevirtual 65, 3) := by decide +kernel
theorem DM_X4_readPeople_39 : decode (mC M_X4_readPeople) 39 = .ok (.ireturn, 1) := by decide +kernel
theorem DM_X4_readPeople_40 : decode (mC M_X4_readPeople) 40 = .ok (.aload_n 1, 1) := by decide +kernel
theorem DM_X4_readPeople_41 : decode (mC M_X4_readPeople) 41 = .ok (.getfield 75, 3) := by decide +kernel
theorem DM_X4_readPeople_44 : decode (mC M_X4_readPeople) 44 = .ok (.bipush 6, 2) := by decide +kernel
theorem DM_X4_readPeople_46 : decode (mC M_X4_readPeople) 46 = .ok (.if_icmp .lt 9, 3) := by decide +kernel
theorem DM_X4_readPeople_49 : decode (mC M_X4_readPeople) 49 = .ok (.aload_n 0, 1) := by decide +kernel
theorem DM_X4_readPeople_50 : decode (mC M_X4_readPeople) 50 = .ok (.iconst 3, 1) := by decide +kernel
theorem DM_X4_readPeople_51 : decode (mC M_X4_readPeople) 51 = .ok (.invokevirtual 65, 3) := by decide +kernel
theorem DM_X4_readPeople_54 : decode (mC M_X4_readPeople) 54 = .ok (.ireturn, 1) := by decide +kernel
theorem DM_X4_readPeople_55 : decode (mC M_X4_readPeople) 55 = .ok (.aload_n 0, 1) := by decide +kernel
theorem DM_X4_readPeople_56 : decode (mC M_X4_readPeople) 56 = .ok (.aload_n 1, 1) := by decide +kernel
theorem DM_X4_readPeople_57 : decode (mC M_X4_readPeople) 57 = .ok (.aload_n 1, 1) := by decide +kernel
theorem DM_X4_readPeople_58 : decode (mC M_X4_readPeople) 58 = .ok (.getfield 75, 3) := by decide +kernel
theorem DM_X4_readPeople_61 : decode (mC M_X4_readPeople) 61 = .ok (.invokevirtual 78, 3) := by decide +kernel
theorem DM_X4_readPeople_64 : decode (mC M_X4_readPeople) 64 = .ok (.ifCond .ne 5, 3) := by decide +kernel
theorem DM_X4_readPeople_67 : decode (mC M_X4_readPeople) 67 = .ok (.iconst 0, 1) := by decide +kernel
theorem DM_X4_readPeople_68 : decode (mC M_X4_readPeople) 68 = .ok (.ireturn, 1) := by decide +kernel
theorem DM_X4_readPeople_69 : decode (mC M_X4_readPeople) 69 = .ok (.aload_n 1, 1) := by decide +kernel
theorem DM_X4_readPeople_70 : decode (mC M_X4_readPeople) 70 = .ok (.dup, 1) := by decide +kernel
theorem DM_X4_readPeople_71 : decode (mC M_X4_readPeople) 71 = .ok (.getfield 75, 3) := by decide +kernel
theorem DM_X4_readPeople_74 : decode (mC M_X4_readPeople) 74 = .ok (.iconst 1, 1) := by decide +kernel
theorem DM_X4_readPeople_75 : decode (mC M_X4_readPeople) 75 = .ok (.iadd, 1) := by decide +kernel
theorem DM_X4_readPeople_76 : decode (mC M_X4_readPeople) 76 = .ok (.putfield 75, 3) := by decide +kernel
theorem DM_X4_readPeople_79 : decode (mC M_X4_readPeople) 79 = .ok (.iinc 2 1, 3) := by decide +kernel
theorem DM_X4_readPeople_82 : decode (mC M_X4_readPeople) 82 = .ok (.goto (-80), 3) := by decide +kernel
theorem DM_X4_readPeople_85 : decode (mC M_X4_readPeople) 85 = .ok (.iconst 1, 1) := by decide +kernel
theorem DM_X4_readPeople_86 : decode (mC M_X4_readPeople) 86 = .ok (.ireturn, 1) := by decide +kernel
theorem DM_X4_readPerson_0 : decode (mC M_X4_readPerson) 0 = .ok (.aload_n 1, 1) := by decide +kernel
theorem DM_X4_readPerson_1 : decode (mC M_X4_readPerson) 1 = .ok (.getfield 82, 3) := by decide +kernel
theorem DM_X4_readPerson_4 : decode (mC M_X4_readPerson) 4 = .ok (.iload_n 2, 1) := by decide +kernel
theorem DM_X4_readPerson_5 : decode (mC M_X4_readPerson) 5 = .ok (.aload_n 0, 1) := by decide +kernel
theorem DM_X4_readPerson_6 : decode (mC M_X4_readPerson) 6 = .ok (.getfield 72, 3) := by decide +kernel
theorem DM_X4_readPerson_9 : decode (mC M_X4_readPerson) 9 = .ok (.bipush 112, 2) := by decide +kernel
theorem DM_X4_readPerson_11 : decode (mC M_X4_readPerson) 11 = .ok (.isub, 1) := by decide +kernel
theorem DM_X4_readPerson_12 : decode (mC M_X4_readPerson) 12 = .ok (.iconst 1, 1) := by decide +kernel
theorem DM_X4_readPerson_13 : decode (mC M_X4_readPerson) 13 = .ok (.iadd, 1) := by decide +kernel
theorem DM_X4_readPerson_14 : decode (mC M_X4_readPerson) 14 = .ok (.iastore, 1) := by decide +kernel
theorem DM_X4_readPerson_15 : decode (mC M_X4_readPerson) 15 = .ok (.aload_n 0, 1) := by decide +kernel
theorem DM_X4_readPerson_16 : decode (mC M_X4_readPerson) 16 = .ok (.invokevirtual 27, 3) := by decide +kernel
theorem DM_X4_readPerson_19 : decode (mC M_X4_readPerson) 19 = .ok (.iconst 0, 1) := by decide +kernel
theorem DM_X4_readPerson_20 : decode (mC M_X4_readPerson) 20 = .ok (.istore_n 3, 1) := by decide +kernel
theorem DM_X4_readPerson_21 : decode (mC M_X4_readPerson) 21 = .ok (.iload_n 3, 1) := by decide +kernel
theorem DM_X4_readPerson_22 : decode (mC M_X4_readPerson) 22 = .ok (.iconst 4, 1) := by decide +kernel
theorem DM_X4_readPerson_23 : decode (mC M_X4_readPerson) 23 = .ok (.if_icmp .ge 30, 3) := by decide +kernel
theorem DM_X4_readPerson_26 : decode (mC M_X4_readPerson) 26 = .ok (.aload_n 0, 1) := by decide +kernel
theorem DM_X4_readPerson_27 : decode (mC M_X4_readPerson) 27 = .ok (.invokevirtual 58, 3) := by decide +kernel
theorem DM_X4_readPerson_30 : decode (mC M_X4_readPerson) 30 = .ok (.ifCond .eq 23, 3) := by decide +kernel
theorem DM_X4_readPerson_33 : decode (mC M_X4_readPerson) 33 = .ok (.aload_n 1, 1) := by decide +kernel
theorem DM_X4_readPerson_34 : decode (mC M_X4_readPerson) 34 = .ok (.iload_n 2, 1) := by decide +kernel
theorem DM_X4_readPerson_35 : decode (mC M_X4_readPerson) 35 = .ok (.iload_n 3, 1) := by decide +kernel
theorem DM_X4_readPerson_36 : decode (mC M_X4_readPerson) 36 = .ok (.aload_n 0, 1) := by decide +kernel
theorem DM_X4_readPerson_37 : decode (mC M_X4_readPerson) 37 = .ok (.invokevirtual 62, 3) := by decide +kernel
theorem DM_X4_readPerson_40 : decode (mC M_X4_readPerson) 40 = .ok (.invokevirtual 85, 3) := by decide +kernel
theorem DM_X4_readPerson_43 : decode (mC M_X4_readPerson) 43 = .ok (.aload_n 0, 1) := by decide +kernel
theorem DM_X4_readPerson_44 : decode (mC M_X4_readPerson) 44 = .ok (.invokevirtual 27, 3) := by decide +kernel
theorem DM_X4_readPerson_47 : decode (mC M_X4_readPerson) 47 = .ok (.iinc 3 1, 3) := by decide +kernel
theorem DM_X4_readPerson_50 : decode (mC M_X4_readPerson) 50 = .ok (.goto (-29), 3) := by decide +kernel
theorem DM_X4_readPerson_53 : decode (mC M_X4_readPerson) 53 = .ok (.iload_n 3, 1) := by decide +kernel
theorem DM_X4_readPerson_54 : decode (mC M_X4_readPerson) 54 = .ok (.ifCond .ne 9, 3) := by decide +kernel
theorem DM_X4_readPerson_57 : decode (mC M_X4_readPerson) 57 = .ok (.aload_n 0, 1) := by decide +kernel
theorem DM_X4_readPerson_58 : decode (mC M_X4_readPerson) 58 = .ok (.iconst 1, 1) := by decide +kernel
theorem DM_X4_readPerson_59 : decode (mC M_X4_readPerson) 59 = .ok (.invokevirtual 65, 3) := by decide +kernel
theorem DM_X4_readPerson_62 : decode (mC M_X4_readPerson) 62 = .ok (.ireturn, 1) := by decide +kernel
theorem DM_X4_readPerson_63 : decode (mC M_X4_readPerson) 63 = .ok (.aload_n 1, 1) := by decide +kernel
theorem DM_X4_readPerson_64 : decode (mC M_X4_readPerson) 64 = .ok (.getfield 89, 3) := by decide +kernel
theorem DM_X4_readPerson_67 : decode (mC M_X4_readPerson) 67 = .ok (.iload_n 2, 1) := by decide +kernel
theorem DM_X4_readPerson_68 : decode (mC M_X4_readPerson) 68 = .ok (.iload_n 3, 1) := by decide +kernel
theorem DM_X4_readPerson_69 : decode (mC M_X4_readPerson) 69 = .ok (.iastore, 1) := by decide +kernel
theorem DM_X4_readPerson_70 : decode (mC M_X4_readPerson) 70 = .ok (.aload_n 0, 1) := by decide +kernel
theorem DM_X4_readPerson_71 : decode (mC M_X4_readPerson) 71 = .ok (.iconst 1, 1) := by decide +kernel
theorem DM_X4_readPerson_72 : decode (mC M_X4_readPerson) 72 = .ok (.bipush 30, 2) := by decide +kernel
theorem DM_X4_readPerson_74 : decode (mC M_X4_readPerson) 74 = .ok (.invokevirtual 44, 3) := by decide +kernel
theorem DM_X4_readPerson_77 : decode (mC M_X4_readPerson) 77 = .ok (.ifCond .ne 5, 3) := by decide +kernel
theorem DM_X4_readPerson_80 : decode (mC M_X4_readPerson) 80 = .ok (.iconst 0, 1) := by decide +kernel
theorem DM_X4_readPerson_81 : decode (mC M_X4_readPerson) 81 = .ok (.ireturn, 1) := by decide +kernel
theorem DM_X4_readPerson_82 : decode (mC M_X4_readPerson) 82 = .ok (.aload_n 1, 1) := by decide +kernel
theorem DM_X4_readPerson_83 : decode (mC M_X4_readPerson) 83 = .ok (.getfield 92, 3) := by decide +kernel
theorem DM_X4_readPerson_86 : decode (mC M_X4_readPerson) 86 = .ok (.iload_n 2, 1) := by decide +kernel
theorem DM_X4_readPerson_87 : decode (mC M_X4_readPerson) 87 = .ok (.aload_n 0, 1) := by decide +kernel
theorem DM_X4_readPerson_88 : decode (mC M_X4_readPerson) 88 = .ok (.invokevirtual 48, 3) := by decide +kernel
theorem DM_X4_readPerson_91 : decode (mC M_X4_readPerson) 91 = .ok (.iastore, 1) := by decide +kernel
theorem DM_X4_readPerson_92 : decode (mC M_X4_readPerson) 92 = .ok (.aload_n 0, 1) := by decide +kernel
theorem DM_X4_readPerson_93 : decode (mC M_X4_readPerson) 93 = .ok (.bipush 44, 2) := by decide +kernel
theorem DM_X4_readPerson_95 : decode (mC M_X4_readPerson) 95 = .ok (.invokevirtual 40, 3) := by decide +kernel
theorem DM_X4_readPerson_98 : decode (mC M_X4_readPerson) 98 = .ok (.ifCond .eq 13, 3) := by decide +kernel
theorem DM_X4_readPerson_101 : decode (mC M_X4_readPerson) 101 = .ok (.aload_n 0, 1) := by decide +kernel
theorem DM_X4_readPerson_102 : decode (mC M_X4_readPerson) 102 = .ok (.iconst 1, 1) := by decide +kernel
theorem DM_X4_readPerson_103 : decode (mC M_X4_readPerson) 103 = .ok (.bipush 99, 2) := by decide +kernel
theorem DM_X4_readPerson_105 : decode (mC M_X4_readPerson) 105 = .ok (.invokevirtual 44, 3) := by decide +kernel
theorem DM_X4_readPerson_108 : decode (mC M_X4_readPerson) 108 = .ok (.ifCond .ne 5, 3) := by decide +kernel
theorem DM_X4_readPerson_111 : decode (mC M_X4_readPerson) 111 = .ok (.iconst 0, 1) := by decide +kernel
theorem DM_X4_readPerson_112 : decode (mC M_X4_readPerson) 112 = .ok (.ireturn, 1) := by decide +kernel
theorem DM_X4_readPerson_113 : decode (mC M_X4_readPerson) 113 = .ok (.aload_n 1, 1) := by decide +kernel
theorem DM_X4_readPerson_114 : decode (mC M_X4_readPerson) 114 = .ok (.getfield 95, 3) := by decide +kernel
theorem DM_X4_readPerson_117 : decode (mC M_X4_readPerson) 117 = .ok (.iload_n 2, 1) := by decide +kernel
theorem DM_X4_readPerson_118 : decode (mC M_X4_readPerson) 118 = .ok (.aload_n 0, 1) := by decide +kernel
theorem DM_X4_readPerson_119 : decode (mC M_X4_readPerson) 119 = .ok (.invokevirtual 48, 3) := by decide +kernel
theorem DM_X4_readPerson_122 : decode (mC M_X4_readPerson) 122 = .ok (.iastore, 1) := by decide +kernel
theorem DM_X4_readPerson_123 : decode (mC M_X4_readPerson) 123 = .ok (.aload_n 0, 1) := by decide +kernel
theorem DM_X4_readPerson_124 : decode (mC M_X4_readPerson) 124 = .ok (.bipush 59, 2) := by decide +kernel
theorem DM_X4_readPerson_126 : decode (mC M_X4_readPerson) 126 = .ok (.invokevirtual 40, 3) := by decide +kernel
theorem DM_X4_readPerson_129 : decode (mC M_X4_readPerson) 129 = .ok (.ireturn, 1) := by decide +kernel
theorem DM_X4_hasFault_0 : decode (mC M_X4_hasFault) 0 = .ok (.aload_n 0, 1) := by decide +kernel
theorem DM_X4_hasFault_1 : decode (mC M_X4_hasFault) 1 = .ok (.iload_n 1, 1) := by decide +kernel
theorem DM_X4_hasFault_2 : decode (mC M_X4_hasFault) 2 = .ok (.putfield 98, 3) := by decide +kernel
theorem DM_X4_hasFault_5 : decode (mC M_X4_hasFault) 5 = .ok (.aload_n 0, 1) := by decide +kernel
theorem DM_X4_hasFault_6 : decode (mC M_X4_hasFault) 6 = .ok (.aload_n 0, 1) := by decide +kernel
theorem DM_X4_hasFault_7 : decode (mC M_X4_hasFault) 7 = .ok (.getfield 101, 3) := by decide +kernel
theorem DM_X4_hasFault_10 : decode (mC M_X4_hasFault) 10 = .ok (.putfield 104, 3) := by decide +kernel
theorem DM_X4_hasFault_13 : decode (mC M_X4_hasFault) 13 = .ok (.iconst 0, 1) := by decide +kernel
theorem DM_X4_hasFault_14 : decode (mC M_X4_hasFault) 14 = .ok (.ireturn, 1) := by decide +kernel
theorem DM_X4_passOver_0 : decode (mC M_X4_passOver) 0 = .ok (.aload_n 0, 1) := by decide +kernel
theorem DM_X4_passOver_1 : decode (mC M_X4_passOver) 1 = .ok (.getfield 72, 3) := by decide +kernel
theorem DM_X4_passOver_4 : decode (mC M_X4_passOver) 4 = .ok (.iload_n 1, 1) := by decide +kernel
theorem DM_X4_passOver_5 : decode (mC M_X4_passOver) 5 = .ok (.if_icmp .eq 9, 3) := by decide +kernel
theorem DM_X4_passOver_8 : decode (mC M_X4_passOver) 8 = .ok (.aload_n 0, 1) := by decide +kernel
theorem DM_X4_passOver_9 : decode (mC M_X4_passOver) 9 = .ok (.iconst 1, 1) := by decide +kernel
theorem DM_X4_passOver_10 : decode (mC M_X4_passOver) 10 = .ok (.invokevirtual 65, 3) := by decide +kernel
theorem DM_X4_passOver_13 : decode (mC M_X4_passOver) 13 = .ok (.ireturn, 1) := by decide +kernel
theorem DM_X4_passOver_14 : decode (mC M_X4_passOver) 14 = .ok (.aload_n 0, 1) := by decide +kernel
theorem DM_X4_passOver_15 : decode (mC M_X4_passOver) 15 = .ok (.invokevirtual 27, 3) := by decide +kernel
theorem DM_X4_passOver_18 : decode (mC M_X4_passOver) 18 = .ok (.iconst 1, 1) := by decide +kernel
theorem DM_X4_passOver_19 : decode (mC M_X4_passOver) 19 = .ok (.ireturn, 1) := by decide +kernel
theorem DM_X4_isNumberIn_0 : decode (mC M_X4_isNumberIn) 0 = .ok (.aload_n 0, 1) := by decide +kernel
theorem DM_X4_isNumberIn_1 : decode (mC M_X4_isNumberIn) 1 = .ok (.getfield 72, 3) := by decide +kernel
theorem DM_X4_isNumberIn_4 : decode (mC M_X4_isNumberIn) 4 = .ok (.bipush (-2), 2) := by decide +kernel
theorem DM_X4_isNumberIn_6 : decode (mC M_X4_isNumberIn) 6 = .ok (.if_icmp .eq 9, 3) := by decide +kernel
theorem DM_X4_isNumberIn_9 : decode (mC M_X4_isNumberIn) 9 = .ok (.aload_n 0, 1) := by decide +kernel
theorem DM_X4_isNumberIn_10 : decode (mC M_X4_isNumberIn) 10 = .ok (.iconst 1, 1) := by decide +kernel
theorem DM_X4_isNumberIn_11 : decode (mC M_X4_isNumberIn) 11 = .ok (.invokevirtual 65, 3) := by decide +kernel
theorem DM_X4_isNumberIn_14 : decode (mC M_X4_isNumberIn) 14 = .ok (.ireturn, 1) := by decide +kernel
theorem DM_X4_isNumberIn_15 : decode (mC M_X4_isNumberIn) 15 = .ok (.aload_n 0, 1) := by decide +kernel
theorem DM_X4_isNumberIn_16 : decode (mC M_X4_isNumberIn) 16 = .ok (.getfield 107, 3) := by decide +kernel
theorem DM_X4_isNumberIn_19 : decode (mC M_X4_isNumberIn) 19 = .ok (.iload_n 1, 1) := by decide +kernel
theorem DM_X4_isNumberIn_20 : decode (mC M_X4_isNumberIn) 20 = .ok (.if_icmp .lt 11, 3) := by decide +kernel
theorem DM_X4_isNumberIn_23 : decode (mC M_X4_isNumberIn) 23 = .ok (.aload_n 0, 1) := by decide +kernel
theorem DM_X4_isNumberIn_24 : decode (mC M_X4_isNumberIn) 24 = .ok (.getfield 107, 3) := by decide +kernel
theorem DM_X4_isNumberIn_27 : decode (mC M_X4_isNumberIn) 27 = .ok (.iload_n 2, 1) := by decide +kernel
theorem DM_X4_isNumberIn_28 : decode (mC M_X4_isNumberIn) 28 = .ok (.if_icmp .le 9, 3) := by decide +kernel
theorem DM_X4_isNumberIn_31 : decode (mC M_X4_isNumberIn) 31 = .ok (.aload_n 0, 1) := by decide +kernel
theorem DM_X4_isNumberIn_32 : decode (mC M_X4_isNumberIn) 32 = .ok (.iconst 2, 1) := by decide +kernel
theorem DM_X4_isNumberIn_33 : decode (mC M_X4_isNumberIn) 33 = .ok (.invokevirtual 65, 3) := by decide +kernel
theorem DM_X4_isNumberIn_36 : decode (mC M_X4_isNumberIn) 36 = .ok (.ireturn, 1) := by decide +kernel
theorem DM_X4_isNumberIn_37 : decode (mC M_X4_isNumberIn) 37 = .ok (.iconst 1, 1) := by decide +kernel
theorem DM_X4_isNumberIn_38 : decode (mC M_X4_isNumberIn) 38 = .ok (.ireturn, 1) := by decide +kernel
theorem DM_X4_takeNumber_0 : decode (mC M_X4_takeNumber) 0 = .ok (.aload_n 0, 1) := by decide +kernel
theorem DM_X4_takeNumber_1 : decode (mC M_X4_takeNumber) 1 = .ok (.getfield 107, 3) := by decide +kernel
theorem DM_X4_takeNumber_4 : decode (mC M_X4_takeNumber) 4 = .ok (.istore_n 1, 1) := by decide +kernel
theorem DM_X4_takeNumber_5 : decode (mC M_X4_takeNumber) 5 = .ok (.aload_n 0, 1) := by decide +kernel
theorem DM_X4_takeNumber_6 : decode (mC M_X4_takeNumber) 6 = .ok (.invokevirtual 27, 3) := by decide +kernel
theorem DM_X4_takeNumber_9 : decode (mC M_X4_takeNumber) 9 = .ok (.iload_n 1, 1) := by decide +kernel
theorem DM_X4_takeNumber_10 : decode (mC M_X4_takeNumber) 10 = .ok (.ireturn, 1) := by decide +kernel
theorem DM_X4_isLetter_0 : decode (mC M_X4_isLetter) 0 = .ok (.aload_n 0, 1) := by decide +kernel
theorem DM_X4_isLetter_1 : decode (mC M_X4_isLetter) 1 = .ok (.getfield 72, 3) := by decide +kernel
theorem DM_X4_isLetter_4 : decode (mC M_X4_isLetter) 4 = .ok (.bipush 97, 2) := by decide +kernel
theorem DM_X4_isLetter_6 : decode (mC M_X4_isLetter) 6 = .ok (.if_icmp .lt 16, 3) := by decide +kernel
theorem DM_X4_isLetter_9 : decode (mC M_X4_isLetter) 9 = .ok (.aload_n 0, 1) := by decide +kernel
theorem DM_X4_isLetter_10 : decode (mC M_X4_isLetter) 10 = .ok (.getfield 72, 3) := by decide +kernel
theorem DM_X4_isLetter_13 : decode (mC M_X4_isLetter) 13 = .ok (.bipush 105, 2) := by decide +kernel
theorem DM_X4_isLetter_15 : decode (mC M_X4_isLetter) 15 = .ok (.if_icmp .ge 7, 3) := by decide +kernel
theorem DM_X4_isLetter_18 : decode (mC M_X4_isLetter) 18 = .ok (.iconst 1, 1) := by decide +kernel
theorem DM_X4_isLetter_19 : decode (mC M_X4_isLetter) 19 = .ok (.goto 4, 3) := by decide +kernel
theorem DM_X4_isLetter_22 : decode (mC M_X4_isLetter) 22 = .ok (.iconst 0, 1) := by decide +kernel
theorem DM_X4_isLetter_23 : decode (mC M_X4_isLetter) 23 = .ok (.ireturn, 1) := by decide +kernel
theorem DM_X4_letterOfToken_0 : decode (mC M_X4_letterOfToken) 0 = .ok (.aload_n 0, 1) := by decide +kernel
theorem DM_X4_letterOfToken_1 : decode (mC M_X4_letterOfToken) 1 = .ok (.getfield 72, 3) := by decide +kernel
theorem DM_X4_letterOfToken_4 : decode (mC M_X4_letterOfToken) 4 = .ok (.bipush 97, 2) := by decide +kernel
theorem DM_X4_letterOfToken_6 : decode (mC M_X4_letterOfToken) 6 = .ok (.isub, 1) := by decide +kernel
theorem DM_X4_letterOfToken_7 : decode (mC M_X4_letterOfToken) 7 = .ok (.ireturn, 1) := by decide +kernel
theorem DM_X4_isFigureAt_0 : decode (mC M_X4_isFigureAt) 0 = .ok (.iload_n 1, 1) := by decide +kernel
theorem DM_X4_isFigureAt_1 : decode (mC M_X4_isFigureAt) 1 = .ok (.aload_n 0, 1) := by decide +kernel
theorem DM_X4_isFigureAt_2 : decode (mC M_X4_isFigureAt) 2 = .ok (.getfield 15, 3) := by decide +kernel
theorem DM_X4_isFigureAt_5 : decode (mC M_X4_isFigureAt) 5 = .ok (.if_icmp .ge 29, 3) := by decide +kernel
theorem DM_X4_isFigureAt_8 : decode (mC M_X4_isFigureAt) 8 = .ok (.aload_n 0, 1) := by decide +kernel
theorem DM_X4_isFigureAt_9 : decode (mC M_X4_isFigureAt) 9 = .ok (.getfield 9, 3) := by decide +kernel
theorem DM_X4_isFigureAt_12 : decode (mC M_X4_isFigureAt) 12 = .ok (.iload_n 1, 1) := by decide +kernel
theorem DM_X4_isFigureAt_13 : decode (mC M_X4_isFigureAt) 13 = .ok (.iaload, 1) := by decide +kernel
theorem DM_X4_isFigureAt_14 : decode (mC M_X4_isFigureAt) 14 = .ok (.bipush 48, 2) := by decide +kernel
theorem DM_X4_isFigureAt_16 : decode (mC M_X4_isFigureAt) 16 = .ok (.if_icmp .lt 18, 3) := by decide +kernel
theorem DM_X4_isFigureAt_19 : decode (mC M_X4_isFigureAt) 19 = .ok (.aload_n 0, 1) := by decide +kernel
theorem DM_X4_isFigureAt_20 : decode (mC M_X4_isFigureAt) 20 = .ok (.getfield 9, 3) := by decide +kernel
theorem DM_X4_isFigureAt_23 : decode (mC M_X4_isFigureAt) 23 = .ok (.iload_n 1, 1) := by decide +kernel
theorem DM_X4_isFigureAt_24 : decode (mC M_X4_isFigureAt) 24 = .ok (.iaload, 1) := by decide +kernel
theorem DM_X4_isFigureAt_25 : decode (mC M_X4_isFigureAt) 25 = .ok (.bipush 57, 2) := by decide +kernel
theorem DM_X4_isFigureAt_27 : decode (mC M_X4_isFigureAt) 27 = .ok (.if_icmp .gt 7, 3) := by decide +kernel
theorem DM_X4_isFigureAt_30 : decode (mC M_X4_isFigureAt) 30 = .ok (.iconst 1, 1) := by decide +kernel
theorem DM_X4_isFigureAt_31 : decode (mC M_X4_isFigureAt) 31 = .ok (.goto 4, 3) := by decide +kernel
theorem DM_X4_isFigureAt_34 : decode (mC M_X4_isFigureAt) 34 = .ok (.iconst 0, 1) := by decide +kernel
theorem DM_X4_isFigureAt_35 : decode (mC M_X4_isFigureAt) 35 = .ok (.ireturn, 1) := by decide +kernel
theorem DM_X4_step_0 : decode (mC M_X4_step) 0 = .ok (.aload_n 0, 1) := by decide +kernel
theorem DM_X4_step_1 : decode (mC M_X4_step) 1 = .ok (.aload_n 0, 1) := by decide +kernel
theorem DM_X4_step_2 : decode (mC M_X4_step) 2 = .ok (.getfield 24, 3) := by decide +kernel
theorem DM_X4_step_5 : decode (mC M_X4_step) 5 = .ok (.putfield 101, 3) := by decide +kernel
theorem DM_X4_step_8 : decode (mC M_X4_step) 8 = .ok (.aload_n 0, 1) := by decide +kernel
theorem DM_X4_step_9 : decode (mC M_X4_step) 9 = .ok (.getfield 24, 3) := by decide +kernel
theorem DM_X4_step_12 : decode (mC M_X4_step) 12 = .ok (.aload_n 0, 1) := by decide +kernel
theorem DM_X4_step_13 : decode (mC M_X4_step) 13 = .ok (.getfield 15, 3) := by decide +kernel
theorem DM_X4_step_16 : decode (mC M_X4_step) 16 = .ok (.if_icmp .lt 9, 3) := by decide +kernel
theorem DM_X4_step_19 : decode (mC M_X4_step) 19 = .ok (.aload_n 0, 1) := by decide +kernel
theorem DM_X4_step_20 : decode (mC M_X4_step) 20 = .ok (.iconst (-1), 1) := by decide +kernel
theorem DM_X4_step_21 : decode (mC M_X4_step) 21 = .ok (.putfield 72, 3) := by decide +kernel
theorem DM_X4_step_24 : decode (mC M_X4_step) 24 = .ok (.return_, 1) := by decide +kernel
theorem DM_X4_step_25 : decode (mC M_X4_step) 25 = .ok (.aload_n 0, 1) := by decide +kernel
theorem DM_X4_step_26 : decode (mC M_X4_step) 26 = .ok (.aload_n 0, 1) := by decide +kernel
theorem DM_X4_step_27 : decode (mC M_X4_step) 27 = .ok (.getfield 24, 3) := by decide +kernel
theorem DM_X4_step_30 : decode (mC M_X4_step) 30 = .ok (.invokevirtual 110, 3) := by decide +kernel
theorem DM_X4_step_33 : decode (mC M_X4_step) 33 = .ok (.ifCond .ne 27, 3) := by decide +kernel
theorem DM_X4_step_36 : decode (mC M_X4_step) 36 = .ok (.aload_n 0, 1) := by decide +kernel
theorem DM_X4_step_37 : decode (mC M_X4_step) 37 = .ok (.aload_n 0, 1) := by decide +kernel
theorem DM_X4_step_38 : decode (mC M_X4_step) 38 = .ok (.getfield 9, 3) := by decide +kernel
theorem DM_X4_step_41 : decode (mC M_X4_step) 41 = .ok (.aload_n 0, 1) := by decide +kernel
theorem DM_X4_step_42 : decode (mC M_X4_step) 42 = .ok (.getfield 24, 3) := by decide +kernel
theorem DM_X4_step_45 : decode (mC M_X4_step) 45 = .ok (.iaload, 1) := by decide +kernel
theorem DM_X4_step_46 : decode (mC M_X4_step) 46 = .ok (.putfield 72, 3) := by decide +kernel
theorem DM_X4_step_49 : decode (mC M_X4_step) 49 = .ok (.aload_n 0, 1) := by decide +kernel
theorem DM_X4_step_50 : decode (mC M_X4_step) 50 = .ok (.dup, 1) := by decide +kernel
theorem DM_X4_step_51 : decode (mC M_X4_step) 51 = .ok (.getfield 24, 3) := by decide +kernel
theorem DM_X4_step_54 : decode (mC M_X4_step) 54 = .ok (.iconst 1, 1) := by decide +kernel
theorem DM_X4_step_55 : decode (mC M_X4_step) 55 = .ok (.iadd, 1) := by decide +kernel
theorem DM_X4_step_56 : decode (mC M_X4_step) 56 = .ok (.putfield 24, 3) := by decide +kernel
theorem DM_X4_step_59 : decode (mC M_X4_step) 59 = .ok (.return_, 1) := by decide +kernel
theorem DM_X4_step_60 : decode (mC M_X4_step) 60 = .ok (.aload_n 0, 1) := by decide +kernel
theorem DM_X4_step_61 : decode (mC M_X4_step) 61 = .ok (.iconst 0, 1) := by decide +kernel
theorem DM_X4_step_62 : decode (mC M_X4_step) 62 = .ok (.putfield 107, 3) := by decide +kernel
theorem DM_X4_step_65 : decode (mC M_X4_step) 65 = .ok (.iconst 0, 1) := by decide +kernel
theorem DM_X4_step_66 : decode (mC M_X4_step) 66 = .ok (.istore_n 1, 1) := by decide +kernel
theorem DM_X4_step_67 : decode (mC M_X4_step) 67 = .ok (.iload_n 1, 1) := by decide +kernel
theorem DM_X4_step_68 : decode (mC M_X4_step) 68 = .ok (.bipush 120, 2) := by decide +kernel
theorem DM_X4_step_70 : decode (mC M_X4_step) 70 = .ok (.if_icmp .ge 59, 3) := by decide +kernel
theorem DM_X4_step_73 : decode (mC M_X4_step) 73 = .ok (.aload_n 0, 1) := by decide +kernel
theorem DM_X4_step_74 : decode (mC M_X4_step) 74 = .ok (.aload_n 0, 1) := by decide +kernel
theorem DM_X4_step_75 : decode (mC M_X4_step) 75 = .ok (.getfield 24, 3) := by decide +kernel
theorem DM_X4_step_78 : decode (mC M_X4_step) 78 = .ok (.invokevirtual 110, 3) := by decide +kernel
theorem DM_X4_step_81 : decode (mC M_X4_step) 81 = .ok (.ifCond .eq 48, 3) := by decide +kernel
theorem DM_X4_step_84 : decode (mC M_X4_step) 84 = .ok (.iload_n 1, 1) := by decide +kernel
theorem DM_X4_step_85 : decode (mC M_X4_step) 85 = .ok (.iconst 2, 1) := by decide +kernel
theorem DM_X4_step_86 : decode (mC M_X4_step) 86 = .ok (.if_icmp .ge 27, 3) := by decide +kernel
theorem DM_X4_step_89 : decode (mC M_X4_step) 89 = .ok (.aload_n 0, 1) := by decide +kernel
theorem DM_X4_step_90 : decode (mC M_X4_step) 90 = .ok (.aload_n 0, 1) := by decide +kernel
theorem DM_X4_step_91 : decode (mC M_X4_step) 91 = .ok (.getfield 107, 3) := by decide +kernel
theorem DM_X4_step_94 : decode (mC M_X4_step) 94 = .ok (.bipush 10, 2) := by decide +kernel
theorem DM_X4_step_96 : decode (mC M_X4_step) 96 = .ok (.imul, 1) := by decide +kernel
theorem DM_X4_step_97 : decode (mC M_X4_step) 97 = .ok (.aload_n 0, 1) := by decide +kernel
theorem DM_X4_step_98 : decode (mC M_X4_step) 98 = .ok (.getfield 9, 3) := by decide +kernel
theorem DM_X4_step_101 : decode (mC M_X4_step) 101 = .ok (.aload_n 0, 1) := by decide +kernel
theorem DM_X4_step_102 : decode (mC M_X4_step) 102 = .ok (.getfield 24, 3) := by decide +kernel
theorem DM_X4_step_105 : decode (mC M_X4_step) 105 = .ok (.iaload, 1) := by decide +kernel
theorem DM_X4_step_106 : decode (mC M_X4_step) 106 = .ok (.iadd, 1) := by decide +kernel
theorem DM_X4_step_107 : decode (mC M_X4_step) 107 = .ok (.bipush 48, 2) := by decide +kernel
theorem DM_X4_step_109 : decode (mC M_X4_step) 109 = .ok (.isub, 1) := by decide +kernel
theorem DM_X4_step_110 : decode (mC M_X4_step) 110 = .ok (.putfield 107, 3) := by decide +kernel
theorem DM_X4_step_113 : decode (mC M_X4_step) 113 = .ok (.aload_n 0, 1) := by decide +kernel
theorem DM_X4_step_114 : decode (mC M_X4_step) 114 = .ok (.dup, 1) := by decide +kernel
theorem DM_X4_step_115 : decode (mC M_X4_step) 115 = .ok (.getfield 24, 3) := by decide +kernel
theorem DM_X4_step_118 : decode (mC M_X4_step) 118 = .ok (.iconst 1, 1) := by decide +kernel
theorem DM_X4_step_119 : decode (mC M_X4_step) 119 = .ok (.iadd, 1) := by decide +kernel
theorem DM_X4_step_120 : decode (mC M_X4_step) 120 = .ok (.putfield 24, 3) := by decide +kernel
theorem DM_X4_step_123 : decode (mC M_X4_step) 123 = .ok (.iinc 1 1, 3) := by decide +kernel
theorem DM_X4_step_126 : decode (mC M_X4_step) 126 = .ok (.goto (-59), 3) := by decide +kernel
theorem DM_X4_step_129 : decode (mC M_X4_step) 129 = .ok (.aload_n 0, 1) := by decide +kernel
theorem DM_X4_step_130 : decode (mC M_X4_step) 130 = .ok (.aload_n 0, 1) := by decide +kernel
theorem DM_X4_step_131 : decode (mC M_X4_step) 131 = .ok (.getfield 24, 3) := by decide +kernel
theorem DM_X4_step_134 : decode (mC M_X4_step) 134 = .ok (.aload_n 0, 1) := by decide +kernel
theorem DM_X4_step_135 : decode (mC M_X4_step) 135 = .ok (.getfield 101, 3) := by decide +kernel
theorem DM_X4_step_138 : decode (mC M_X4_step) 138 = .ok (.isub, 1) := by decide +kernel
theorem DM_X4_step_139 : decode (mC M_X4_step) 139 = .ok (.iconst 2, 1) := by decide +kernel
theorem DM_X4_step_140 : decode (mC M_X4_step) 140 = .ok (.if_icmp .le 8, 3) := by decide +kernel
theorem DM_X4_step_143 : decode (mC M_X4_step) 143 = .ok (.bipush (-3), 2) := by decide +kernel
theorem DM_X4_step_145 : decode (mC M_X4_step) 145 = .ok (.goto 5, 3) := by decide +kernel
theorem DM_X4_step_148 : decode (mC M_X4_step) 148 = .ok (.bipush (-2), 2) := by decide +kernel
theorem DM_X4_step_150 : decode (mC M_X4_step) 150 = .ok (.putfield 72, 3) := by decide +kernel
theorem DM_X4_step_153 : decode (mC M_X4_step) 153 = .ok (.return_, 1) := by decide +kernel
theorem DM_X5_init_0 : decode (mC M_X5_init) 0 = .ok (.aload_n 0, 1) := by decide +kernel
theorem DM_X5_init_1 : decode (mC M_X5_init) 1 = .ok (.invokespecial 3, 3) := by decide +kernel
theorem DM_X5_init_4 : decode (mC M_X5_init) 4 = .ok (.aload_n 0, 1) := by decide +kernel
theorem DM_X5_init_5 : decode (mC M_X5_init) 5 = .ok (.new 9, 3) := by decide +kernel
theorem DM_X5_init_8 : decode (mC M_X5_init) 8 = .ok (.dup, 1) := by decide +kernel
theorem DM_X5_init_9 : decode (mC M_X5_init) 9 = .ok (.invokespecial 11, 3) := by decide +kernel
theorem DM_X5_init_12 : decode (mC M_X5_init) 12 = .ok (.putfield 12, 3) := by decide +kernel
theorem DM_X5_init_15 : decode (mC M_X5_init) 15 = .ok (.return_, 1) := by decide +kernel
theorem DM_X5_findFewest_0 : decode (mC M_X5_findFewest) 0 = .ok (.aload_n 0, 1) := by decide +kernel
theorem DM_X5_findFewest_1 : decode (mC M_X5_findFewest) 1 = .ok (.getfield 12, 3) := by decide +kernel
theorem DM_X5_findFewest_4 : decode (mC M_X5_findFewest) 4 = .ok (.aload_n 1, 1) := by decide +kernel
theorem DM_X5_findFewest_5 : decode (mC M_X5_findFewest) 5 = .ok (.invokevirtual 18, 3) := by decide +kernel
theorem DM_X5_findFewest_8 : decode (mC M_X5_findFewest) 8 = .ok (.aload_n 1, 1) := by decide +kernel
theorem DM_X5_findFewest_9 : decode (mC M_X5_findFewest) 9 = .ok (.aload_n 1, 1) := by decide +kernel
theorem DM_X5_findFewest_10 : decode (mC M_X5_findFewest) 10 = .ok (.getfield 22, 3) := by decide +kernel
theorem DM_X5_findFewest_13 : decode (mC M_X5_findFewest) 13 = .ok (.iconst 0, 1) := by decide +kernel
theorem DM_X5_findFewest_14 : decode (mC M_X5_findFewest) 14 = .ok (.invokevirtual 26, 3) := by decide +kernel
theorem DM_X5_findFewest_17 : decode (mC M_X5_findFewest) 17 = .ok (.istore_n 3, 1) := by decide +kernel
theorem DM_X5_findFewest_18 : decode (mC M_X5_findFewest) 18 = .ok (.aload_n 1, 1) := by decide +kernel
theorem DM_X5_findFewest_19 : decode (mC M_X5_findFewest) 19 = .ok (.iload_n 2, 1) := by decide +kernel
theorem DM_X5_findFewest_20 : decode (mC M_X5_findFewest) 20 = .ok (.iload_n 3, 1) := by decide +kernel
theorem DM_X5_findFewest_21 : decode (mC M_X5_findFewest) 21 = .ok (.invokevirtual 30, 3) := by decide +kernel
theorem DM_X5_findFewest_24 : decode (mC M_X5_findFewest) 24 = .ok (.istore 4, 2) := by decide +kernel
theorem DM_X5_findFewest_26 : decode (mC M_X5_findFewest) 26 = .ok (.iload 4, 2) := by decide +kernel
theorem DM_X5_findFewest_28 : decode (mC M_X5_findFewest) 28 = .ok (.iconst (-1), 1) := by decide +kernel
theorem DM_X5_findFewest_29 : decode (mC M_X5_findFewest) 29 = .ok (.if_icmp .ne 5, 3) := by decide +kernel
theorem DM_X5_findFewest_32 : decode (mC M_X5_findFewest) 32 = .ok (.iconst 0, 1) := by decide +kernel
theorem DM_X5_findFewest_33 : decode (mC M_X5_findFewest) 33 = .ok (.ireturn, 1) := by decide +kernel
theorem DM_X5_findFewest_34 : decode (mC M_X5_findFewest) 34 = .ok (.aload_n 0, 1) := by decide +kernel
theorem DM_X5_findFewest_35 : decode (mC M_X5_findFewest) 35 = .ok (.iload 4, 2) := by decide +kernel
theorem DM_X5_findFewest_37 : decode (mC M_X5_findFewest) 37 = .ok (.iload_n 2, 1) := by decide +kernel
theorem DM_X5_findFewest_38 : decode (mC M_X5_findFewest) 38 = .ok (.iload_n 3, 1) := by decide +kernel
theorem DM_X5_findFewest_39 : decode (mC M_X5_findFewest) 39 = .ok (.invokevirtual 33, 3) := by decide +kernel
theorem DM_X5_findFewest_42 : decode (mC M_X5_findFewest) 42 = .ok (.ifCond .ne 6, 3) := by decide +kernel
theorem DM_X5_findFewest_45 : decode (mC M_X5_findFewest) 45 = .ok (.ldc 37, 2) := by decide +kernel
theorem DM_X5_findFewest_47 : decode (mC M_X5_findFewest) 47 = .ok (.ireturn, 1) := by decide +kernel
theorem DM_X5_findFewest_48 : decode (mC M_X5_findFewest) 48 = .ok (.iconst 0, 1) := by decide +kernel
theorem DM_X5_findFewest_49 : decode (mC M_X5_findFewest) 49 = .ok (.istore 5, 2) := by decide +kernel
theorem DM_X5_findFewest_51 : decode (mC M_X5_findFewest) 51 = .ok (.iload 5, 2) := by decide +kernel
theorem DM_X5_findFewest_53 : decode (mC M_X5_findFewest) 53 = .ok (.aload_n 1, 1) := by decide +kernel
theorem DM_X5_findFewest_54 : decode (mC M_X5_findFewest) 54 = .ok (.getfield 38, 3) := by decide +kernel
theorem DM_X5_findFewest_57 : decode (mC M_X5_findFewest) 57 = .ok (.iload_n 2, 1) := by decide +kernel
theorem DM_X5_findFewest_58 : decode (mC M_X5_findFewest) 58 = .ok (.iaload, 1) := by decide +kernel
theorem DM_X5_findFewest_59 : decode (mC M_X5_findFewest) 59 = .ok (.if_icmp .gt 27, 3) := by decide +kernel
theorem DM_X5_findFewest_62 : decode (mC M_X5_findFewest) 62 = .ok (.aload_n 0, 1) := by decide +kernel
theorem DM_X5_findFewest_63 : decode (mC M_X5_findFewest) 63 = .ok (.aload_n 1, 1) := by decide +kernel
theorem DM_X5_findFewest_64 : decode (mC M_X5_findFewest) 64 = .ok (.iload_n 2, 1) := by decide +kernel
theorem DM_X5_findFewest_65 : decode (mC M_X5_findFewest) 65 = .ok (.iload 4, 2) := by decide +kernel
theorem DM_X5_findFewest_67 : decode (mC M_X5_findFewest) 67 = .ok (.iload_n 3, 1) := by decide +kernel
theorem DM_X5_findFewest_68 : decode (mC M_X5_findFewest) 68 = .ok (.iconst 0, 1) := by decide +kernel
theorem DM_X5_findFewest_69 : decode (mC M_X5_findFewest) 69 = .ok (.iload 5, 2) := by decide +kernel
theorem DM_X5_findFewest_71 : decode (mC M_X5_findFewest) 71 = .ok (.invokevirtual 42, 3) := by decide +kernel
theorem DM_X5_findFewest_74 : decode (mC M_X5_findFewest) 74 = .ok (.ifCond .eq 6, 3) := by decide +kernel
theorem DM_X5_findFewest_77 : decode (mC M_X5_findFewest) 77 = .ok (.iload 5, 2) := by decide +kernel
theorem DM_X5_findFewest_79 : decode (mC M_X5_findFewest) 79 = .ok (.ireturn, 1) := by decide +kernel
theorem DM_X5_findFewest_80 : decode (mC M_X5_findFewest) 80 = .ok (.iinc 5 1, 3) := by decide +kernel
theorem DM_X5_findFewest_83 : decode (mC M_X5_findFewest) 83 = .ok (.goto (-32), 3) := by decide +kernel
theorem DM_X5_findFewest_86 : decode (mC M_X5_findFewest) 86 = .ok (.ldc 37, 2) := by decide +kernel
theorem DM_X5_findFewest_88 : decode (mC M_X5_findFewest) 88 = .ok (.ireturn, 1) := by decide +kernel
theorem DM_X5_canBeBehind_0 : decode (mC M_X5_canBeBehind) 0 = .ok (.aload_n 0, 1) := by decide +kernel
theorem DM_X5_canBeBehind_1 : decode (mC M_X5_canBeBehind) 1 = .ok (.getfield 12, 3) := by decide +kernel
theorem DM_X5_canBeBehind_4 : decode (mC M_X5_canBeBehind) 4 = .ok (.bipush 7, 2) := by decide +kernel
theorem DM_X5_canBeBehind_6 : decode (mC M_X5_canBeBehind) 6 = .ok (.iload_n 3, 1) := by decide +kernel
theorem DM_X5_canBeBehind_7 : decode (mC M_X5_canBeBehind) 7 = .ok (.invokevirtual 46, 3) := by decide +kernel
theorem DM_X5_canBeBehind_10 : decode (mC M_X5_canBeBehind) 10 = .ok (.istore 4, 2) := by decide +kernel
theorem DM_X5_canBeBehind_12 : decode (mC M_X5_canBeBehind) 12 = .ok (.iconst 0, 1) := by decide +kernel
theorem DM_X5_canBeBehind_13 : decode (mC M_X5_canBeBehind) 13 = .ok (.istore 5, 2) := by decide +kernel
theorem DM_X5_canBeBehind_15 : decode (mC M_X5_canBeBehind) 15 = .ok (.iload 5, 2) := by decide +kernel
theorem DM_X5_canBeBehind_17 : decode (mC M_X5_canBeBehind) 17 = .ok (.aload_n 0, 1) := by decide +kernel
theorem DM_X5_canBeBehind_18 : decode (mC M_X5_canBeBehind) 18 = .ok (.getfield 12, 3) := by decide +kernel
theorem DM_X5_canBeBehind_21 : decode (mC M_X5_canBeBehind) 21 = .ok (.getfield 38, 3) := by decide +kernel
theorem DM_X5_canBeBehind_24 : decode (mC M_X5_canBeBehind) 24 = .ok (.iload_n 2, 1) := by decide +kernel
theorem DM_X5_canBeBehind_25 : decode (mC M_X5_canBeBehind) 25 = .ok (.iaload, 1) := by decide +kernel
theorem DM_X5_canBeBehind_26 : decode (mC M_X5_canBeBehind) 26 = .ok (.if_icmp .ge 21, 3) := by decide +kernel
theorem DM_X5_canBeBehind_29 : decode (mC M_X5_canBeBehind) 29 = .ok (.aload_n 0, 1) := by decide +kernel
theorem DM_X5_canBeBehind_30 : decode (mC M_X5_canBeBehind) 30 = .ok (.getfield 12, 3) := by decide +kernel
theorem DM_X5_canBeBehind_33 : decode (mC M_X5_canBeBehind) 33 = .ok (.iload_n 2, 1) := by decide +kernel
theorem DM_X5_canBeBehind_34 : decode (mC M_X5_canBeBehind) 34 = .ok (.iload 5, 2) := by decide +kernel
theorem DM_X5_canBeBehind_36 : decode (mC M_X5_canBeBehind) 36 = .ok (.iload 4, 2) := by decide +kernel
theorem DM_X5_canBeBehind_38 : decode (mC M_X5_canBeBehind) 38 = .ok (.invokevirtual 49, 3) := by decide +kernel
theorem DM_X5_canBeBehind_41 : decode (mC M_X5_canBeBehind) 41 = .ok (.iinc 5 1, 3) := by decide +kernel
theorem DM_X5_canBeBehind_44 : decode (mC M_X5_canBeBehind) 44 = .ok (.goto (-29), 3) := by decide +kernel
theorem DM_X5_canBeBehind_47 : decode (mC M_X5_canBeBehind) 47 = .ok (.aload_n 0, 1) := by decide +kernel
theorem DM_X5_canBeBehind_48 : decode (mC M_X5_canBeBehind) 48 = .ok (.getfield 12, 3) := by decide +kernel
theorem DM_X5_canBeBehind_51 : decode (mC M_X5_canBeBehind) 51 = .ok (.iload_n 1, 1) := by decide +kernel
theorem DM_X5_canBeBehind_52 : decode (mC M_X5_canBeBehind) 52 = .ok (.iload_n 2, 1) := by decide +kernel
theorem DM_X5_canBeBehind_53 : decode (mC M_X5_canBeBehind) 53 = .ok (.iload_n 3, 1) := by decide +kernel
theorem DM_X5_canBeBehind_54 : decode (mC M_X5_canBeBehind) 54 = .ok (.invokevirtual 53, 3) := by decide +kernel
theorem DM_X5_canBeBehind_57 : decode (mC M_X5_canBeBehind) 57 = .ok (.ireturn, 1) := by decide +kernel
theorem DM_X5_tryNames_0 : decode (mC M_X5_tryNames) 0 = .ok (.aload_n 1, 1) := by decide +kernel
theorem DM_X5_tryNames_1 : decode (mC M_X5_tryNames) 1 = .ok (.getfield 38, 3) := by decide +kernel
theorem DM_X5_tryNames_4 : decode (mC M_X5_tryNames) 4 = .ok (.iload_n 2, 1) := by decide +kernel
theorem DM_X5_tryNames_5 : decode (mC M_X5_tryNames) 5 = .ok (.iaload, 1) := by decide +kernel
theorem DM_X5_tryNames_6 : decode (mC M_X5_tryNames) 6 = .ok (.iload 5, 2) := by decide +kernel
theorem DM_X5_tryNames_8 : decode (mC M_X5_tryNames) 8 = .ok (.isub, 1) := by decide +kernel
theorem DM_X5_tryNames_9 : decode (mC M_X5_tryNames) 9 = .ok (.istore 7, 2) := by decide +kernel
theorem DM_X5_tryNames_11 : decode (mC M_X5_tryNames) 11 = .ok (.iload 6, 2) := by decide +kernel
theorem DM_X5_tryNames_13 : decode (mC M_X5_tryNames) 13 = .ok (.iload 7, 2) := by decide +kernel
theorem DM_X5_tryNames_15 : decode (mC M_X5_tryNames) 15 = .ok (.if_icmp .le 5, 3) := by decide +kernel
theorem DM_X5_tryNames_18 : decode (mC M_X5_tryNames) 18 = .ok (.iconst 0, 1) := by decide +kernel
theorem DM_X5_tryNames_19 : decode (mC M_X5_tryNames) 19 = .ok (.ireturn, 1) := by decide +kernel
theorem DM_X5_tryNames_20 : decode (mC M_X5_tryNames) 20 = .ok (.iload 7, 2) := by decide +kernel
theorem DM_X5_tryNames_22 : decode (mC M_X5_tryNames) 22 = .ok (.ifCond .gt 15, 3) := by decide +kernel
theorem DM_X5_tryNames_25 : decode (mC M_X5_tryNames) 25 = .ok (.aload_n 0, 1) := by decide +kernel
theorem DM_X5_tryNames_26 : decode (mC M_X5_tryNames) 26 = .ok (.getfield 12, 3) := by decide +kernel
theorem DM_X5_tryNames_29 : decode (mC M_X5_tryNames) 29 = .ok (.iload_n 3, 1) := by decide +kernel
theorem DM_X5_tryNames_30 : decode (mC M_X5_tryNames) 30 = .ok (.iload_n 2, 1) := by decide +kernel
theorem DM_X5_tryNames_31 : decode (mC M_X5_tryNames) 31 = .ok (.iload 4, 2) := by decide +kernel
theorem DM_X5_tryNames_33 : decode (mC M_X5_tryNames) 33 = .ok (.invokevirtual 53, 3) := by decide +kernel
theorem DM_X5_tryNames_36 : decode (mC M_X5_tryNames) 36 = .ok (.ireturn, 1) := by decide +kernel
theorem DM_X5_tryNames_37 : decode (mC M_X5_tryNames) 37 = .ok (.aload_n 1, 1) := by decide +kernel
theorem DM_X5_tryNames_38 : decode (mC M_X5_tryNames) 38 = .ok (.iload_n 2, 1) := by decide +kernel
theorem DM_X5_tryNames_39 : decode (mC M_X5_tryNames) 39 = .ok (.iload 5, 2) := by decide +kernel
theorem DM_X5_tryNames_41 : decode (mC M_X5_tryNames) 41 = .ok (.invokevirtual 56, 3) := by decide +kernel
theorem DM_X5_tryNames_44 : decode (mC M_X5_tryNames) 44 = .ok (.istore 8, 2) := by decide +kernel
theorem DM_X5_tryNames_46 : decode (mC M_X5_tryNames) 46 = .ok (.iconst 0, 1) := by decide +kernel
theorem DM_X5_tryNames_47 : decode (mC M_X5_tryNames) 47 = .ok (.istore 9, 2) := by decide +kernel
theorem DM_X5_tryNames_49 : decode (mC M_X5_tryNames) 49 = .ok (.iload 9, 2) := by decide +kernel
theorem DM_X5_tryNames_51 : decode (mC M_X5_tryNames) 51 = .ok (.bipush 8, 2) := by decide +kernel
theorem DM_X5_tryNames_53 : decode (mC M_X5_tryNames) 53 = .ok (.if_icmp .ge 64, 3) := by decide +kernel
theorem DM_X5_tryNames_56 : decode (mC M_X5_tryNames) 56 = .ok (.iload 9, 2) := by decide +kernel
theorem DM_X5_tryNames_58 : decode (mC M_X5_tryNames) 58 = .ok (.iload 8, 2) := by decide +kernel
theorem DM_X5_tryNames_60 : decode (mC M_X5_tryNames) 60 = .ok (.if_icmp .ne 8, 3) := by decide +kernel
theorem DM_X5_tryNames_63 : decode (mC M_X5_tryNames) 63 = .ok (.iload 6, 2) := by decide +kernel
theorem DM_X5_tryNames_65 : decode (mC M_X5_tryNames) 65 = .ok (.goto 7, 3) := by decide +kernel
theorem DM_X5_tryNames_68 : decode (mC M_X5_tryNames) 68 = .ok (.iload 6, 2) := by decide +kernel
theorem DM_X5_tryNames_70 : decode (mC M_X5_tryNames) 70 = .ok (.iconst 1, 1) := by decide +kernel
theorem DM_X5_tryNames_71 : decode (mC M_X5_tryNames) 71 = .ok (.isub, 1) := by decide +kernel
theorem DM_X5_tryNames_72 : decode (mC M_X5_tryNames) 72 = .ok (.istore 10, 2) := by decide +kernel
theorem DM_X5_tryNames_74 : decode (mC M_X5_tryNames) 74 = .ok (.iload 10, 2) := by decide +kernel
theorem DM_X5_tryNames_76 : decode (mC M_X5_tryNames) 76 = .ok (.ifCond .lt 35, 3) := by decide +kernel
theorem DM_X5_tryNames_79 : decode (mC M_X5_tryNames) 79 = .ok (.aload_n 0, 1) := by decide +kernel
theorem DM_X5_tryNames_80 : decode (mC M_X5_tryNames) 80 = .ok (.getfield 12, 3) := by decide +kernel
theorem DM_X5_tryNames_83 : decode (mC M_X5_tryNames) 83 = .ok (.iload_n 2, 1) := by decide +kernel
theorem DM_X5_tryNames_84 : decode (mC M_X5_tryNames) 84 = .ok (.iload 5, 2) := by decide +kernel
theorem DM_X5_tryNames_86 : decode (mC M_X5_tryNames) 86 = .ok (.iload 9, 2) := by decide +kernel
theorem DM_X5_tryNames_88 : decode (mC M_X5_tryNames) 88 = .ok (.invokevirtual 49, 3) := by decide +kernel
theorem DM_X5_tryNames_91 : decode (mC M_X5_tryNames) 91 = .ok (.aload_n 0, 1) := by decide +kernel
theorem DM_X5_tryNames_92 : decode (mC M_X5_tryNames) 92 = .ok (.aload_n 1, 1) := by decide +kernel
theorem DM_X5_tryNames_93 : decode (mC M_X5_tryNames) 93 = .ok (.iload_n 2, 1) := by decide +kernel
theorem DM_X5_tryNames_94 : decode (mC M_X5_tryNames) 94 = .ok (.iload_n 3, 1) := by decide +kernel
theorem DM_X5_tryNames_95 : decode (mC M_X5_tryNames) 95 = .ok (.iload 4, 2) := by decide +kernel
theorem DM_X5_tryNames_97 : decode (mC M_X5_tryNames) 97 = .ok (.iload 5, 2) := by decide +kernel
theorem DM_X5_tryNames_99 : decode (mC M_X5_tryNames) 99 = .ok (.iconst 1, 1) := by decide +kernel
theorem DM_X5_tryNames_100 : decode (mC M_X5_tryNames) 100 = .ok (.iadd, 1) := by decide +kernel
theorem DM_X5_tryNames_101 : decode (mC M_X5_tryNames) 101 = .ok (.iload 10, 2) := by decide +kernel
theorem DM_X5_tryNames_103 : decode (mC M_X5_tryNames) 103 = .ok (.invokevirtual 42, 3) := by decide +kernel
theorem DM_X5_tryNames_106 : decode (mC M_X5_tryNames) 106 = .ok (.ifCond .eq 5, 3) := by decide +kernel
theorem DM_X5_tryNames_109 : decode (mC M_X5_tryNames) 109 = .ok (.iconst 1, 1) := by decide +kernel
theorem DM_X5_tryNames_110 : decode (mC M_X5_tryNames) 110 = .ok (.ireturn, 1) := by decide +kernel
theorem DM_X5_tryNames_111 : decode (mC M_X5_tryNames) 111 = .ok (.iinc 9 1, 3) := by decide +kernel
theorem DM_X5_tryNames_114 : decode (mC M_X5_tryNames) 114 = .ok (.goto (-65), 3) := by decide +kernel
theorem DM_X5_tryNames_117 : decode (mC M_X5_tryNames) 117 = .ok (.iconst 0, 1) := by decide +kernel
theorem DM_X5_tryNames_118 : decode (mC M_X5_tryNames) 118 = .ok (.ireturn, 1) := by decide +kernel
theorem DM_X6_init_0 : decode (mC M_X6_init) 0 = .ok (.aload_n 0, 1) := by decide +kernel
theorem DM_X6_init_1 : decode (mC M_X6_init) 1 = .ok (.invokespecial 3, 3) := by decide +kernel
theorem DM_X6_init_4 : decode (mC M_X6_init) 4 = .ok (.aload_n 0, 1) := by decide +kernel
theorem DM_X6_init_5 : decode (mC M_X6_init) 5 = .ok (.bipush 40, 2) := by decide +kernel
theorem DM_X6_init_7 : decode (mC M_X6_init) 7 = .ok (.newarray .int, 2) := by decide +kernel
theorem DM_X6_init_9 : decode (mC M_X6_init) 9 = .ok (.putfield 9, 3) := by decide +kernel
theorem DM_X6_init_12 : decode (mC M_X6_init) 12 = .ok (.aload_n 0, 1) := by decide +kernel
theorem DM_X6_init_13 : decode (mC M_X6_init) 13 = .ok (.iconst (-1), 1) := by decide +kernel
theorem DM_X6_init_14 : decode (mC M_X6_init) 14 = .ok (.putfield 15, 3) := by decide +kernel
theorem DM_X6_init_17 : decode (mC M_X6_init) 17 = .ok (.return_, 1) := by decide +kernel
theorem DM_X6_isMissing_0 : decode (mC M_X6_isMissing) 0 = .ok (.aload_n 0, 1) := by decide +kernel
theorem DM_X6_isMissing_1 : decode (mC M_X6_isMissing) 1 = .ok (.getfield 15, 3) := by decide +kernel
theorem DM_X6_isMissing_4 : decode (mC M_X6_isMissing) 4 = .ok (.iconst (-1), 1) := by decide +kernel
theorem DM_X6_isMissing_5 : decode (mC M_X6_isMissing) 5 = .ok (.if_icmp .ne 7, 3) := by decide +kernel
theorem DM_X6_isMissing_8 : decode (mC M_X6_isMissing) 8 = .ok (.iconst 1, 1) := by decide +kernel
theorem DM_X6_isMissing_9 : decode (mC M_X6_isMissing) 9 = .ok (.goto 4, 3) := by decide +kernel
theorem DM_X6_isMissing_12 : decode (mC M_X6_isMissing) 12 = .ok (.iconst 0, 1) := by decide +kernel
theorem DM_X6_isMissing_13 : decode (mC M_X6_isMissing) 13 = .ok (.ireturn, 1) := by decide +kernel
theorem DM_X6_begin_0 : decode (mC M_X6_begin) 0 = .ok (.aload_n 0, 1) := by decide +kernel
theorem DM_X6_begin_1 : decode (mC M_X6_begin) 1 = .ok (.iload_n 1, 1) := by decide +kernel
theorem DM_X6_begin_2 : decode (mC M_X6_begin) 2 = .ok (.putfield 19, 3) := by decide +kernel
theorem DM_X6_begin_5 : decode (mC M_X6_begin) 5 = .ok (.aload_n 0, 1) := by decide +kernel
theorem DM_X6_begin_6 : decode (mC M_X6_begin) 6 = .ok (.iload_n 2, 1) := by decide +kernel
theorem DM_X6_begin_7 : decode (mC M_X6_begin) 7 = .ok (.putfield 15, 3) := by decide +kernel
theorem DM_X6_begin_10 : decode (mC M_X6_begin) 10 = .ok (.iconst 0, 1) := by decide +kernel
theorem DM_X6_begin_11 : decode (mC M_X6_begin) 11 = .ok (.istore_n 3, 1) := by decide +kernel
theorem DM_X6_begin_12 : decode (mC M_X6_begin) 12 = .ok (.iload_n 3, 1) := by decide +kernel
theorem DM_X6_begin_13 : decode (mC M_X6_begin) 13 = .ok (.bipush 40, 2) := by decide +kernel
theorem DM_X6_begin_15 : decode (mC M_X6_begin) 15 = .ok (.if_icmp .ge 16, 3) := by decide +kernel
theorem DM_X6_begin_18 : decode (mC M_X6_begin) 18 = .ok (.aload_n 0, 1) := by decide +kernel
theorem DM_X6_begin_19 : decode (mC M_X6_begin) 19 = .ok (.getfield 9, 3) := by decide +kernel
theorem DM_X6_begin_22 : decode (mC M_X6_begin) 22 = .ok (.iload_n 3, 1) := by decide +kernel
theorem DM_X6_begin_23 : decode (mC M_X6_begin) 23 = .ok (.iconst 0, 1) := by decide +kernel
theorem DM_X6_begin_24 : decode (mC M_X6_begin) 24 = .ok (.iastore, 1) := by decide +kernel
theorem DM_X6_begin_25 : decode (mC M_X6_begin) 25 = .ok (.iinc 3 1, 3) := by decide +kernel
theorem DM_X6_begin_28 : decode (mC M_X6_begin) 28 = .ok (.goto (-16), 3) := by decide +kernel
theorem DM_X6_begin_31 : decode (mC M_X6_begin) 31 = .ok (.return_, 1) := by decide +kernel
theorem DM_X6_cut_0 : decode (mC M_X6_cut) 0 = .ok (.aload_n 0, 1) := by decide +kernel
theorem DM_X6_cut_1 : decode (mC M_X6_cut) 1 = .ok (.getfield 19, 3) := by decide +kernel
theorem DM_X6_cut_4 : decode (mC M_X6_cut) 4 = .ok (.lookupswitch 34 #[(0, 28), (1, 31)], 28) := by decide +kernel
theorem DM_X6_cut_32 : decode (mC M_X6_cut) 32 = .ok (.iload_n 1, 1) := by decide +kernel
theorem DM_X6_cut_33 : decode (mC M_X6_cut) 33 = .ok (.i2b, 1) := by decide +kernel
theorem DM_X6_cut_34 : decode (mC M_X6_cut) 34 = .ok (.ireturn, 1) := by decide +kernel
theorem DM_X6_cut_35 : decode (mC M_X6_cut) 35 = .ok (.iload_n 1, 1) := by decide +kernel
theorem DM_X6_cut_36 : decode (mC M_X6_cut) 36 = .ok (.i2s, 1) := by decide +kernel
theorem DM_X6_cut_37 : decode (mC M_X6_cut) 37 = .ok (.ireturn, 1) := by decide +kernel
theorem DM_X6_cut_38 : decode (mC M_X6_cut) 38 = .ok (.iload_n 1, 1) := by decide +kernel
theorem DM_X6_cut_39 : decode (mC M_X6_cut) 39 = .ok (.ireturn, 1) := by decide +kernel
theorem DM_X6_hasRange_0 : decode (mC M_X6_hasRange) 0 = .ok (.iload_n 2, 1) := by decide +kernel
theorem DM_X6_hasRange_1 : decode (mC M_X6_hasRange) 1 = .ok (.ifCond .lt 21, 3) := by decide +kernel
theorem DM_X6_hasRange_4 : decode (mC M_X6_hasRange) 4 = .ok (.iload_n 1, 1) := by decide +kernel
theorem DM_X6_hasRange_5 : decode (mC M_X6_hasRange) 5 = .ok (.ifCond .lt 17, 3) := by decide +kernel
theorem DM_X6_hasRange_8 : decode (mC M_X6_hasRange) 8 = .ok (.iload_n 1, 1) := by decide +kernel
theorem DM_X6_hasRange_9 : decode (mC M_X6_hasRange) 9 = .ok (.aload_n 0, 1) := by decide +kernel
theorem DM_X6_hasRange_10 : decode (mC M_X6_hasRange) 10 = .ok (.getfield 15, 3) := by decide +kernel
theorem DM_X6_hasRange_13 : decode (mC M_X6_hasRange) 13 = .ok (.iload_n 2, 1) := by decide +kernel
theorem DM_X6_hasRange_14 : decode (mC M_X6_hasRange) 14 = .ok (.isub, 1) := by decide +kernel
theorem DM_X6_hasRange_15 : decode (mC M_X6_hasRange) 15 = .ok (.if_icmp .gt 7, 3) := by decide +kernel
theorem DM_X6_hasRange_18 : decode (mC M_X6_hasRange) 18 = .ok (.iconst 1, 1) := by decide +kernel
theorem DM_X6_hasRange_19 : decode (mC M_X6_hasRange) 19 = .ok (.goto 4, 3) := by decide +kernel
theorem DM_X6_hasRange_22 : decode (mC M_X6_hasRange) 22 = .ok (.iconst 0, 1) := by decide +kernel
theorem DM_X6_hasRange_23 : decode (mC M_X6_hasRange) 23 = .ok (.ireturn, 1) := by decide +kernel
theorem DM_X7_init_0 : decode (mC M_X7_init) 0 = .ok (.aload_n 0, 1) := by decide +kernel
theorem DM_X7_init_1 : decode (mC M_X7_init) 1 = .ok (.invokespecial 1, 3) := by decide +kernel
theorem DM_X7_init_4 : decode (mC M_X7_init) 4 = .ok (.aload_n 0, 1) := by decide +kernel
theorem DM_X7_init_5 : decode (mC M_X7_init) 5 = .ok (.bipush 8, 2) := by decide +kernel
theorem DM_X7_init_7 : decode (mC M_X7_init) 7 = .ok (.anewarray 9, 3) := by decide +kernel
theorem DM_X7_init_10 : decode (mC M_X7_init) 10 = .ok (.putfield 11, 3) := by decide +kernel
theorem DM_X7_init_13 : decode (mC M_X7_init) 13 = .ok (.aload_n 0, 1) := by decide +kernel
theorem DM_X7_init_14 : decode (mC M_X7_init) 14 = .ok (.new 15, 3) := by decide +kernel
theorem DM_X7_init_17 : decode (mC M_X7_init) 17 = .ok (.dup, 1) := by decide +kernel
theorem DM_X7_init_18 : decode (mC M_X7_init) 18 = .ok (.invokespecial 17, 3) := by decide +kernel
theorem DM_X7_init_21 : decode (mC M_X7_init) 21 = .ok (.putfield 18, 3) := by decide +kernel
theorem DM_X7_init_24 : decode (mC M_X7_init) 24 = .ok (.aload_n 0, 1) := by decide +kernel
theorem DM_X7_init_25 : decode (mC M_X7_init) 25 = .ok (.new 22, 3) := by decide +kernel
theorem DM_X7_init_28 : decode (mC M_X7_init) 28 = .ok (.dup, 1) := by decide +kernel
theorem DM_X7_init_29 : decode (mC M_X7_init) 29 = .ok (.invokespecial 24, 3) := by decide +kernel
theorem DM_X7_init_32 : decode (mC M_X7_init) 32 = .ok (.putfield 25, 3) := by decide +kernel
theorem DM_X7_init_35 : decode (mC M_X7_init) 35 = .ok (.aload_n 0, 1) := by decide +kernel
theorem DM_X7_init_36 : decode (mC M_X7_init) 36 = .ok (.new 22, 3) := by decide +kernel
theorem DM_X7_init_39 : decode (mC M_X7_init) 39 = .ok (.dup, 1) := by decide +kernel
theorem DM_X7_init_40 : decode (mC M_X7_init) 40 = .ok (.invokespecial 24, 3) := by decide +kernel
theorem DM_X7_init_43 : decode (mC M_X7_init) 43 = .ok (.putfield 29, 3) := by decide +kernel
theorem DM_X7_init_46 : decode (mC M_X7_init) 46 = .ok (.aload_n 0, 1) := by decide +kernel
theorem DM_X7_init_47 : decode (mC M_X7_init) 47 = .ok (.iconst 2, 1) := by decide +kernel
theorem DM_X7_init_48 : decode (mC M_X7_init) 48 = .ok (.anewarray 22, 3) := by decide +kernel
theorem DM_X7_init_51 : decode (mC M_X7_init) 51 = .ok (.putfield 32, 3) := by decide +kernel
theorem DM_X7_init_54 : decode (mC M_X7_init) 54 = .ok (.aload_n 0, 1) := by decide +kernel
theorem DM_X7_init_55 : decode (mC M_X7_init) 55 = .ok (.new 36, 3) := by decide +kernel
theorem DM_X7_init_58 : decode (mC M_X7_init) 58 = .ok (.dup, 1) := by decide +kernel
theorem DM_X7_init_59 : decode (mC M_X7_init) 59 = .ok (.invokespecial 38, 3) := by decide +kernel
theorem DM_X7_init_62 : decode (mC M_X7_init) 62 = .ok (.putfield 39, 3) := by decide +kernel
theorem DM_X7_init_65 : decode (mC M_X7_init) 65 = .ok (.aload_n 0, 1) := by decide +kernel
theorem DM_X7_init_66 : decode (mC M_X7_init) 66 = .ok (.new 43, 3) := by decide +kernel
theorem DM_X7_init_69 : decode (mC M_X7_init) 69 = .ok (.dup, 1) := by decide +kernel
theorem DM_X7_init_70 : decode (mC M_X7_init) 70 = .ok (.invokespecial 45, 3) := by decide +kernel
theorem DM_X7_init_73 : decode (mC M_X7_init) 73 = .ok (.putfield 46, 3) := by decide +kernel
theorem DM_X7_init_76 : decode (mC M_X7_init) 76 = .ok (.aload_n 0, 1) := by decide +kernel
theorem DM_X7_init_77 : decode (mC M_X7_init) 77 = .ok (.new 50, 3) := by decide +kernel
theorem DM_X7_init_80 : decode (mC M_X7_init) 80 = .ok (.dup, 1) := by decide +kernel
theorem DM_X7_init_81 : decode (mC M_X7_init) 81 = .ok (.invokespecial 52, 3) := by decide +kernel
theorem DM_X7_init_84 : decode (mC M_X7_init) 84 = .ok (.putfield 53, 3) := by decide +kernel
theorem DM_X7_init_87 : decode (mC M_X7_init) 87 = .ok (.aload_n 0, 1) := by decide +kernel
theorem DM_X7_init_88 : decode (mC M_X7_init) 88 = .ok (.new 57, 3) := by decide +kernel
theorem DM_X7_init_91 : decode (mC M_X7_init) 91 = .ok (.dup, 1) := by decide +kernel
theorem DM_X7_init_92 : decode (mC M_X7_init) 92 = .ok (.invokespecial 59, 3) := by decide +kernel
theorem DM_X7_init_95 : decode (mC M_X7_init) 95 = .ok (.putfield 60, 3) := by decide +kernel
theorem DM_X7_init_98 : decode (mC M_X7_init) 98 = .ok (.iconst 0, 1) := by decide +kernel
theorem DM_X7_init_99 : decode (mC M_X7_init) 99 = .ok (.istore_n 1, 1) := by decide +kernel
theorem DM_X7_init_100 : decode (mC M_X7_init) 100 = .ok (.iload_n 1, 1) := by decide +kernel
theorem DM_X7_init_101 : decode (mC M_X7_init) 101 = .ok (.bipush 8, 2) := by decide +kernel
theorem DM_X7_init_103 : decode (mC M_X7_init) 103 = .ok (.if_icmp .ge 22, 3) := by decide +kernel
theorem DM_X7_init_106 : decode (mC M_X7_init) 106 = .ok (.aload_n 0, 1) := by decide +kernel
theorem DM_X7_init_107 : decode (mC M_X7_init) 107 = .ok (.getfield 11, 3) := by decide +kernel
theorem DM_X7_init_110 : decode (mC M_X7_init) 110 = .ok (.iload_n 1, 1) := by decide +kernel
theorem DM_X7_init_111 : decode (mC M_X7_init) 111 = .ok (.new 9, 3) := by decide +kernel
theorem DM_X7_init_114 : decode (mC M_X7_init) 114 = .ok (.dup, 1) := by decide +kernel
theorem DM_X7_init_115 : decode (mC M_X7_init) 115 = .ok (.invokespecial 64, 3) := by decide +kernel
theorem DM_X7_init_118 : decode (mC M_X7_init) 118 = .ok (.aastore, 1) := by decide +kernel
theorem DM_X7_init_119 : decode (mC M_X7_init) 119 = .ok (.iinc 1 1, 3) := by decide +kernel
theorem DM_X7_init_122 : decode (mC M_X7_init) 122 = .ok (.goto (-22), 3) := by decide +kernel
theorem DM_X7_init_125 : decode (mC M_X7_init) 125 = .ok (.iconst 0, 1) := by decide +kernel
theorem DM_X7_init_126 : decode (mC M_X7_init) 126 = .ok (.istore_n 1, 1) := by decide +kernel
theorem DM_X7_init_127 : decode (mC M_X7_init) 127 = .ok (.iload_n 1, 1) := by decide +kernel
theorem DM_X7_init_128 : decode (mC M_X7_init) 128 = .ok (.iconst 2, 1) := by decide +kernel
theorem DM_X7_init_129 : decode (mC M_X7_init) 129 = .ok (.if_icmp .ge 22, 3) := by decide +kernel
theorem DM_X7_init_132 : decode (mC M_X7_init) 132 = .ok (.aload_n 0, 1) := by decide +kernel
theorem DM_X7_init_133 : decode (mC M_X7_init) 133 = .ok (.getfield 32, 3) := by decide +kernel
theorem DM_X7_init_136 : decode (mC M_X7_init) 136 = .ok (.iload_n 1, 1) := by decide +kernel
theorem DM_X7_init_137 : decode (mC M_X7_init) 137 = .ok (.new 22, 3) := by decide +kernel
theorem DM_X7_init_140 : decode (mC M_X7_init) 140 = .ok (.dup, 1) := by decide +kernel
theorem DM_X7_init_141 : decode (mC M_X7_init) 141 = .ok (.invokespecial 24, 3) := by decide +kernel
theorem DM_X7_init_144 : decode (mC M_X7_init) 144 = .ok (.aastore, 1) := by decide +kernel
theorem DM_X7_init_145 : decode (mC M_X7_init) 145 = .ok (.iinc 1 1, 3) := by decide +kernel
theorem DM_X7_init_148 : decode (mC M_X7_init) 148 = .ok (.goto (-21), 3) := by decide +kernel
theorem DM_X7_init_151 : decode (mC M_X7_init) 151 = .ok (.return_, 1) := by decide +kernel
theorem DM_X7_row_0 : decode (mC M_X7_row) 0 = .ok (.iload_n 1, 1) := by decide +kernel
theorem DM_X7_row_1 : decode (mC M_X7_row) 1 = .ok (.bipush 8, 2) := by decide +kernel
theorem DM_X7_row_3 : decode (mC M_X7_row) 3 = .ok (.invokestatic 65, 3) := by decide +kernel
theorem DM_X7_row_6 : decode (mC M_X7_row) 6 = .ok (.ifCond .eq 17, 3) := by decide +kernel
theorem DM_X7_row_9 : decode (mC M_X7_row) 9 = .ok (.iload_n 2, 1) := by decide +kernel
theorem DM_X7_row_10 : decode (mC M_X7_row) 10 = .ok (.iconst 3, 1) := by decide +kernel
theorem DM_X7_row_11 : decode (mC M_X7_row) 11 = .ok (.invokestatic 65, 3) := by decide +kernel
theorem DM_X7_row_14 : decode (mC M_X7_row) 14 = .ok (.ifCond .eq 9, 3) := by decide +kernel
theorem DM_X7_row_17 : decode (mC M_X7_row) 17 = .ok (.iload_n 3, 1) := by decide +kernel
theorem DM_X7_row_18 : decode (mC M_X7_row) 18 = .ok (.bipush 40, 2) := by decide +kernel
theorem DM_X7_row_20 : decode (mC M_X7_row) 20 = .ok (.if_icmp .le 6, 3) := by decide +kernel
theorem DM_X7_row_23 : decode (mC M_X7_row) 23 = .ok (.ldc 69, 2) := by decide +kernel
theorem DM_X7_row_25 : decode (mC M_X7_row) 25 = .ok (.ireturn, 1) := by decide +kernel
theorem DM_X7_row_26 : decode (mC M_X7_row) 26 = .ok (.iload_n 3, 1) := by decide +kernel
theorem DM_X7_row_27 : decode (mC M_X7_row) 27 = .ok (.ifCond .ge 9, 3) := by decide +kernel
theorem DM_X7_row_30 : decode (mC M_X7_row) 30 = .ok (.aload_n 0, 1) := by decide +kernel
theorem DM_X7_row_31 : decode (mC M_X7_row) 31 = .ok (.iconst 4, 1) := by decide +kernel
theorem DM_X7_row_32 : decode (mC M_X7_row) 32 = .ok (.invokevirtual 70, 3) := by decide +kernel
theorem DM_X7_row_35 : decode (mC M_X7_row) 35 = .ok (.ireturn, 1) := by decide +kernel
theorem DM_X7_row_36 : decode (mC M_X7_row) 36 = .ok (.aload_n 0, 1) := by decide +kernel
theorem DM_X7_row_37 : decode (mC M_X7_row) 37 = .ok (.getfield 11, 3) := by decide +kernel
theorem DM_X7_row_40 : decode (mC M_X7_row) 40 = .ok (.iload_n 1, 1) := by decide +kernel
theorem DM_X7_row_41 : decode (mC M_X7_row) 41 = .ok (.aaload, 1) := by decide +kernel
theorem DM_X7_row_42 : decode (mC M_X7_row) 42 = .ok (.iload_n 2, 1) := by decide +kernel
theorem DM_X7_row_43 : decode (mC M_X7_row) 43 = .ok (.iload_n 3, 1) := by decide +kernel
theorem DM_X7_row_44 : decode (mC M_X7_row) 44 = .ok (.invokevirtual 74, 3) := by decide +kernel
theorem DM_X7_row_47 : decode (mC M_X7_row) 47 = .ok (.aload_n 0, 1) := by decide +kernel
theorem DM_X7_row_48 : decode (mC M_X7_row) 48 = .ok (.iload_n 3, 1) := by decide +kernel
theorem DM_X7_row_49 : decode (mC M_X7_row) 49 = .ok (.invokevirtual 78, 3) := by decide +kernel
theorem DM_X7_row_52 : decode (mC M_X7_row) 52 = .ok (.ireturn, 1) := by decide +kernel
theorem DM_X7_set_0 : decode (mC M_X7_set) 0 = .ok (.iload_n 1, 1) := by decide +kernel
theorem DM_X7_set_1 : decode (mC M_X7_set) 1 = .ok (.bipush 8, 2) := by decide +kernel
theorem DM_X7_set_3 : decode (mC M_X7_set) 3 = .ok (.invokestatic 65, 3) := by decide +kernel
theorem DM_X7_set_6 : decode (mC M_X7_set) 6 = .ok (.ifCond .ne 6, 3) := by decide +kernel
theorem DM_X7_set_9 : decode (mC M_X7_set) 9 = .ok (.ldc 69, 2) := by decide +kernel
theorem DM_X7_set_11 : decode (mC M_X7_set) 11 = .ok (.ireturn, 1) := by decide +kernel
theorem DM_X7_set_12 : decode (mC M_X7_set) 12 = .ok (.aload_n 0, 1) := by decide +kernel
theorem DM_X7_set_13 : decode (mC M_X7_set) 13 = .ok (.getfield 11, 3) := by decide +kernel
theorem DM_X7_set_16 : decode (mC M_X7_set) 16 = .ok (.iload_n 1, 1) := by decide +kernel
theorem DM_X7_set_17 : decode (mC M_X7_set) 17 = .ok (.aaload, 1) := by decide +kernel
theorem DM_X7_set_18 : decode (mC M_X7_set) 18 = .ok (.astore 4, 2) := by decide +kernel
theorem DM_X7_set_20 : decode (mC M_X7_set) 20 = .ok (.aload 4, 2) := by decide +kernel
theorem DM_X7_set_22 : decode (mC M_X7_set) 22 = .ok (.invokevirtual 81, 3) := by decide +kernel
theorem DM_X7_set_25 : decode (mC M_X7_set) 25 = .ok (.ifCond .eq 9, 3) := by decide +kernel
theorem DM_X7_set_28 : decode (mC M_X7_set) 28 = .ok (.aload_n 0, 1) := by decide +kernel
theorem DM_X7_set_29 : decode (mC M_X7_set) 29 = .ok (.iconst 1, 1) := by decide +kernel
theorem DM_X7_set_30 : decode (mC M_X7_set) 30 = .ok (.invokevirtual 70, 3) := by decide +kernel
theorem DM_X7_set_33 : decode (mC M_X7_set) 33 = .ok (.ireturn, 1) := by decide +kernel
theorem DM_X7_set_34 : decode (mC M_X7_set) 34 = .ok (.iload_n 2, 1) := by decide +kernel
theorem DM_X7_set_35 : decode (mC M_X7_set) 35 = .ok (.aload 4, 2) := by decide +kernel
theorem DM_X7_set_37 : decode (mC M_X7_set) 37 = .ok (.getfield 85, 3) := by decide +kernel
theorem DM_X7_set_40 : decode (mC M_X7_set) 40 = .ok (.invokestatic 65, 3) := by decide +kernel
theorem DM_X7_set_43 : decode (mC M_X7_set) 43 = .ok (.ifCond .ne 9, 3) := by decide +kernel
theorem DM_X7_set_46 : decode (mC M_X7_set) 46 = .ok (.aload_n 0, 1) := by decide +kernel
theorem DM_X7_set_47 : decode (mC M_X7_set) 47 = .ok (.iconst 2, 1) := by decide +kernel
theorem DM_X7_set_48 : decode (mC M_X7_set) 48 = .ok (.invokevirtual 70, 3) := by decide +kernel
theorem DM_X7_set_51 : decode (mC M_X7_set) 51 = .ok (.ireturn, 1) := by decide +kernel
theorem DM_X7_set_52 : decode (mC M_X7_set) 52 = .ok (.aload 4, 2) := by decide +kernel
theorem DM_X7_set_54 : decode (mC M_X7_set) 54 = .ok (.getfield 89, 3) := by decide +kernel
theorem DM_X7_set_57 : decode (mC M_X7_set) 57 = .ok (.iload_n 2, 1) := by decide +kernel
theorem DM_X7_set_58 : decode (mC M_X7_set) 58 = .ok (.aload 4, 2) := by decide +kernel
theorem DM_X7_set_60 : decode (mC M_X7_set) 60 = .ok (.iload_n 3, 1) := by decide +kernel
theorem DM_X7_set_61 : decode (mC M_X7_set) 61 = .ok (.invokevirtual 93, 3) := by decide +kernel
theorem DM_X7_set_64 : decode (mC M_X7_set) 64 = .ok (.iastore, 1) := by decide +kernel
theorem DM_X7_set_65 : decode (mC M_X7_set) 65 = .ok (.aload_n 0, 1) := by decide +kernel
theorem DM_X7_set_66 : decode (mC M_X7_set) 66 = .ok (.aload 4, 2) := by decide +kernel
theorem DM_X7_set_68 : decode (mC M_X7_set) 68 = .ok (.getfield 89, 3) := by decide +kernel
theorem DM_X7_set_71 : decode (mC M_X7_set) 71 = .ok (.iload_n 2, 1) := by decide +kernel
theorem DM_X7_set_72 : decode (mC M_X7_set) 72 = .ok (.iaload, 1) := by decide +kernel
theorem DM_X7_set_73 : decode (mC M_X7_set) 73 = .ok (.invokevirtual 78, 3) := by decide +kernel
theorem DM_X7_set_76 : decode (mC M_X7_set) 76 = .ok (.ireturn, 1) := by decide +kernel
theorem DM_X7_copy_0 : decode (mC M_X7_copy) 0 = .ok (.iload_n 1, 1) := by decide +kernel
theorem DM_X7_copy_1 : decode (mC M_X7_copy) 1 = .ok (.bipush 8, 2) := by decide +kernel
theorem DM_X7_copy_3 : decode (mC M_X7_copy) 3 = .ok (.invokestatic 65, 3) := by decide +kernel
theorem DM_X7_copy_6 : decode (mC M_X7_copy) 6 = .ok (.ifCond .eq 12, 3) := by decide +kernel
theorem DM_X7_copy_9 : decode (mC M_X7_copy) 9 = .ok (.iload_n 3, 1) := by decide +kernel
theorem DM_X7_copy_10 : decode (mC M_X7_copy) 10 = .ok (.bipush 8, 2) := by decide +kernel
theorem DM_X7_copy_12 : decode (mC M_X7_copy) 12 = .ok (.invokestatic 65, 3) := by decide +kernel
theorem DM_X7_copy_15 : decode (mC M_X7_copy) 15 = .ok (.ifCond .ne 6, 3) := by decide +kernel
theorem DM_X7_copy_18 : decode (mC M_X7_copy) 18 = .ok (.ldc 69, 2) := by decide +kernel
theorem DM_X7_copy_20 : decode (mC M_X7_copy) 20 = .ok (.ireturn, 1) := by decide +kernel
theorem DM_X7_copy_21 : decode (mC M_X7_copy) 21 = .ok (.aload_n 0, 1) := by decide +kernel
theorem DM_X7_copy_22 : decode (mC M_X7_copy) 22 = .ok (.getfield 11, 3) := by decide +kernel
theorem DM_X7_copy_25 : decode (mC M_X7_copy) 25 = .ok (.iload_n 1, 1) := by decide +kernel
theorem DM_X7_copy_26 : decode (mC M_X7_copy) 26 = .ok (.aaload, 1) := by decide +kernel
theorem DM_X7_copy_27 : decode (mC M_X7_copy) 27 = .ok (.astore 6, 2) := by decide +kernel
theorem DM_X7_copy_29 : decode (mC M_X7_copy) 29 = .ok (.aload_n 0, 1) := by decide +kernel
theorem DM_X7_copy_30 : decode (mC M_X7_copy) 30 = .ok (.getfield 11, 3) := by decide +kernel
theorem DM_X7_copy_33 : decode (mC M_X7_copy) 33 = .ok (.iload_n 3, 1) := by decide +kernel
theorem DM_X7_copy_34 : decode (mC M_X7_copy) 34 = .ok (.aaload, 1) := by decide +kernel
theorem DM_X7_copy_35 : decode (mC M_X7_copy) 35 = .ok (.astore 7, 2) := by decide +kernel
theorem DM_X7_copy_37 : decode (mC M_X7_copy) 37 = .ok (.aload 6, 2) := by decide +kernel
theorem DM_X7_copy_39 : decode (mC M_X7_copy) 39 = .ok (.invokevirtual 81, 3) := by decide +kernel
theorem DM_X7_copy_42 : decode (mC M_X7_copy) 42 = .ok (.ifCond .ne 11, 3) := by decide +kernel
theorem DM_X7_copy_45 : decode (mC M_X7_copy) 45 = .ok (.aload 7, 2) := by decide +kernel
theorem DM_X7_copy_47 : decode (mC M_X7_copy) 47 = .ok (.invokevirtual 81, 3) := by decide +kernel
theorem DM_X7_copy_50 : decode (mC M_X7_copy) 50 = .ok (.ifCond .eq 9, 3) := by decide +kernel
theorem DM_X7_copy_53 : decode (mC M_X7_copy) 53 = .ok (.aload_n 0, 1) := by decide +kernel
theorem DM_X7_copy_54 : decode (mC M_X7_copy) 54 = .ok (.iconst 1, 1) := by decide +kernel
theorem DM_X7_copy_55 : decode (mC M_X7_copy) 55 = .ok (.invokevirtual 70, 3) := by decide +kernel
theorem DM_X7_copy_58 : decode (mC M_X7_copy) 58 = .ok (.ireturn, 1) := by decide +kernel
theorem DM_X7_copy_59 : decode (mC M_X7_copy) 59 = .ok (.aload 6, 2) := by decide +kernel
theorem DM_X7_copy_61 : decode (mC M_X7_copy) 61 = .ok (.getfield 96, 3) := by decide +kernel
theorem DM_X7_copy_64 : decode (mC M_X7_copy) 64 = .ok (.aload 7, 2) := by decide +kernel
theorem DM_X7_copy_66 : decode (mC M_X7_copy) 66 = .ok (.getfield 96, 3) := by decide +kernel
theorem DM_X7_copy_69 : decode (mC M_X7_copy) 69 = .ok (.if_icmp .eq 9, 3) := by decide +kernel
theorem DM_X7_copy_72 : decode (mC M_X7_copy) 72 = .ok (.aload_n 0, 1) := by decide +kernel
theorem DM_X7_copy_73 : decode (mC M_X7_copy) 73 = .ok (.iconst 5, 1) := by decide +kernel
theorem DM_X7_copy_74 : decode (mC M_X7_copy) 74 = .ok (.invokevirtual 70, 3) := by decide +kernel
theorem DM_X7_copy_77 : decode (mC M_X7_copy) 77 = .ok (.ireturn, 1) := by decide +kernel
theorem DM_X7_copy_78 : decode (mC M_X7_copy) 78 = .ok (.aload 6, 2) := by decide +kernel
theorem DM_X7_copy_80 : decode (mC M_X7_copy) 80 = .ok (.iload_n 2, 1) := by decide +kernel
theorem DM_X7_copy_81 : decode (mC M_X7_copy) 81 = .ok (.iload 5, 2) := by decide +kernel
theorem DM_X7_copy_83 : decode (mC M_X7_copy) 83 = .ok (.invokevirtual 99, 3) := by decide +kernel
theorem DM_X7_copy_86 : decode (mC M_X7_copy) 86 = .ok (.ifCond .eq 15, 3) := by decide +kernel
theorem DM_X7_copy_89 : decode (mC M_X7_copy) 89 = .ok (.aload 7, 2) := by decide +kernel
theorem DM_X7_copy_91 : decode (mC M_X7_copy) 91 = .ok (.iload 4, 2) := by decide +kernel
theorem DM_X7_copy_93 : decode (mC M_X7_copy) 93 = .ok (.iload 5, 2) := by decide +kernel
theorem DM_X7_copy_95 : decode (mC M_X7_copy) 95 = .ok (.invokevirtual 99, 3) := by decide +kernel
theorem DM_X7_copy_98 : decode (mC M_X7_copy) 98 = .ok (.ifCond .ne 9, 3) := by decide +kernel
theorem DM_X7_copy_101 : decode (mC M_X7_copy) 101 = .ok (.aload_n 0, 1) := by decide +kernel
theorem DM_X7_copy_102 : decode (mC M_X7_copy) 102 = .ok (.iconst 2, 1) := by decide +kernel
theorem DM_X7_copy_103 : decode (mC M_X7_copy) 103 = .ok (.invokevirtual 70, 3) := by decide +kernel
theorem DM_X7_copy_106 : decode (mC M_X7_copy) 106 = .ok (.ireturn, 1) := by decide +kernel
theorem DM_X7_copy_107 : decode (mC M_X7_copy) 107 = .ok (.aload 6, 2) := by decide +kernel
theorem DM_X7_copy_109 : decode (mC M_X7_copy) 109 = .ok (.getfield 89, 3) := by decide +kernel
theorem DM_X7_copy_112 : decode (mC M_X7_copy) 112 = .ok (.iload_n 2, 1) := by decide +kernel
theorem DM_X7_copy_113 : decode (mC M_X7_copy) 113 = .ok (.aload 7, 2) := by decide +kernel
theorem DM_X7_copy_115 : decode (mC M_X7_copy) 115 = .ok (.getfield 89, 3) := by decide +kernel
theorem DM_X7_copy_118 : decode (mC M_X7_copy) 118 = .ok (.iload 4, 2) := by decide +kernel
theorem DM_X7_copy_120 : decode (mC M_X7_copy) 120 = .ok (.iload 5, 2) := by decide +kernel
theorem DM_X7_copy_122 : decode (mC M_X7_copy) 122 = .ok (.invokestatic 102, 3) := by decide +kernel
theorem DM_X7_copy_125 : decode (mC M_X7_copy) 125 = .ok (.aload_n 0, 1) := by decide +kernel
theorem DM_X7_copy_126 : decode (mC M_X7_copy) 126 = .ok (.iload 5, 2) := by decide +kernel
theorem DM_X7_copy_128 : decode (mC M_X7_copy) 128 = .ok (.invokevirtual 78, 3) := by decide +kernel
theorem DM_X7_copy_131 : decode (mC M_X7_copy) 131 = .ok (.ireturn, 1) := by decide +kernel
theorem DM_X7_drop_0 : decode (mC M_X7_drop) 0 = .ok (.iload_n 1, 1) := by decide +kernel
theorem DM_X7_drop_1 : decode (mC M_X7_drop) 1 = .ok (.bipush 8, 2) := by decide +kernel
theorem DM_X7_drop_3 : decode (mC M_X7_drop) 3 = .ok (.invokestatic 65, 3) := by decide +kernel
theorem DM_X7_drop_6 : decode (mC M_X7_drop) 6 = .ok (.ifCond .ne 6, 3) := by decide +kernel
theorem DM_X7_drop_9 : decode (mC M_X7_drop) 9 = .ok (.ldc 69, 2) := by decide +kernel
theorem DM_X7_drop_11 : decode (mC M_X7_drop) 11 = .ok (.ireturn, 1) := by decide +kernel
theorem DM_X7_drop_12 : decode (mC M_X7_drop) 12 = .ok (.aload_n 0, 1) := by decide +kernel
theorem DM_X7_drop_13 : decode (mC M_X7_drop) 13 = .ok (.getfield 11, 3) := by decide +kernel
theorem DM_X7_drop_16 : decode (mC M_X7_drop) 16 = .ok (.iload_n 1, 1) := by decide +kernel
theorem DM_X7_drop_17 : decode (mC M_X7_drop) 17 = .ok (.aaload, 1) := by decide +kernel
theorem DM_X7_drop_18 : decode (mC M_X7_drop) 18 = .ok (.astore_n 2, 1) := by decide +kernel
theorem DM_X7_drop_19 : decode (mC M_X7_drop) 19 = .ok (.aload_n 2, 1) := by decide +kernel
theorem DM_X7_drop_20 : decode (mC M_X7_drop) 20 = .ok (.invokevirtual 81, 3) := by decide +kernel
theorem DM_X7_drop_23 : decode (mC M_X7_drop) 23 = .ok (.ifCond .eq 9, 3) := by decide +kernel
theorem DM_X7_drop_26 : decode (mC M_X7_drop) 26 = .ok (.aload_n 0, 1) := by decide +kernel
theorem DM_X7_drop_27 : decode (mC M_X7_drop) 27 = .ok (.iconst 1, 1) := by decide +kernel
theorem DM_X7_drop_28 : decode (mC M_X7_drop) 28 = .ok (.invokevirtual 70, 3) := by decide +kernel
theorem DM_X7_drop_31 : decode (mC M_X7_drop) 31 = .ok (.ireturn, 1) := by decide +kernel
theorem DM_X7_drop_32 : decode (mC M_X7_drop) 32 = .ok (.aload_n 2, 1) := by decide +kernel
theorem DM_X7_drop_33 : decode (mC M_X7_drop) 33 = .ok (.getfield 85, 3) := by decide +kernel
theorem DM_X7_drop_36 : decode (mC M_X7_drop) 36 = .ok (.istore_n 3, 1) := by decide +kernel
theorem DM_X7_drop_37 : decode (mC M_X7_drop) 37 = .ok (.aload_n 2, 1) := by decide +kernel
theorem DM_X7_drop_38 : decode (mC M_X7_drop) 38 = .ok (.iconst (-1), 1) := by decide +kernel
theorem DM_X7_drop_39 : decode (mC M_X7_drop) 39 = .ok (.putfield 85, 3) := by decide +kernel
theorem DM_X7_drop_42 : decode (mC M_X7_drop) 42 = .ok (.aload_n 0, 1) := by decide +kernel
theorem DM_X7_drop_43 : decode (mC M_X7_drop) 43 = .ok (.iload_n 3, 1) := by decide +kernel
theorem DM_X7_drop_44 : decode (mC M_X7_drop) 44 = .ok (.invokevirtual 78, 3) := by decide +kernel
theorem DM_X7_drop_47 : decode (mC M_X7_drop) 47 = .ok (.ireturn, 1) := by decide +kernel
theorem DM_X7_feed_0 : decode (mC M_X7_feed) 0 = .ok (.iload_n 1, 1) := by decide +kernel
theorem DM_X7_feed_1 : decode (mC M_X7_feed) 1 = .ok (.sipush 256, 3) := by decide +kernel
theorem DM_X7_feed_4 : decode (mC M_X7_feed) 4 = .ok (.invokestatic 65, 3) := by decide +kernel
theorem DM_X7_feed_7 : decode (mC M_X7_feed) 7 = .ok (.ifCond .ne 6, 3) := by decide +kernel
theorem DM_X7_feed_10 : decode (mC M_X7_feed) 10 = .ok (.ldc 69, 2) := by decide +kernel
theorem DM_X7_feed_12 : decode (mC M_X7_feed) 12 = .ok (.ireturn, 1) := by decide +kernel
theorem DM_X7_feed_13 : decode (mC M_X7_feed) 13 = .ok (.aload_n 0, 1) := by decide +kernel
theorem DM_X7_feed_14 : decode (mC M_X7_feed) 14 = .ok (.getfield 18, 3) := by decide +kernel
theorem DM_X7_feed_17 : decode (mC M_X7_feed) 17 = .ok (.getfield 108, 3) := by decide +kernel
theorem DM_X7_feed_20 : decode (mC M_X7_feed) 20 = .ok (.bipush 120, 2) := by decide +kernel
theorem DM_X7_feed_22 : decode (mC M_X7_feed) 22 = .ok (.if_icmp .lt 6, 3) := by decide +kernel
theorem DM_X7_feed_25 : decode (mC M_X7_feed) 25 = .ok (.ldc 111, 2) := by decide +kernel
theorem DM_X7_feed_27 : decode (mC M_X7_feed) 27 = .ok (.ireturn, 1) := by decide +kernel
theorem DM_X7_feed_28 : decode (mC M_X7_feed) 28 = .ok (.aload_n 0, 1) := by decide +kernel
theorem DM_X7_feed_29 : decode (mC M_X7_feed) 29 = .ok (.getfield 18, 3) := by decide +kernel
theorem DM_X7_feed_32 : decode (mC M_X7_feed) 32 = .ok (.iload_n 1, 1) := by decide +kernel
theorem DM_X7_feed_33 : decode (mC M_X7_feed) 33 = .ok (.invokevirtual 112, 3) := by decide +kernel
theorem DM_X7_feed_36 : decode (mC M_X7_feed) 36 = .ok (.aload_n 0, 1) := by decide +kernel
theorem DM_X7_feed_37 : decode (mC M_X7_feed) 37 = .ok (.getfield 18, 3) := by decide +kernel
theorem DM_X7_feed_40 : decode (mC M_X7_feed) 40 = .ok (.getfield 108, 3) := by decide +kernel
theorem DM_X7_feed_43 : decode (mC M_X7_feed) 43 = .ok (.ireturn, 1) := by decide +kernel
theorem DM_X7_court_0 : decode (mC M_X7_court) 0 = .ok (.aload_n 0, 1) := by decide +kernel
theorem DM_X7_court_1 : decode (mC M_X7_court) 1 = .ok (.getfield 18, 3) := by decide +kernel
theorem DM_X7_court_4 : decode (mC M_X7_court) 4 = .ok (.aload_n 0, 1) := by decide +kernel
theorem DM_X7_court_5 : decode (mC M_X7_court) 5 = .ok (.getfield 29, 3) := by decide +kernel
theorem DM_X7_court_8 : decode (mC M_X7_court) 8 = .ok (.invokevirtual 116, 3) := by decide +kernel
theorem DM_X7_court_11 : decode (mC M_X7_court) 11 = .ok (.istore_n 1, 1) := by decide +kernel
theorem DM_X7_court_12 : decode (mC M_X7_court) 12 = .ok (.aload_n 0, 1) := by decide +kernel
theorem DM_X7_court_13 : decode (mC M_X7_court) 13 = .ok (.getfield 18, 3) := by decide +kernel
theorem DM_X7_court_16 : decode (mC M_X7_court) 16 = .ok (.iconst 0, 1) := by decide +kernel
theorem DM_X7_court_17 : decode (mC M_X7_court) 17 = .ok (.putfield 108, 3) := by decide +kernel
theorem DM_X7_court_20 : decode (mC M_X7_court) 20 = .ok (.iload_n 1, 1) := by decide +kernel
theorem DM_X7_court_21 : decode (mC M_X7_court) 21 = .ok (.ifCond .ne 25, 3) := by decide +kernel
theorem DM_X7_court_24 : decode (mC M_X7_court) 24 = .ok (.aload_n 0, 1) := by decide +kernel
theorem DM_X7_court_25 : decode (mC M_X7_court) 25 = .ok (.aload_n 0, 1) := by decide +kernel
theorem DM_X7_court_26 : decode (mC M_X7_court) 26 = .ok (.getfield 18, 3) := by decide +kernel
theorem DM_X7_court_29 : decode (mC M_X7_court) 29 = .ok (.getfield 120, 3) := by decide +kernel
theorem DM_X7_court_32 : decode (mC M_X7_court) 32 = .ok (.putfield 123, 3) := by decide +kernel
theorem DM_X7_court_35 : decode (mC M_X7_court) 35 = .ok (.ldc 126, 2) := by decide +kernel
theorem DM_X7_court_37 : decode (mC M_X7_court) 37 = .ok (.aload_n 0, 1) := by decide +kernel
theorem DM_X7_court_38 : decode (mC M_X7_court) 38 = .ok (.getfield 18, 3) := by decide +kernel
theorem DM_X7_court_41 : decode (mC M_X7_court) 41 = .ok (.getfield 127, 3) := by decide +kernel
theorem DM_X7_court_44 : decode (mC M_X7_court) 44 = .ok (.isub, 1) := by decide +kernel
theorem DM_X7_court_45 : decode (mC M_X7_court) 45 = .ok (.ireturn, 1) := by decide +kernel
theorem DM_X7_court_46 : decode (mC M_X7_court) 46 = .ok (.aload_n 0, 1) := by decide +kernel
theorem DM_X7_court_47 : decode (mC M_X7_court) 47 = .ok (.getfield 25, 3) := by decide +kernel
theorem DM_X7_court_50 : decode (mC M_X7_court) 50 = .ok (.aload_n 0, 1) := by decide +kernel
theorem DM_X7_court_51 : decode (mC M_X7_court) 51 = .ok (.getfield 29, 3) := by decide +kernel
theorem DM_X7_court_54 : decode (mC M_X7_court) 54 = .ok (.invokevirtual 130, 3) := by decide +kernel
theorem DM_X7_court_57 : decode (mC M_X7_court) 57 = .ok (.aload_n 0, 1) := by decide +kernel
theorem DM_X7_court_58 : decode (mC M_X7_court) 58 = .ok (.getfield 39, 3) := by decide +kernel
theorem DM_X7_court_61 : decode (mC M_X7_court) 61 = .ok (.invokevirtual 134, 3) := by decide +kernel
theorem DM_X7_court_64 : decode (mC M_X7_court) 64 = .ok (.aload_n 0, 1) := by decide +kernel
theorem DM_X7_court_65 : decode (mC M_X7_court) 65 = .ok (.getfield 25, 3) := by decide +kernel
theorem DM_X7_court_68 : decode (mC M_X7_court) 68 = .ok (.getfield 137, 3) := by decide +kernel
theorem DM_X7_court_71 : decode (mC M_X7_court) 71 = .ok (.ireturn, 1) := by decide +kernel
theorem DM_X7_fault_0 : decode (mC M_X7_fault) 0 = .ok (.aload_n 0, 1) := by decide +kernel
theorem DM_X7_fault_1 : decode (mC M_X7_fault) 1 = .ok (.getfield 123, 3) := by decide +kernel
theorem DM_X7_fault_4 : decode (mC M_X7_fault) 4 = .ok (.ireturn, 1) := by decide +kernel
theorem DM_X7_days_0 : decode (mC M_X7_days) 0 = .ok (.aload_n 0, 1) := by decide +kernel
theorem DM_X7_days_1 : decode (mC M_X7_days) 1 = .ok (.getfield 25, 3) := by decide +kernel
theorem DM_X7_days_4 : decode (mC M_X7_days) 4 = .ok (.getfield 140, 3) := by decide +kernel
theorem DM_X7_days_7 : decode (mC M_X7_days) 7 = .ok (.ifCond .ne 6, 3) := by decide +kernel
theorem DM_X7_days_10 : decode (mC M_X7_days) 10 = .ok (.ldc 144, 2) := by decide +kernel
theorem DM_X7_days_12 : decode (mC M_X7_days) 12 = .ok (.ireturn, 1) := by decide +kernel
theorem DM_X7_days_13 : decode (mC M_X7_days) 13 = .ok (.iload_n 1, 1) := by decide +kernel
theorem DM_X7_days_14 : decode (mC M_X7_days) 14 = .ok (.iconst 1, 1) := by decide +kernel
theorem DM_X7_days_15 : decode (mC M_X7_days) 15 = .ok (.if_icmp .lt 9, 3) := by decide +kernel
theorem DM_X7_days_18 : decode (mC M_X7_days) 18 = .ok (.iload_n 1, 1) := by decide +kernel
theorem DM_X7_days_19 : decode (mC M_X7_days) 19 = .ok (.bipush 20, 2) := by decide +kernel
theorem DM_X7_days_21 : decode (mC M_X7_days) 21 = .ok (.if_icmp .le 6, 3) := by decide +kernel
theorem DM_X7_days_24 : decode (mC M_X7_days) 24 = .ok (.ldc 69, 2) := by decide +kernel
theorem DM_X7_days_26 : decode (mC M_X7_days) 26 = .ok (.ireturn, 1) := by decide +kernel
theorem DM_X7_days_27 : decode (mC M_X7_days) 27 = .ok (.aload_n 0, 1) := by decide +kernel
theorem DM_X7_days_28 : decode (mC M_X7_days) 28 = .ok (.getfield 25, 3) := by decide +kernel
theorem DM_X7_days_31 : decode (mC M_X7_days) 31 = .ok (.getfield 145, 3) := by decide +kernel
theorem DM_X7_days_34 : decode (mC M_X7_days) 34 = .ok (.iload_n 1, 1) := by decide +kernel
theorem DM_X7_days_35 : decode (mC M_X7_days) 35 = .ok (.iadd, 1) := by decide +kernel
theorem DM_X7_days_36 : decode (mC M_X7_days) 36 = .ok (.sipush 999, 3) := by decide +kernel
theorem DM_X7_days_39 : decode (mC M_X7_days) 39 = .ok (.if_icmp .le 6, 3) := by decide +kernel
theorem DM_X7_days_42 : decode (mC M_X7_days) 42 = .ok (.ldc 111, 2) := by decide +kernel
theorem DM_X7_days_44 : decode (mC M_X7_days) 44 = .ok (.ireturn, 1) := by decide +kernel
theorem DM_X7_days_45 : decode (mC M_X7_days) 45 = .ok (.aload_n 0, 1) := by decide +kernel
theorem DM_X7_days_46 : decode (mC M_X7_days) 46 = .ok (.getfield 25, 3) := by decide +kernel
theorem DM_X7_days_49 : decode (mC M_X7_days) 49 = .ok (.aload_n 0, 1) := by decide +kernel
theorem DM_X7_days_50 : decode (mC M_X7_days) 50 = .ok (.getfield 25, 3) := by decide +kernel
theorem DM_X7_days_53 : decode (mC M_X7_days) 53 = .ok (.getfield 145, 3) := by decide +kernel
theorem DM_X7_days_56 : decode (mC M_X7_days) 56 = .ok (.iload_n 1, 1) := by decide +kernel
theorem DM_X7_days_57 : decode (mC M_X7_days) 57 = .ok (.iadd, 1) := by decide +kernel
theorem DM_X7_days_58 : decode (mC M_X7_days) 58 = .ok (.iconst 0, 1) := by decide +kernel
theorem DM_X7_days_59 : decode (mC M_X7_days) 59 = .ok (.invokevirtual 148, 3) := by decide +kernel
theorem DM_X7_days_62 : decode (mC M_X7_days) 62 = .ok (.aload_n 0, 1) := by decide +kernel
theorem DM_X7_days_63 : decode (mC M_X7_days) 63 = .ok (.getfield 25, 3) := by decide +kernel
theorem DM_X7_days_66 : decode (mC M_X7_days) 66 = .ok (.dup, 1) := by decide +kernel
theorem DM_X7_days_67 : decode (mC M_X7_days) 67 = .ok (.getfield 145, 3) := by decide +kernel
theorem DM_X7_days_70 : decode (mC M_X7_days) 70 = .ok (.iload_n 1, 1) := by decide +kernel
theorem DM_X7_days_71 : decode (mC M_X7_days) 71 = .ok (.iadd, 1) := by decide +kernel
theorem DM_X7_days_72 : decode (mC M_X7_days) 72 = .ok (.putfield 145, 3) := by decide +kernel
theorem DM_X7_days_75 : decode (mC M_X7_days) 75 = .ok (.iconst 0, 1) := by decide +kernel
theorem DM_X7_days_76 : decode (mC M_X7_days) 76 = .ok (.istore_n 2, 1) := by decide +kernel
theorem DM_X7_days_77 : decode (mC M_X7_days) 77 = .ok (.iload_n 2, 1) := by decide +kernel
theorem DM_X7_days_78 : decode (mC M_X7_days) 78 = .ok (.iload_n 1, 1) := by decide +kernel
end
section
theorem DM_X7_days_79 : decode (mC M_X7_days) 79 = .ok (.if_icmp .ge 16, 3) := by decide +kernel
theorem DM_X7_days_82 : decode (mC M_X7_days) 82 = .ok (.aload_n 0, 1) := by decide +kernel
theorem DM_X7_days_83 : decode (mC M_X7_days) 83 = .ok (.getfield 39, 3) := by decide +kernel
theorem DM_X7_days_86 : decode (mC M_X7_days) 86 = .ok (.invokevirtual 151, 3) := by decide +kernel
theorem DM_X7_days_89 : decode (mC M_X7_days) 89 = .ok (.iinc 2 1, 3) := by decide +kernel
theorem DM_X7_days_92 : decode (mC M_X7_days) 92 = .ok (.goto (-15), 3) := by decide +kernel
theorem DM_X7_days_95 : decode (mC M_X7_days) 95 = .ok (.aload_n 0, 1) := by decide +kernel
theorem DM_X7_days_96 : decode (mC M_X7_days) 96 = .ok (.getfield 25, 3) := by decide +kernel
theorem DM_X7_days_99 : decode (mC M_X7_days) 99 = .ok (.iconst 0, 1) := by decide +kernel
theorem DM_X7_days_100 : decode (mC M_X7_days) 100 = .ok (.invokevirtual 154, 3) := by decide +kernel
theorem DM_X7_days_103 : decode (mC M_X7_days) 103 = .ok (.ireturn, 1) := by decide +kernel
theorem DM_X7_forge_0 : decode (mC M_X7_forge) 0 = .ok (.aload_n 0, 1) := by decide +kernel
theorem DM_X7_forge_1 : decode (mC M_X7_forge) 1 = .ok (.iload_n 1, 1) := by decide +kernel
theorem DM_X7_forge_2 : decode (mC M_X7_forge) 2 = .ok (.iload_n 2, 1) := by decide +kernel
theorem DM_X7_forge_3 : decode (mC M_X7_forge) 3 = .ok (.invokevirtual 157, 3) := by decide +kernel
theorem DM_X7_forge_6 : decode (mC M_X7_forge) 6 = .ok (.ifCond .eq 12, 3) := by decide +kernel
theorem DM_X7_forge_9 : decode (mC M_X7_forge) 9 = .ok (.iload_n 3, 1) := by decide +kernel
theorem DM_X7_forge_10 : decode (mC M_X7_forge) 10 = .ok (.bipush 8, 2) := by decide +kernel
theorem DM_X7_forge_12 : decode (mC M_X7_forge) 12 = .ok (.invokestatic 65, 3) := by decide +kernel
theorem DM_X7_forge_15 : decode (mC M_X7_forge) 15 = .ok (.ifCond .ne 6, 3) := by decide +kernel
theorem DM_X7_forge_18 : decode (mC M_X7_forge) 18 = .ok (.ldc 69, 2) := by decide +kernel
theorem DM_X7_forge_20 : decode (mC M_X7_forge) 20 = .ok (.ireturn, 1) := by decide +kernel
theorem DM_X7_forge_21 : decode (mC M_X7_forge) 21 = .ok (.aload_n 0, 1) := by decide +kernel
theorem DM_X7_forge_22 : decode (mC M_X7_forge) 22 = .ok (.getfield 25, 3) := by decide +kernel
theorem DM_X7_forge_25 : decode (mC M_X7_forge) 25 = .ok (.iload_n 1, 1) := by decide +kernel
theorem DM_X7_forge_26 : decode (mC M_X7_forge) 26 = .ok (.iload_n 2, 1) := by decide +kernel
theorem DM_X7_forge_27 : decode (mC M_X7_forge) 27 = .ok (.invokevirtual 160, 3) := by decide +kernel
theorem DM_X7_forge_30 : decode (mC M_X7_forge) 30 = .ok (.istore 4, 2) := by decide +kernel
theorem DM_X7_forge_32 : decode (mC M_X7_forge) 32 = .ok (.aload_n 0, 1) := by decide +kernel
theorem DM_X7_forge_33 : decode (mC M_X7_forge) 33 = .ok (.getfield 25, 3) := by decide +kernel
theorem DM_X7_forge_36 : decode (mC M_X7_forge) 36 = .ok (.getfield 164, 3) := by decide +kernel
theorem DM_X7_forge_39 : decode (mC M_X7_forge) 39 = .ok (.iload_n 1, 1) := by decide +kernel
theorem DM_X7_forge_40 : decode (mC M_X7_forge) 40 = .ok (.iaload, 1) := by decide +kernel
theorem DM_X7_forge_41 : decode (mC M_X7_forge) 41 = .ok (.iconst 3, 1) := by decide +kernel
theorem DM_X7_forge_42 : decode (mC M_X7_forge) 42 = .ok (.if_icmp .ne 27, 3) := by decide +kernel
theorem DM_X7_forge_45 : decode (mC M_X7_forge) 45 = .ok (.aload_n 0, 1) := by decide +kernel
theorem DM_X7_forge_46 : decode (mC M_X7_forge) 46 = .ok (.getfield 25, 3) := by decide +kernel
theorem DM_X7_forge_49 : decode (mC M_X7_forge) 49 = .ok (.iload_n 1, 1) := by decide +kernel
theorem DM_X7_forge_50 : decode (mC M_X7_forge) 50 = .ok (.aload_n 0, 1) := by decide +kernel
theorem DM_X7_forge_51 : decode (mC M_X7_forge) 51 = .ok (.getfield 25, 3) := by decide +kernel
theorem DM_X7_forge_54 : decode (mC M_X7_forge) 54 = .ok (.getfield 145, 3) := by decide +kernel
theorem DM_X7_forge_57 : decode (mC M_X7_forge) 57 = .ok (.invokevirtual 167, 3) := by decide +kernel
theorem DM_X7_forge_60 : decode (mC M_X7_forge) 60 = .ok (.ifCond .eq 9, 3) := by decide +kernel
theorem DM_X7_forge_63 : decode (mC M_X7_forge) 63 = .ok (.iload 4, 2) := by decide +kernel
theorem DM_X7_forge_65 : decode (mC M_X7_forge) 65 = .ok (.iload_n 3, 1) := by decide +kernel
theorem DM_X7_forge_66 : decode (mC M_X7_forge) 66 = .ok (.if_icmp .ne 6, 3) := by decide +kernel
theorem DM_X7_forge_69 : decode (mC M_X7_forge) 69 = .ok (.ldc 144, 2) := by decide +kernel
theorem DM_X7_forge_71 : decode (mC M_X7_forge) 71 = .ok (.ireturn, 1) := by decide +kernel
theorem DM_X7_forge_72 : decode (mC M_X7_forge) 72 = .ok (.aload_n 0, 1) := by decide +kernel
theorem DM_X7_forge_73 : decode (mC M_X7_forge) 73 = .ok (.getfield 25, 3) := by decide +kernel
theorem DM_X7_forge_76 : decode (mC M_X7_forge) 76 = .ok (.iload_n 1, 1) := by decide +kernel
theorem DM_X7_forge_77 : decode (mC M_X7_forge) 77 = .ok (.iload_n 2, 1) := by decide +kernel
theorem DM_X7_forge_78 : decode (mC M_X7_forge) 78 = .ok (.iload_n 3, 1) := by decide +kernel
theorem DM_X7_forge_79 : decode (mC M_X7_forge) 79 = .ok (.invokevirtual 170, 3) := by decide +kernel
theorem DM_X7_forge_82 : decode (mC M_X7_forge) 82 = .ok (.aload_n 0, 1) := by decide +kernel
theorem DM_X7_forge_83 : decode (mC M_X7_forge) 83 = .ok (.getfield 39, 3) := by decide +kernel
theorem DM_X7_forge_86 : decode (mC M_X7_forge) 86 = .ok (.iload_n 1, 1) := by decide +kernel
theorem DM_X7_forge_87 : decode (mC M_X7_forge) 87 = .ok (.iload_n 2, 1) := by decide +kernel
theorem DM_X7_forge_88 : decode (mC M_X7_forge) 88 = .ok (.iload 4, 2) := by decide +kernel
theorem DM_X7_forge_90 : decode (mC M_X7_forge) 90 = .ok (.invokevirtual 174, 3) := by decide +kernel
theorem DM_X7_forge_93 : decode (mC M_X7_forge) 93 = .ok (.iload 4, 2) := by decide +kernel
theorem DM_X7_forge_95 : decode (mC M_X7_forge) 95 = .ok (.ireturn, 1) := by decide +kernel
theorem DM_X7_lose_0 : decode (mC M_X7_lose) 0 = .ok (.aload_n 0, 1) := by decide +kernel
theorem DM_X7_lose_1 : decode (mC M_X7_lose) 1 = .ok (.getfield 25, 3) := by decide +kernel
theorem DM_X7_lose_4 : decode (mC M_X7_lose) 4 = .ok (.getfield 140, 3) := by decide +kernel
theorem DM_X7_lose_7 : decode (mC M_X7_lose) 7 = .ok (.ifCond .ne 6, 3) := by decide +kernel
theorem DM_X7_lose_10 : decode (mC M_X7_lose) 10 = .ok (.ldc 144, 2) := by decide +kernel
theorem DM_X7_lose_12 : decode (mC M_X7_lose) 12 = .ok (.ireturn, 1) := by decide +kernel
theorem DM_X7_lose_13 : decode (mC M_X7_lose) 13 = .ok (.iload_n 1, 1) := by decide +kernel
theorem DM_X7_lose_14 : decode (mC M_X7_lose) 14 = .ok (.bipush 8, 2) := by decide +kernel
theorem DM_X7_lose_16 : decode (mC M_X7_lose) 16 = .ok (.invokestatic 65, 3) := by decide +kernel
theorem DM_X7_lose_19 : decode (mC M_X7_lose) 19 = .ok (.ifCond .eq 11, 3) := by decide +kernel
theorem DM_X7_lose_22 : decode (mC M_X7_lose) 22 = .ok (.iload_n 2, 1) := by decide +kernel
theorem DM_X7_lose_23 : decode (mC M_X7_lose) 23 = .ok (.iconst 2, 1) := by decide +kernel
theorem DM_X7_lose_24 : decode (mC M_X7_lose) 24 = .ok (.invokestatic 65, 3) := by decide +kernel
theorem DM_X7_lose_27 : decode (mC M_X7_lose) 27 = .ok (.ifCond .ne 6, 3) := by decide +kernel
theorem DM_X7_lose_30 : decode (mC M_X7_lose) 30 = .ok (.ldc 69, 2) := by decide +kernel
theorem DM_X7_lose_32 : decode (mC M_X7_lose) 32 = .ok (.ireturn, 1) := by decide +kernel
theorem DM_X7_lose_33 : decode (mC M_X7_lose) 33 = .ok (.aload_n 0, 1) := by decide +kernel
theorem DM_X7_lose_34 : decode (mC M_X7_lose) 34 = .ok (.getfield 25, 3) := by decide +kernel
theorem DM_X7_lose_37 : decode (mC M_X7_lose) 37 = .ok (.getfield 177, 3) := by decide +kernel
theorem DM_X7_lose_40 : decode (mC M_X7_lose) 40 = .ok (.iload_n 1, 1) := by decide +kernel
theorem DM_X7_lose_41 : decode (mC M_X7_lose) 41 = .ok (.ishr, 1) := by decide +kernel
theorem DM_X7_lose_42 : decode (mC M_X7_lose) 42 = .ok (.iconst 1, 1) := by decide +kernel
theorem DM_X7_lose_43 : decode (mC M_X7_lose) 43 = .ok (.iand, 1) := by decide +kernel
theorem DM_X7_lose_44 : decode (mC M_X7_lose) 44 = .ok (.iload_n 2, 1) := by decide +kernel
theorem DM_X7_lose_45 : decode (mC M_X7_lose) 45 = .ok (.if_icmp .ne 6, 3) := by decide +kernel
theorem DM_X7_lose_48 : decode (mC M_X7_lose) 48 = .ok (.ldc 144, 2) := by decide +kernel
theorem DM_X7_lose_50 : decode (mC M_X7_lose) 50 = .ok (.ireturn, 1) := by decide +kernel
theorem DM_X7_lose_51 : decode (mC M_X7_lose) 51 = .ok (.aload_n 0, 1) := by decide +kernel
theorem DM_X7_lose_52 : decode (mC M_X7_lose) 52 = .ok (.getfield 25, 3) := by decide +kernel
theorem DM_X7_lose_55 : decode (mC M_X7_lose) 55 = .ok (.dup, 1) := by decide +kernel
theorem DM_X7_lose_56 : decode (mC M_X7_lose) 56 = .ok (.getfield 177, 3) := by decide +kernel
theorem DM_X7_lose_59 : decode (mC M_X7_lose) 59 = .ok (.iconst 1, 1) := by decide +kernel
theorem DM_X7_lose_60 : decode (mC M_X7_lose) 60 = .ok (.iload_n 1, 1) := by decide +kernel
theorem DM_X7_lose_61 : decode (mC M_X7_lose) 61 = .ok (.ishl, 1) := by decide +kernel
theorem DM_X7_lose_62 : decode (mC M_X7_lose) 62 = .ok (.ixor, 1) := by decide +kernel
theorem DM_X7_lose_63 : decode (mC M_X7_lose) 63 = .ok (.putfield 177, 3) := by decide +kernel
theorem DM_X7_lose_66 : decode (mC M_X7_lose) 66 = .ok (.aload_n 0, 1) := by decide +kernel
theorem DM_X7_lose_67 : decode (mC M_X7_lose) 67 = .ok (.getfield 39, 3) := by decide +kernel
theorem DM_X7_lose_70 : decode (mC M_X7_lose) 70 = .ok (.iload_n 1, 1) := by decide +kernel
theorem DM_X7_lose_71 : decode (mC M_X7_lose) 71 = .ok (.invokevirtual 180, 3) := by decide +kernel
theorem DM_X7_lose_74 : decode (mC M_X7_lose) 74 = .ok (.iconst 1, 1) := by decide +kernel
theorem DM_X7_lose_75 : decode (mC M_X7_lose) 75 = .ok (.ireturn, 1) := by decide +kernel
theorem DM_X7_undo_0 : decode (mC M_X7_undo) 0 = .ok (.aload_n 0, 1) := by decide +kernel
theorem DM_X7_undo_1 : decode (mC M_X7_undo) 1 = .ok (.getfield 39, 3) := by decide +kernel
theorem DM_X7_undo_4 : decode (mC M_X7_undo) 4 = .ok (.getfield 183, 3) := by decide +kernel
theorem DM_X7_undo_7 : decode (mC M_X7_undo) 7 = .ok (.ifCond .ne 6, 3) := by decide +kernel
theorem DM_X7_undo_10 : decode (mC M_X7_undo) 10 = .ok (.ldc 144, 2) := by decide +kernel
theorem DM_X7_undo_12 : decode (mC M_X7_undo) 12 = .ok (.ireturn, 1) := by decide +kernel
theorem DM_X7_undo_13 : decode (mC M_X7_undo) 13 = .ok (.aload_n 0, 1) := by decide +kernel
theorem DM_X7_undo_14 : decode (mC M_X7_undo) 14 = .ok (.getfield 39, 3) := by decide +kernel
theorem DM_X7_undo_17 : decode (mC M_X7_undo) 17 = .ok (.aload_n 0, 1) := by decide +kernel
theorem DM_X7_undo_18 : decode (mC M_X7_undo) 18 = .ok (.getfield 25, 3) := by decide +kernel
theorem DM_X7_undo_21 : decode (mC M_X7_undo) 21 = .ok (.invokevirtual 184, 3) := by decide +kernel
theorem DM_X7_undo_24 : decode (mC M_X7_undo) 24 = .ok (.aload_n 0, 1) := by decide +kernel
theorem DM_X7_undo_25 : decode (mC M_X7_undo) 25 = .ok (.getfield 39, 3) := by decide +kernel
theorem DM_X7_undo_28 : decode (mC M_X7_undo) 28 = .ok (.getfield 183, 3) := by decide +kernel
theorem DM_X7_undo_31 : decode (mC M_X7_undo) 31 = .ok (.ireturn, 1) := by decide +kernel
theorem DM_X7_person_0 : decode (mC M_X7_person) 0 = .ok (.aload_n 0, 1) := by decide +kernel
theorem DM_X7_person_1 : decode (mC M_X7_person) 1 = .ok (.iload_n 1, 1) := by decide +kernel
theorem DM_X7_person_2 : decode (mC M_X7_person) 2 = .ok (.invokevirtual 187, 3) := by decide +kernel
theorem DM_X7_person_5 : decode (mC M_X7_person) 5 = .ok (.ifCond .ne 6, 3) := by decide +kernel
theorem DM_X7_person_8 : decode (mC M_X7_person) 8 = .ok (.ldc 69, 2) := by decide +kernel
theorem DM_X7_person_10 : decode (mC M_X7_person) 10 = .ok (.ireturn, 1) := by decide +kernel
theorem DM_X7_person_11 : decode (mC M_X7_person) 11 = .ok (.iload_n 2, 1) := by decide +kernel
theorem DM_X7_person_12 : decode (mC M_X7_person) 12 = .ok (.tableswitch 144 0 5 #[40, 50, 60, 70, 79, 112], 40) := by decide +kernel
theorem DM_X7_person_52 : decode (mC M_X7_person) 52 = .ok (.aload_n 0, 1) := by decide +kernel
theorem DM_X7_person_53 : decode (mC M_X7_person) 53 = .ok (.getfield 25, 3) := by decide +kernel
theorem DM_X7_person_56 : decode (mC M_X7_person) 56 = .ok (.getfield 191, 3) := by decide +kernel
theorem DM_X7_person_59 : decode (mC M_X7_person) 59 = .ok (.iload_n 1, 1) := by decide +kernel
theorem DM_X7_person_60 : decode (mC M_X7_person) 60 = .ok (.iaload, 1) := by decide +kernel
theorem DM_X7_person_61 : decode (mC M_X7_person) 61 = .ok (.ireturn, 1) := by decide +kernel
theorem DM_X7_person_62 : decode (mC M_X7_person) 62 = .ok (.aload_n 0, 1) := by decide +kernel
theorem DM_X7_person_63 : decode (mC M_X7_person) 63 = .ok (.getfield 25, 3) := by decide +kernel
theorem DM_X7_person_66 : decode (mC M_X7_person) 66 = .ok (.getfield 194, 3) := by decide +kernel
theorem DM_X7_person_69 : decode (mC M_X7_person) 69 = .ok (.iload_n 1, 1) := by decide +kernel
theorem DM_X7_person_70 : decode (mC M_X7_person) 70 = .ok (.iaload, 1) := by decide +kernel
theorem DM_X7_person_71 : decode (mC M_X7_person) 71 = .ok (.ireturn, 1) := by decide +kernel
theorem DM_X7_person_72 : decode (mC M_X7_person) 72 = .ok (.aload_n 0, 1) := by decide +kernel
theorem DM_X7_person_73 : decode (mC M_X7_person) 73 = .ok (.getfield 25, 3) := by decide +kernel
theorem DM_X7_person_76 : decode (mC M_X7_person) 76 = .ok (.getfield 197, 3) := by decide +kernel
theorem DM_X7_person_79 : decode (mC M_X7_person) 79 = .ok (.iload_n 1, 1) := by decide +kernel
theorem DM_X7_person_80 : decode (mC M_X7_person) 80 = .ok (.iaload, 1) := by decide +kernel
theorem DM_X7_person_81 : decode (mC M_X7_person) 81 = .ok (.ireturn, 1) := by decide +kernel
theorem DM_X7_person_82 : decode (mC M_X7_person) 82 = .ok (.aload_n 0, 1) := by decide +kernel
theorem DM_X7_person_83 : decode (mC M_X7_person) 83 = .ok (.getfield 25, 3) := by decide +kernel
theorem DM_X7_person_86 : decode (mC M_X7_person) 86 = .ok (.iload_n 1, 1) := by decide +kernel
theorem DM_X7_person_87 : decode (mC M_X7_person) 87 = .ok (.invokevirtual 200, 3) := by decide +kernel
theorem DM_X7_person_90 : decode (mC M_X7_person) 90 = .ok (.ireturn, 1) := by decide +kernel
theorem DM_X7_person_91 : decode (mC M_X7_person) 91 = .ok (.aload_n 0, 1) := by decide +kernel
theorem DM_X7_person_92 : decode (mC M_X7_person) 92 = .ok (.getfield 25, 3) := by decide +kernel
theorem DM_X7_person_95 : decode (mC M_X7_person) 95 = .ok (.iload_n 1, 1) := by decide +kernel
theorem DM_X7_person_96 : decode (mC M_X7_person) 96 = .ok (.invokevirtual 200, 3) := by decide +kernel
theorem DM_X7_person_99 : decode (mC M_X7_person) 99 = .ok (.iconst 1, 1) := by decide +kernel
theorem DM_X7_person_100 : decode (mC M_X7_person) 100 = .ok (.if_icmp .ne 22, 3) := by decide +kernel
theorem DM_X7_person_103 : decode (mC M_X7_person) 103 = .ok (.aload_n 0, 1) := by decide +kernel
theorem DM_X7_person_104 : decode (mC M_X7_person) 104 = .ok (.getfield 25, 3) := by decide +kernel
theorem DM_X7_person_107 : decode (mC M_X7_person) 107 = .ok (.iload_n 1, 1) := by decide +kernel
theorem DM_X7_person_108 : decode (mC M_X7_person) 108 = .ok (.invokevirtual 203, 3) := by decide +kernel
theorem DM_X7_person_111 : decode (mC M_X7_person) 111 = .ok (.aload_n 0, 1) := by decide +kernel
theorem DM_X7_person_112 : decode (mC M_X7_person) 112 = .ok (.getfield 25, 3) := by decide +kernel
theorem DM_X7_person_115 : decode (mC M_X7_person) 115 = .ok (.getfield 145, 3) := by decide +kernel
theorem DM_X7_person_118 : decode (mC M_X7_person) 118 = .ok (.isub, 1) := by decide +kernel
theorem DM_X7_person_119 : decode (mC M_X7_person) 119 = .ok (.goto 4, 3) := by decide +kernel
theorem DM_X7_person_122 : decode (mC M_X7_person) 122 = .ok (.iconst 0, 1) := by decide +kernel
theorem DM_X7_person_123 : decode (mC M_X7_person) 123 = .ok (.ireturn, 1) := by decide +kernel
theorem DM_X7_person_124 : decode (mC M_X7_person) 124 = .ok (.aload_n 0, 1) := by decide +kernel
theorem DM_X7_person_125 : decode (mC M_X7_person) 125 = .ok (.getfield 25, 3) := by decide +kernel
theorem DM_X7_person_128 : decode (mC M_X7_person) 128 = .ok (.iload_n 1, 1) := by decide +kernel
theorem DM_X7_person_129 : decode (mC M_X7_person) 129 = .ok (.aload_n 0, 1) := by decide +kernel
theorem DM_X7_person_130 : decode (mC M_X7_person) 130 = .ok (.getfield 25, 3) := by decide +kernel
theorem DM_X7_person_133 : decode (mC M_X7_person) 133 = .ok (.getfield 145, 3) := by decide +kernel
theorem DM_X7_person_136 : decode (mC M_X7_person) 136 = .ok (.invokevirtual 167, 3) := by decide +kernel
theorem DM_X7_person_139 : decode (mC M_X7_person) 139 = .ok (.ifCond .eq 14, 3) := by decide +kernel
theorem DM_X7_person_142 : decode (mC M_X7_person) 142 = .ok (.aload_n 0, 1) := by decide +kernel
theorem DM_X7_person_143 : decode (mC M_X7_person) 143 = .ok (.getfield 25, 3) := by decide +kernel
theorem DM_X7_person_146 : decode (mC M_X7_person) 146 = .ok (.iload_n 1, 1) := by decide +kernel
theorem DM_X7_person_147 : decode (mC M_X7_person) 147 = .ok (.invokevirtual 206, 3) := by decide +kernel
theorem DM_X7_person_150 : decode (mC M_X7_person) 150 = .ok (.goto 5, 3) := by decide +kernel
theorem DM_X7_person_153 : decode (mC M_X7_person) 153 = .ok (.ldc 209, 2) := by decide +kernel
theorem DM_X7_person_155 : decode (mC M_X7_person) 155 = .ok (.ireturn, 1) := by decide +kernel
theorem DM_X7_person_156 : decode (mC M_X7_person) 156 = .ok (.ldc 69, 2) := by decide +kernel
theorem DM_X7_person_158 : decode (mC M_X7_person) 158 = .ok (.ireturn, 1) := by decide +kernel
theorem DM_X7_name_0 : decode (mC M_X7_name) 0 = .ok (.aload_n 0, 1) := by decide +kernel
theorem DM_X7_name_1 : decode (mC M_X7_name) 1 = .ok (.iload_n 1, 1) := by decide +kernel
theorem DM_X7_name_2 : decode (mC M_X7_name) 2 = .ok (.iload_n 2, 1) := by decide +kernel
theorem DM_X7_name_3 : decode (mC M_X7_name) 3 = .ok (.invokevirtual 157, 3) := by decide +kernel
theorem DM_X7_name_6 : decode (mC M_X7_name) 6 = .ok (.ifCond .eq 15, 3) := by decide +kernel
theorem DM_X7_name_9 : decode (mC M_X7_name) 9 = .ok (.aload_n 0, 1) := by decide +kernel
theorem DM_X7_name_10 : decode (mC M_X7_name) 10 = .ok (.getfield 25, 3) := by decide +kernel
theorem DM_X7_name_13 : decode (mC M_X7_name) 13 = .ok (.iload_n 1, 1) := by decide +kernel
theorem DM_X7_name_14 : decode (mC M_X7_name) 14 = .ok (.iload_n 2, 1) := by decide +kernel
theorem DM_X7_name_15 : decode (mC M_X7_name) 15 = .ok (.invokevirtual 160, 3) := by decide +kernel
theorem DM_X7_name_18 : decode (mC M_X7_name) 18 = .ok (.goto 5, 3) := by decide +kernel
theorem DM_X7_name_21 : decode (mC M_X7_name) 21 = .ok (.ldc 69, 2) := by decide +kernel
theorem DM_X7_name_23 : decode (mC M_X7_name) 23 = .ok (.ireturn, 1) := by decide +kernel
theorem DM_X7_order_0 : decode (mC M_X7_order) 0 = .ok (.aload_n 0, 1) := by decide +kernel
theorem DM_X7_order_1 : decode (mC M_X7_order) 1 = .ok (.getfield 25, 3) := by decide +kernel
theorem DM_X7_order_4 : decode (mC M_X7_order) 4 = .ok (.getfield 140, 3) := by decide +kernel
theorem DM_X7_order_7 : decode (mC M_X7_order) 7 = .ok (.ifCond .ne 6, 3) := by decide +kernel
theorem DM_X7_order_10 : decode (mC M_X7_order) 10 = .ok (.ldc 144, 2) := by decide +kernel
theorem DM_X7_order_12 : decode (mC M_X7_order) 12 = .ok (.ireturn, 1) := by decide +kernel
theorem DM_X7_order_13 : decode (mC M_X7_order) 13 = .ok (.iload_n 1, 1) := by decide +kernel
theorem DM_X7_order_14 : decode (mC M_X7_order) 14 = .ok (.bipush 8, 2) := by decide +kernel
theorem DM_X7_order_16 : decode (mC M_X7_order) 16 = .ok (.invokestatic 65, 3) := by decide +kernel
theorem DM_X7_order_19 : decode (mC M_X7_order) 19 = .ok (.ifCond .eq 29, 3) := by decide +kernel
theorem DM_X7_order_22 : decode (mC M_X7_order) 22 = .ok (.aload_n 0, 1) := by decide +kernel
theorem DM_X7_order_23 : decode (mC M_X7_order) 23 = .ok (.getfield 25, 3) := by decide +kernel
theorem DM_X7_order_26 : decode (mC M_X7_order) 26 = .ok (.iload_n 1, 1) := by decide +kernel
theorem DM_X7_order_27 : decode (mC M_X7_order) 27 = .ok (.aload_n 0, 1) := by decide +kernel
theorem DM_X7_order_28 : decode (mC M_X7_order) 28 = .ok (.getfield 25, 3) := by decide +kernel
theorem DM_X7_order_31 : decode (mC M_X7_order) 31 = .ok (.aload_n 0, 1) := by decide +kernel
theorem DM_X7_order_32 : decode (mC M_X7_order) 32 = .ok (.getfield 25, 3) := by decide +kernel
theorem DM_X7_order_35 : decode (mC M_X7_order) 35 = .ok (.getfield 145, 3) := by decide +kernel
theorem DM_X7_order_38 : decode (mC M_X7_order) 38 = .ok (.iconst 0, 1) := by decide +kernel
theorem DM_X7_order_39 : decode (mC M_X7_order) 39 = .ok (.invokevirtual 210, 3) := by decide +kernel
theorem DM_X7_order_42 : decode (mC M_X7_order) 42 = .ok (.invokevirtual 213, 3) := by decide +kernel
theorem DM_X7_order_45 : decode (mC M_X7_order) 45 = .ok (.goto 5, 3) := by decide +kernel
theorem DM_X7_order_48 : decode (mC M_X7_order) 48 = .ok (.ldc 69, 2) := by decide +kernel
theorem DM_X7_order_50 : decode (mC M_X7_order) 50 = .ok (.ireturn, 1) := by decide +kernel
theorem DM_X7_when_0 : decode (mC M_X7_when) 0 = .ok (.aload_n 0, 1) := by decide +kernel
theorem DM_X7_when_1 : decode (mC M_X7_when) 1 = .ok (.iload_n 1, 1) := by decide +kernel
theorem DM_X7_when_2 : decode (mC M_X7_when) 2 = .ok (.invokevirtual 187, 3) := by decide +kernel
theorem DM_X7_when_5 : decode (mC M_X7_when) 5 = .ok (.ifCond .eq 11, 3) := by decide +kernel
theorem DM_X7_when_8 : decode (mC M_X7_when) 8 = .ok (.iload_n 2, 1) := by decide +kernel
theorem DM_X7_when_9 : decode (mC M_X7_when) 9 = .ok (.iconst 3, 1) := by decide +kernel
theorem DM_X7_when_10 : decode (mC M_X7_when) 10 = .ok (.invokestatic 65, 3) := by decide +kernel
theorem DM_X7_when_13 : decode (mC M_X7_when) 13 = .ok (.ifCond .ne 6, 3) := by decide +kernel
theorem DM_X7_when_16 : decode (mC M_X7_when) 16 = .ok (.ldc 69, 2) := by decide +kernel
theorem DM_X7_when_18 : decode (mC M_X7_when) 18 = .ok (.ireturn, 1) := by decide +kernel
theorem DM_X7_when_19 : decode (mC M_X7_when) 19 = .ok (.aload_n 0, 1) := by decide +kernel
theorem DM_X7_when_20 : decode (mC M_X7_when) 20 = .ok (.iconst 0, 1) := by decide +kernel
theorem DM_X7_when_21 : decode (mC M_X7_when) 21 = .ok (.invokevirtual 216, 3) := by decide +kernel
theorem DM_X7_when_24 : decode (mC M_X7_when) 24 = .ok (.astore_n 3, 1) := by decide +kernel
theorem DM_X7_when_25 : decode (mC M_X7_when) 25 = .ok (.iload_n 2, 1) := by decide +kernel
theorem DM_X7_when_26 : decode (mC M_X7_when) 26 = .ok (.iconst 2, 1) := by decide +kernel
theorem DM_X7_when_27 : decode (mC M_X7_when) 27 = .ok (.if_icmp .ne 23, 3) := by decide +kernel
theorem DM_X7_when_30 : decode (mC M_X7_when) 30 = .ok (.aload_n 3, 1) := by decide +kernel
theorem DM_X7_when_31 : decode (mC M_X7_when) 31 = .ok (.iload_n 1, 1) := by decide +kernel
theorem DM_X7_when_32 : decode (mC M_X7_when) 32 = .ok (.invokevirtual 220, 3) := by decide +kernel
theorem DM_X7_when_35 : decode (mC M_X7_when) 35 = .ok (.ifCond .eq 8, 3) := by decide +kernel
theorem DM_X7_when_38 : decode (mC M_X7_when) 38 = .ok (.ldc 209, 2) := by decide +kernel
theorem DM_X7_when_40 : decode (mC M_X7_when) 40 = .ok (.goto 9, 3) := by decide +kernel
theorem DM_X7_when_43 : decode (mC M_X7_when) 43 = .ok (.aload_n 3, 1) := by decide +kernel
theorem DM_X7_when_44 : decode (mC M_X7_when) 44 = .ok (.getfield 194, 3) := by decide +kernel
theorem DM_X7_when_47 : decode (mC M_X7_when) 47 = .ok (.iload_n 1, 1) := by decide +kernel
theorem DM_X7_when_48 : decode (mC M_X7_when) 48 = .ok (.iaload, 1) := by decide +kernel
theorem DM_X7_when_49 : decode (mC M_X7_when) 49 = .ok (.ireturn, 1) := by decide +kernel
theorem DM_X7_when_50 : decode (mC M_X7_when) 50 = .ok (.aload_n 3, 1) := by decide +kernel
theorem DM_X7_when_51 : decode (mC M_X7_when) 51 = .ok (.iload_n 1, 1) := by decide +kernel
theorem DM_X7_when_52 : decode (mC M_X7_when) 52 = .ok (.invokevirtual 220, 3) := by decide +kernel
theorem DM_X7_when_55 : decode (mC M_X7_when) 55 = .ok (.ifCond .ne 6, 3) := by decide +kernel
theorem DM_X7_when_58 : decode (mC M_X7_when) 58 = .ok (.ldc 209, 2) := by decide +kernel
theorem DM_X7_when_60 : decode (mC M_X7_when) 60 = .ok (.ireturn, 1) := by decide +kernel
theorem DM_X7_when_61 : decode (mC M_X7_when) 61 = .ok (.iload_n 2, 1) := by decide +kernel
theorem DM_X7_when_62 : decode (mC M_X7_when) 62 = .ok (.ifCond .ne 12, 3) := by decide +kernel
theorem DM_X7_when_65 : decode (mC M_X7_when) 65 = .ok (.aload_n 3, 1) := by decide +kernel
theorem DM_X7_when_66 : decode (mC M_X7_when) 66 = .ok (.getfield 223, 3) := by decide +kernel
theorem DM_X7_when_69 : decode (mC M_X7_when) 69 = .ok (.iload_n 1, 1) := by decide +kernel
theorem DM_X7_when_70 : decode (mC M_X7_when) 70 = .ok (.iaload, 1) := by decide +kernel
theorem DM_X7_when_71 : decode (mC M_X7_when) 71 = .ok (.goto 8, 3) := by decide +kernel
theorem DM_X7_when_74 : decode (mC M_X7_when) 74 = .ok (.aload_n 3, 1) := by decide +kernel
theorem DM_X7_when_75 : decode (mC M_X7_when) 75 = .ok (.iload_n 1, 1) := by decide +kernel
theorem DM_X7_when_76 : decode (mC M_X7_when) 76 = .ok (.invokevirtual 203, 3) := by decide +kernel
theorem DM_X7_when_79 : decode (mC M_X7_when) 79 = .ok (.ireturn, 1) := by decide +kernel
theorem DM_X7_waited_0 : decode (mC M_X7_waited) 0 = .ok (.aload_n 0, 1) := by decide +kernel
theorem DM_X7_waited_1 : decode (mC M_X7_waited) 1 = .ok (.getfield 25, 3) := by decide +kernel
theorem DM_X7_waited_4 : decode (mC M_X7_waited) 4 = .ok (.getfield 140, 3) := by decide +kernel
theorem DM_X7_waited_7 : decode (mC M_X7_waited) 7 = .ok (.ifCond .eq 14, 3) := by decide +kernel
theorem DM_X7_waited_10 : decode (mC M_X7_waited) 10 = .ok (.aload_n 0, 1) := by decide +kernel
theorem DM_X7_waited_11 : decode (mC M_X7_waited) 11 = .ok (.iconst 0, 1) := by decide +kernel
theorem DM_X7_waited_12 : decode (mC M_X7_waited) 12 = .ok (.invokevirtual 216, 3) := by decide +kernel
theorem DM_X7_waited_15 : decode (mC M_X7_waited) 15 = .ok (.invokevirtual 226, 3) := by decide +kernel
theorem DM_X7_waited_18 : decode (mC M_X7_waited) 18 = .ok (.goto 5, 3) := by decide +kernel
theorem DM_X7_waited_21 : decode (mC M_X7_waited) 21 = .ok (.ldc 144, 2) := by decide +kernel
theorem DM_X7_waited_23 : decode (mC M_X7_waited) 23 = .ok (.ireturn, 1) := by decide +kernel
theorem DM_X7_last_0 : decode (mC M_X7_last) 0 = .ok (.aload_n 0, 1) := by decide +kernel
theorem DM_X7_last_1 : decode (mC M_X7_last) 1 = .ok (.iload_n 1, 1) := by decide +kernel
theorem DM_X7_last_2 : decode (mC M_X7_last) 2 = .ok (.invokevirtual 187, 3) := by decide +kernel
theorem DM_X7_last_5 : decode (mC M_X7_last) 5 = .ok (.ifCond .eq 24, 3) := by decide +kernel
theorem DM_X7_last_8 : decode (mC M_X7_last) 8 = .ok (.iload_n 2, 1) := by decide +kernel
theorem DM_X7_last_9 : decode (mC M_X7_last) 9 = .ok (.iconst (-1), 1) := by decide +kernel
theorem DM_X7_last_10 : decode (mC M_X7_last) 10 = .ok (.if_icmp .eq 22, 3) := by decide +kernel
theorem DM_X7_last_13 : decode (mC M_X7_last) 13 = .ok (.iload_n 2, 1) := by decide +kernel
theorem DM_X7_last_14 : decode (mC M_X7_last) 14 = .ok (.aload_n 0, 1) := by decide +kernel
theorem DM_X7_last_15 : decode (mC M_X7_last) 15 = .ok (.getfield 25, 3) := by decide +kernel
theorem DM_X7_last_18 : decode (mC M_X7_last) 18 = .ok (.getfield 197, 3) := by decide +kernel
theorem DM_X7_last_21 : decode (mC M_X7_last) 21 = .ok (.iload_n 1, 1) := by decide +kernel
theorem DM_X7_last_22 : decode (mC M_X7_last) 22 = .ok (.iaload, 1) := by decide +kernel
theorem DM_X7_last_23 : decode (mC M_X7_last) 23 = .ok (.invokestatic 65, 3) := by decide +kernel
theorem DM_X7_last_26 : decode (mC M_X7_last) 26 = .ok (.ifCond .ne 6, 3) := by decide +kernel
theorem DM_X7_last_29 : decode (mC M_X7_last) 29 = .ok (.ldc 69, 2) := by decide +kernel
theorem DM_X7_last_31 : decode (mC M_X7_last) 31 = .ok (.ireturn, 1) := by decide +kernel
theorem DM_X7_last_32 : decode (mC M_X7_last) 32 = .ok (.aload_n 0, 1) := by decide +kernel
theorem DM_X7_last_33 : decode (mC M_X7_last) 33 = .ok (.getfield 25, 3) := by decide +kernel
theorem DM_X7_last_36 : decode (mC M_X7_last) 36 = .ok (.iload_n 1, 1) := by decide +kernel
theorem DM_X7_last_37 : decode (mC M_X7_last) 37 = .ok (.aload_n 0, 1) := by decide +kernel
theorem DM_X7_last_38 : decode (mC M_X7_last) 38 = .ok (.getfield 25, 3) := by decide +kernel
theorem DM_X7_last_41 : decode (mC M_X7_last) 41 = .ok (.getfield 145, 3) := by decide +kernel
theorem DM_X7_last_44 : decode (mC M_X7_last) 44 = .ok (.invokevirtual 167, 3) := by decide +kernel
theorem DM_X7_last_47 : decode (mC M_X7_last) 47 = .ok (.ifCond .ne 6, 3) := by decide +kernel
theorem DM_X7_last_50 : decode (mC M_X7_last) 50 = .ok (.ldc 209, 2) := by decide +kernel
theorem DM_X7_last_52 : decode (mC M_X7_last) 52 = .ok (.ireturn, 1) := by decide +kernel
theorem DM_X7_last_53 : decode (mC M_X7_last) 53 = .ok (.aload_n 0, 1) := by decide +kernel
theorem DM_X7_last_54 : decode (mC M_X7_last) 54 = .ok (.getfield 46, 3) := by decide +kernel
theorem DM_X7_last_57 : decode (mC M_X7_last) 57 = .ok (.aload_n 0, 1) := by decide +kernel
theorem DM_X7_last_58 : decode (mC M_X7_last) 58 = .ok (.getfield 25, 3) := by decide +kernel
theorem DM_X7_last_61 : decode (mC M_X7_last) 61 = .ok (.iload_n 1, 1) := by decide +kernel
theorem DM_X7_last_62 : decode (mC M_X7_last) 62 = .ok (.invokevirtual 230, 3) := by decide +kernel
theorem DM_X7_last_65 : decode (mC M_X7_last) 65 = .ok (.istore_n 3, 1) := by decide +kernel
theorem DM_X7_last_66 : decode (mC M_X7_last) 66 = .ok (.iload_n 2, 1) := by decide +kernel
theorem DM_X7_last_67 : decode (mC M_X7_last) 67 = .ok (.iconst (-1), 1) := by decide +kernel
theorem DM_X7_last_68 : decode (mC M_X7_last) 68 = .ok (.if_icmp .eq 9, 3) := by decide +kernel
theorem DM_X7_last_71 : decode (mC M_X7_last) 71 = .ok (.iload_n 3, 1) := by decide +kernel
theorem DM_X7_last_72 : decode (mC M_X7_last) 72 = .ok (.ldc 209, 2) := by decide +kernel
theorem DM_X7_last_74 : decode (mC M_X7_last) 74 = .ok (.if_icmp .ne 5, 3) := by decide +kernel
theorem DM_X7_last_77 : decode (mC M_X7_last) 77 = .ok (.iload_n 3, 1) := by decide +kernel
theorem DM_X7_last_78 : decode (mC M_X7_last) 78 = .ok (.ireturn, 1) := by decide +kernel
theorem DM_X7_last_79 : decode (mC M_X7_last) 79 = .ok (.aload_n 0, 1) := by decide +kernel
theorem DM_X7_last_80 : decode (mC M_X7_last) 80 = .ok (.getfield 46, 3) := by decide +kernel
theorem DM_X7_last_83 : decode (mC M_X7_last) 83 = .ok (.getfield 234, 3) := by decide +kernel
theorem DM_X7_last_86 : decode (mC M_X7_last) 86 = .ok (.iload_n 1, 1) := by decide +kernel
theorem DM_X7_last_87 : decode (mC M_X7_last) 87 = .ok (.iload_n 2, 1) := by decide +kernel
theorem DM_X7_last_88 : decode (mC M_X7_last) 88 = .ok (.invokevirtual 160, 3) := by decide +kernel
theorem DM_X7_last_91 : decode (mC M_X7_last) 91 = .ok (.ireturn, 1) := by decide +kernel
theorem DM_X7_best_0 : decode (mC M_X7_best) 0 = .ok (.aload_n 0, 1) := by decide +kernel
theorem DM_X7_best_1 : decode (mC M_X7_best) 1 = .ok (.getfield 25, 3) := by decide +kernel
theorem DM_X7_best_4 : decode (mC M_X7_best) 4 = .ok (.getfield 140, 3) := by decide +kernel
theorem DM_X7_best_7 : decode (mC M_X7_best) 7 = .ok (.ifCond .ne 6, 3) := by decide +kernel
theorem DM_X7_best_10 : decode (mC M_X7_best) 10 = .ok (.ldc 144, 2) := by decide +kernel
theorem DM_X7_best_12 : decode (mC M_X7_best) 12 = .ok (.ireturn, 1) := by decide +kernel
theorem DM_X7_best_13 : decode (mC M_X7_best) 13 = .ok (.iload_n 1, 1) := by decide +kernel
theorem DM_X7_best_14 : decode (mC M_X7_best) 14 = .ok (.iconst 2, 1) := by decide +kernel
theorem DM_X7_best_15 : decode (mC M_X7_best) 15 = .ok (.invokestatic 65, 3) := by decide +kernel
theorem DM_X7_best_18 : decode (mC M_X7_best) 18 = .ok (.ifCond .ne 6, 3) := by decide +kernel
theorem DM_X7_best_21 : decode (mC M_X7_best) 21 = .ok (.ldc 69, 2) := by decide +kernel
theorem DM_X7_best_23 : decode (mC M_X7_best) 23 = .ok (.ireturn, 1) := by decide +kernel
theorem DM_X7_best_24 : decode (mC M_X7_best) 24 = .ok (.iconst 0, 1) := by decide +kernel
theorem DM_X7_best_25 : decode (mC M_X7_best) 25 = .ok (.istore_n 2, 1) := by decide +kernel
theorem DM_X7_best_26 : decode (mC M_X7_best) 26 = .ok (.aload_n 0, 1) := by decide +kernel
theorem DM_X7_best_27 : decode (mC M_X7_best) 27 = .ok (.iconst 0, 1) := by decide +kernel
theorem DM_X7_best_28 : decode (mC M_X7_best) 28 = .ok (.invokevirtual 216, 3) := by decide +kernel
theorem DM_X7_best_31 : decode (mC M_X7_best) 31 = .ok (.invokevirtual 226, 3) := by decide +kernel
theorem DM_X7_best_34 : decode (mC M_X7_best) 34 = .ok (.istore_n 3, 1) := by decide +kernel
theorem DM_X7_best_35 : decode (mC M_X7_best) 35 = .ok (.iconst 1, 1) := by decide +kernel
theorem DM_X7_best_36 : decode (mC M_X7_best) 36 = .ok (.istore 4, 2) := by decide +kernel
theorem DM_X7_best_38 : decode (mC M_X7_best) 38 = .ok (.iload 4, 2) := by decide +kernel
theorem DM_X7_best_40 : decode (mC M_X7_best) 40 = .ok (.bipush 8, 2) := by decide +kernel
theorem DM_X7_best_42 : decode (mC M_X7_best) 42 = .ok (.if_icmp .ge 32, 3) := by decide +kernel
theorem DM_X7_best_45 : decode (mC M_X7_best) 45 = .ok (.aload_n 0, 1) := by decide +kernel
theorem DM_X7_best_46 : decode (mC M_X7_best) 46 = .ok (.iload 4, 2) := by decide +kernel
theorem DM_X7_best_48 : decode (mC M_X7_best) 48 = .ok (.invokevirtual 216, 3) := by decide +kernel
theorem DM_X7_best_51 : decode (mC M_X7_best) 51 = .ok (.invokevirtual 226, 3) := by decide +kernel
theorem DM_X7_best_54 : decode (mC M_X7_best) 54 = .ok (.istore 5, 2) := by decide +kernel
theorem DM_X7_best_56 : decode (mC M_X7_best) 56 = .ok (.iload 5, 2) := by decide +kernel
theorem DM_X7_best_58 : decode (mC M_X7_best) 58 = .ok (.iload_n 3, 1) := by decide +kernel
theorem DM_X7_best_59 : decode (mC M_X7_best) 59 = .ok (.if_icmp .ge 9, 3) := by decide +kernel
theorem DM_X7_best_62 : decode (mC M_X7_best) 62 = .ok (.iload 5, 2) := by decide +kernel
theorem DM_X7_best_64 : decode (mC M_X7_best) 64 = .ok (.istore_n 3, 1) := by decide +kernel
theorem DM_X7_best_65 : decode (mC M_X7_best) 65 = .ok (.iload 4, 2) := by decide +kernel
theorem DM_X7_best_67 : decode (mC M_X7_best) 67 = .ok (.istore_n 2, 1) := by decide +kernel
theorem DM_X7_best_68 : decode (mC M_X7_best) 68 = .ok (.iinc 4 1, 3) := by decide +kernel
theorem DM_X7_best_71 : decode (mC M_X7_best) 71 = .ok (.goto (-33), 3) := by decide +kernel
theorem DM_X7_best_74 : decode (mC M_X7_best) 74 = .ok (.iload_n 1, 1) := by decide +kernel
theorem DM_X7_best_75 : decode (mC M_X7_best) 75 = .ok (.ifCond .ne 7, 3) := by decide +kernel
theorem DM_X7_best_78 : decode (mC M_X7_best) 78 = .ok (.iload_n 2, 1) := by decide +kernel
theorem DM_X7_best_79 : decode (mC M_X7_best) 79 = .ok (.goto 4, 3) := by decide +kernel
theorem DM_X7_best_82 : decode (mC M_X7_best) 82 = .ok (.iload_n 3, 1) := by decide +kernel
theorem DM_X7_best_83 : decode (mC M_X7_best) 83 = .ok (.ireturn, 1) := by decide +kernel
theorem DM_X7_warden_0 : decode (mC M_X7_warden) 0 = .ok (.aload_n 0, 1) := by decide +kernel
theorem DM_X7_warden_1 : decode (mC M_X7_warden) 1 = .ok (.getfield 25, 3) := by decide +kernel
theorem DM_X7_warden_4 : decode (mC M_X7_warden) 4 = .ok (.getfield 140, 3) := by decide +kernel
theorem DM_X7_warden_7 : decode (mC M_X7_warden) 7 = .ok (.ifCond .ne 6, 3) := by decide +kernel
theorem DM_X7_warden_10 : decode (mC M_X7_warden) 10 = .ok (.ldc 144, 2) := by decide +kernel
theorem DM_X7_warden_12 : decode (mC M_X7_warden) 12 = .ok (.ireturn, 1) := by decide +kernel
theorem DM_X7_warden_13 : decode (mC M_X7_warden) 13 = .ok (.iload_n 1, 1) := by decide +kernel
theorem DM_X7_warden_14 : decode (mC M_X7_warden) 14 = .ok (.bipush (-2), 2) := by decide +kernel
theorem DM_X7_warden_16 : decode (mC M_X7_warden) 16 = .ok (.if_icmp .lt 9, 3) := by decide +kernel
theorem DM_X7_warden_19 : decode (mC M_X7_warden) 19 = .ok (.iload_n 1, 1) := by decide +kernel
theorem DM_X7_warden_20 : decode (mC M_X7_warden) 20 = .ok (.bipush 6, 2) := by decide +kernel
theorem DM_X7_warden_22 : decode (mC M_X7_warden) 22 = .ok (.if_icmp .lt 6, 3) := by decide +kernel
theorem DM_X7_warden_25 : decode (mC M_X7_warden) 25 = .ok (.ldc 69, 2) := by decide +kernel
theorem DM_X7_warden_27 : decode (mC M_X7_warden) 27 = .ok (.ireturn, 1) := by decide +kernel
theorem DM_X7_warden_28 : decode (mC M_X7_warden) 28 = .ok (.aload_n 0, 1) := by decide +kernel
theorem DM_X7_warden_29 : decode (mC M_X7_warden) 29 = .ok (.getfield 53, 3) := by decide +kernel
theorem DM_X7_warden_32 : decode (mC M_X7_warden) 32 = .ok (.aload_n 0, 1) := by decide +kernel
theorem DM_X7_warden_33 : decode (mC M_X7_warden) 33 = .ok (.getfield 25, 3) := by decide +kernel
theorem DM_X7_warden_36 : decode (mC M_X7_warden) 36 = .ok (.invokevirtual 237, 3) := by decide +kernel
theorem DM_X7_warden_39 : decode (mC M_X7_warden) 39 = .ok (.iload_n 1, 1) := by decide +kernel
theorem DM_X7_warden_40 : decode (mC M_X7_warden) 40 = .ok (.ifCond .lt 29, 3) := by decide +kernel
theorem DM_X7_warden_43 : decode (mC M_X7_warden) 43 = .ok (.iload_n 1, 1) := by decide +kernel
theorem DM_X7_warden_44 : decode (mC M_X7_warden) 44 = .ok (.aload_n 0, 1) := by decide +kernel
theorem DM_X7_warden_45 : decode (mC M_X7_warden) 45 = .ok (.getfield 53, 3) := by decide +kernel
theorem DM_X7_warden_48 : decode (mC M_X7_warden) 48 = .ok (.getfield 240, 3) := by decide +kernel
theorem DM_X7_warden_51 : decode (mC M_X7_warden) 51 = .ok (.if_icmp .ge 15, 3) := by decide +kernel
theorem DM_X7_warden_54 : decode (mC M_X7_warden) 54 = .ok (.aload_n 0, 1) := by decide +kernel
theorem DM_X7_warden_55 : decode (mC M_X7_warden) 55 = .ok (.getfield 53, 3) := by decide +kernel
theorem DM_X7_warden_58 : decode (mC M_X7_warden) 58 = .ok (.getfield 241, 3) := by decide +kernel
theorem DM_X7_warden_61 : decode (mC M_X7_warden) 61 = .ok (.iload_n 1, 1) := by decide +kernel
theorem DM_X7_warden_62 : decode (mC M_X7_warden) 62 = .ok (.iaload, 1) := by decide +kernel
theorem DM_X7_warden_63 : decode (mC M_X7_warden) 63 = .ok (.goto 5, 3) := by decide +kernel
theorem DM_X7_warden_66 : decode (mC M_X7_warden) 66 = .ok (.ldc 209, 2) := by decide +kernel
theorem DM_X7_warden_68 : decode (mC M_X7_warden) 68 = .ok (.ireturn, 1) := by decide +kernel
theorem DM_X7_warden_69 : decode (mC M_X7_warden) 69 = .ok (.iload_n 1, 1) := by decide +kernel
theorem DM_X7_warden_70 : decode (mC M_X7_warden) 70 = .ok (.iconst (-1), 1) := by decide +kernel
theorem DM_X7_warden_71 : decode (mC M_X7_warden) 71 = .ok (.if_icmp .ne 13, 3) := by decide +kernel
theorem DM_X7_warden_74 : decode (mC M_X7_warden) 74 = .ok (.aload_n 0, 1) := by decide +kernel
theorem DM_X7_warden_75 : decode (mC M_X7_warden) 75 = .ok (.getfield 53, 3) := by decide +kernel
theorem DM_X7_warden_78 : decode (mC M_X7_warden) 78 = .ok (.getfield 244, 3) := by decide +kernel
theorem DM_X7_warden_81 : decode (mC M_X7_warden) 81 = .ok (.goto 19, 3) := by decide +kernel
theorem DM_X7_warden_84 : decode (mC M_X7_warden) 84 = .ok (.aload_n 0, 1) := by decide +kernel
theorem DM_X7_warden_85 : decode (mC M_X7_warden) 85 = .ok (.iconst 0, 1) := by decide +kernel
theorem DM_X7_warden_86 : decode (mC M_X7_warden) 86 = .ok (.invokevirtual 216, 3) := by decide +kernel
theorem DM_X7_warden_89 : decode (mC M_X7_warden) 89 = .ok (.invokevirtual 226, 3) := by decide +kernel
theorem DM_X7_warden_92 : decode (mC M_X7_warden) 92 = .ok (.aload_n 0, 1) := by decide +kernel
theorem DM_X7_warden_93 : decode (mC M_X7_warden) 93 = .ok (.getfield 53, 3) := by decide +kernel
theorem DM_X7_warden_96 : decode (mC M_X7_warden) 96 = .ok (.getfield 244, 3) := by decide +kernel
theorem DM_X7_warden_99 : decode (mC M_X7_warden) 99 = .ok (.isub, 1) := by decide +kernel
theorem DM_X7_warden_100 : decode (mC M_X7_warden) 100 = .ok (.ireturn, 1) := by decide +kernel
theorem DM_X7_frees_0 : decode (mC M_X7_frees) 0 = .ok (.aload_n 0, 1) := by decide +kernel
theorem DM_X7_frees_1 : decode (mC M_X7_frees) 1 = .ok (.getfield 25, 3) := by decide +kernel
theorem DM_X7_frees_4 : decode (mC M_X7_frees) 4 = .ok (.getfield 140, 3) := by decide +kernel
theorem DM_X7_frees_7 : decode (mC M_X7_frees) 7 = .ok (.ifCond .ne 6, 3) := by decide +kernel
theorem DM_X7_frees_10 : decode (mC M_X7_frees) 10 = .ok (.ldc 144, 2) := by decide +kernel
theorem DM_X7_frees_12 : decode (mC M_X7_frees) 12 = .ok (.ireturn, 1) := by decide +kernel
theorem DM_X7_frees_13 : decode (mC M_X7_frees) 13 = .ok (.iload_n 1, 1) := by decide +kernel
theorem DM_X7_frees_14 : decode (mC M_X7_frees) 14 = .ok (.iconst 2, 1) := by decide +kernel
theorem DM_X7_frees_15 : decode (mC M_X7_frees) 15 = .ok (.invokestatic 65, 3) := by decide +kernel
theorem DM_X7_frees_18 : decode (mC M_X7_frees) 18 = .ok (.ifCond .ne 6, 3) := by decide +kernel
theorem DM_X7_frees_21 : decode (mC M_X7_frees) 21 = .ok (.ldc 69, 2) := by decide +kernel
theorem DM_X7_frees_23 : decode (mC M_X7_frees) 23 = .ok (.ireturn, 1) := by decide +kernel
theorem DM_X7_frees_24 : decode (mC M_X7_frees) 24 = .ok (.iconst 0, 1) := by decide +kernel
theorem DM_X7_frees_25 : decode (mC M_X7_frees) 25 = .ok (.istore_n 2, 1) := by decide +kernel
theorem DM_X7_frees_26 : decode (mC M_X7_frees) 26 = .ok (.aload_n 0, 1) := by decide +kernel
theorem DM_X7_frees_27 : decode (mC M_X7_frees) 27 = .ok (.getfield 25, 3) := by decide +kernel
theorem DM_X7_frees_30 : decode (mC M_X7_frees) 30 = .ok (.iconst 0, 1) := by decide +kernel
theorem DM_X7_frees_31 : decode (mC M_X7_frees) 31 = .ok (.invokevirtual 247, 3) := by decide +kernel
theorem DM_X7_frees_34 : decode (mC M_X7_frees) 34 = .ok (.istore_n 3, 1) := by decide +kernel
theorem DM_X7_frees_35 : decode (mC M_X7_frees) 35 = .ok (.iconst 1, 1) := by decide +kernel
theorem DM_X7_frees_36 : decode (mC M_X7_frees) 36 = .ok (.istore 4, 2) := by decide +kernel
theorem DM_X7_frees_38 : decode (mC M_X7_frees) 38 = .ok (.iload 4, 2) := by decide +kernel
theorem DM_X7_frees_40 : decode (mC M_X7_frees) 40 = .ok (.bipush 8, 2) := by decide +kernel
theorem DM_X7_frees_42 : decode (mC M_X7_frees) 42 = .ok (.if_icmp .ge 32, 3) := by decide +kernel
theorem DM_X7_frees_45 : decode (mC M_X7_frees) 45 = .ok (.aload_n 0, 1) := by decide +kernel
theorem DM_X7_frees_46 : decode (mC M_X7_frees) 46 = .ok (.getfield 25, 3) := by decide +kernel
theorem DM_X7_frees_49 : decode (mC M_X7_frees) 49 = .ok (.iload 4, 2) := by decide +kernel
theorem DM_X7_frees_51 : decode (mC M_X7_frees) 51 = .ok (.invokevirtual 247, 3) := by decide +kernel
theorem DM_X7_frees_54 : decode (mC M_X7_frees) 54 = .ok (.istore 5, 2) := by decide +kernel
theorem DM_X7_frees_56 : decode (mC M_X7_frees) 56 = .ok (.iload 5, 2) := by decide +kernel
theorem DM_X7_frees_58 : decode (mC M_X7_frees) 58 = .ok (.iload_n 3, 1) := by decide +kernel
theorem DM_X7_frees_59 : decode (mC M_X7_frees) 59 = .ok (.if_icmp .le 9, 3) := by decide +kernel
theorem DM_X7_frees_62 : decode (mC M_X7_frees) 62 = .ok (.iload 5, 2) := by decide +kernel
theorem DM_X7_frees_64 : decode (mC M_X7_frees) 64 = .ok (.istore_n 3, 1) := by decide +kernel
theorem DM_X7_frees_65 : decode (mC M_X7_frees) 65 = .ok (.iload 4, 2) := by decide +kernel
theorem DM_X7_frees_67 : decode (mC M_X7_frees) 67 = .ok (.istore_n 2, 1) := by decide +kernel
theorem DM_X7_frees_68 : decode (mC M_X7_frees) 68 = .ok (.iinc 4 1, 3) := by decide +kernel
theorem DM_X7_frees_71 : decode (mC M_X7_frees) 71 = .ok (.goto (-33), 3) := by decide +kernel
theorem DM_X7_frees_74 : decode (mC M_X7_frees) 74 = .ok (.iload_n 1, 1) := by decide +kernel
theorem DM_X7_frees_75 : decode (mC M_X7_frees) 75 = .ok (.ifCond .ne 7, 3) := by decide +kernel
theorem DM_X7_frees_78 : decode (mC M_X7_frees) 78 = .ok (.iload_n 2, 1) := by decide +kernel
theorem DM_X7_frees_79 : decode (mC M_X7_frees) 79 = .ok (.goto 4, 3) := by decide +kernel
theorem DM_X7_frees_82 : decode (mC M_X7_frees) 82 = .ok (.iload_n 3, 1) := by decide +kernel
theorem DM_X7_frees_83 : decode (mC M_X7_frees) 83 = .ok (.ireturn, 1) := by decide +kernel
theorem DM_X7_ledger_0 : decode (mC M_X7_ledger) 0 = .ok (.aload_n 0, 1) := by decide +kernel
theorem DM_X7_ledger_1 : decode (mC M_X7_ledger) 1 = .ok (.getfield 25, 3) := by decide +kernel
theorem DM_X7_ledger_4 : decode (mC M_X7_ledger) 4 = .ok (.getfield 140, 3) := by decide +kernel
theorem DM_X7_ledger_7 : decode (mC M_X7_ledger) 7 = .ok (.ifCond .ne 6, 3) := by decide +kernel
theorem DM_X7_ledger_10 : decode (mC M_X7_ledger) 10 = .ok (.ldc 144, 2) := by decide +kernel
theorem DM_X7_ledger_12 : decode (mC M_X7_ledger) 12 = .ok (.ireturn, 1) := by decide +kernel
theorem DM_X7_ledger_13 : decode (mC M_X7_ledger) 13 = .ok (.iload_n 1, 1) := by decide +kernel
theorem DM_X7_ledger_14 : decode (mC M_X7_ledger) 14 = .ok (.bipush 8, 2) := by decide +kernel
theorem DM_X7_ledger_16 : decode (mC M_X7_ledger) 16 = .ok (.invokestatic 65, 3) := by decide +kernel
theorem DM_X7_ledger_19 : decode (mC M_X7_ledger) 19 = .ok (.ifCond .eq 12, 3) := by decide +kernel
theorem DM_X7_ledger_22 : decode (mC M_X7_ledger) 22 = .ok (.iload_n 3, 1) := by decide +kernel
theorem DM_X7_ledger_23 : decode (mC M_X7_ledger) 23 = .ok (.bipush 7, 2) := by decide +kernel
theorem DM_X7_ledger_25 : decode (mC M_X7_ledger) 25 = .ok (.invokestatic 65, 3) := by decide +kernel
theorem DM_X7_ledger_28 : decode (mC M_X7_ledger) 28 = .ok (.ifCond .ne 6, 3) := by decide +kernel
theorem DM_X7_ledger_31 : decode (mC M_X7_ledger) 31 = .ok (.ldc 69, 2) := by decide +kernel
theorem DM_X7_ledger_33 : decode (mC M_X7_ledger) 33 = .ok (.ireturn, 1) := by decide +kernel
theorem DM_X7_ledger_34 : decode (mC M_X7_ledger) 34 = .ok (.aload_n 0, 1) := by decide +kernel
theorem DM_X7_ledger_35 : decode (mC M_X7_ledger) 35 = .ok (.getfield 11, 3) := by decide +kernel
theorem DM_X7_ledger_38 : decode (mC M_X7_ledger) 38 = .ok (.iload_n 1, 1) := by decide +kernel
theorem DM_X7_ledger_39 : decode (mC M_X7_ledger) 39 = .ok (.aaload, 1) := by decide +kernel
theorem DM_X7_ledger_40 : decode (mC M_X7_ledger) 40 = .ok (.astore 4, 2) := by decide +kernel
theorem DM_X7_ledger_42 : decode (mC M_X7_ledger) 42 = .ok (.aload 4, 2) := by decide +kernel
theorem DM_X7_ledger_44 : decode (mC M_X7_ledger) 44 = .ok (.invokevirtual 81, 3) := by decide +kernel
theorem DM_X7_ledger_47 : decode (mC M_X7_ledger) 47 = .ok (.ifCond .eq 9, 3) := by decide +kernel
theorem DM_X7_ledger_50 : decode (mC M_X7_ledger) 50 = .ok (.aload_n 0, 1) := by decide +kernel
theorem DM_X7_ledger_51 : decode (mC M_X7_ledger) 51 = .ok (.iconst 1, 1) := by decide +kernel
theorem DM_X7_ledger_52 : decode (mC M_X7_ledger) 52 = .ok (.invokevirtual 70, 3) := by decide +kernel
theorem DM_X7_ledger_55 : decode (mC M_X7_ledger) 55 = .ok (.ireturn, 1) := by decide +kernel
theorem DM_X7_ledger_56 : decode (mC M_X7_ledger) 56 = .ok (.aload 4, 2) := by decide +kernel
theorem DM_X7_ledger_58 : decode (mC M_X7_ledger) 58 = .ok (.iload_n 2, 1) := by decide +kernel
theorem DM_X7_ledger_59 : decode (mC M_X7_ledger) 59 = .ok (.iload_n 3, 1) := by decide +kernel
theorem DM_X7_ledger_60 : decode (mC M_X7_ledger) 60 = .ok (.invokevirtual 99, 3) := by decide +kernel
theorem DM_X7_ledger_63 : decode (mC M_X7_ledger) 63 = .ok (.ifCond .ne 9, 3) := by decide +kernel
theorem DM_X7_ledger_66 : decode (mC M_X7_ledger) 66 = .ok (.aload_n 0, 1) := by decide +kernel
theorem DM_X7_ledger_67 : decode (mC M_X7_ledger) 67 = .ok (.iconst 2, 1) := by decide +kernel
theorem DM_X7_ledger_68 : decode (mC M_X7_ledger) 68 = .ok (.invokevirtual 70, 3) := by decide +kernel
theorem DM_X7_ledger_71 : decode (mC M_X7_ledger) 71 = .ok (.ireturn, 1) := by decide +kernel
theorem DM_X7_ledger_72 : decode (mC M_X7_ledger) 72 = .ok (.aload_n 0, 1) := by decide +kernel
theorem DM_X7_ledger_73 : decode (mC M_X7_ledger) 73 = .ok (.aload 4, 2) := by decide +kernel
theorem DM_X7_ledger_75 : decode (mC M_X7_ledger) 75 = .ok (.iload_n 2, 1) := by decide +kernel
theorem DM_X7_ledger_76 : decode (mC M_X7_ledger) 76 = .ok (.iload_n 3, 1) := by decide +kernel
theorem DM_X7_ledger_77 : decode (mC M_X7_ledger) 77 = .ok (.invokevirtual 250, 3) := by decide +kernel
theorem DM_X7_ledger_80 : decode (mC M_X7_ledger) 80 = .ok (.ifCond .ne 6, 3) := by decide +kernel
theorem DM_X7_ledger_83 : decode (mC M_X7_ledger) 83 = .ok (.ldc 69, 2) := by decide +kernel
theorem DM_X7_ledger_85 : decode (mC M_X7_ledger) 85 = .ok (.ireturn, 1) := by decide +kernel
theorem DM_X7_ledger_86 : decode (mC M_X7_ledger) 86 = .ok (.iconst 0, 1) := by decide +kernel
theorem DM_X7_ledger_87 : decode (mC M_X7_ledger) 87 = .ok (.istore 5, 2) := by decide +kernel
theorem DM_X7_ledger_89 : decode (mC M_X7_ledger) 89 = .ok (.iconst 0, 1) := by decide +kernel
theorem DM_X7_ledger_90 : decode (mC M_X7_ledger) 90 = .ok (.istore 6, 2) := by decide +kernel
theorem DM_X7_ledger_92 : decode (mC M_X7_ledger) 92 = .ok (.iload 6, 2) := by decide +kernel
theorem DM_X7_ledger_94 : decode (mC M_X7_ledger) 94 = .ok (.bipush 8, 2) := by decide +kernel
theorem DM_X7_ledger_96 : decode (mC M_X7_ledger) 96 = .ok (.if_icmp .ge 31, 3) := by decide +kernel
theorem DM_X7_ledger_99 : decode (mC M_X7_ledger) 99 = .ok (.aload_n 0, 1) := by decide +kernel
theorem DM_X7_ledger_100 : decode (mC M_X7_ledger) 100 = .ok (.aload 4, 2) := by decide +kernel
theorem DM_X7_ledger_102 : decode (mC M_X7_ledger) 102 = .ok (.iload_n 2, 1) := by decide +kernel
theorem DM_X7_ledger_103 : decode (mC M_X7_ledger) 103 = .ok (.iload_n 3, 1) := by decide +kernel
theorem DM_X7_ledger_104 : decode (mC M_X7_ledger) 104 = .ok (.iload 6, 2) := by decide +kernel
theorem DM_X7_ledger_106 : decode (mC M_X7_ledger) 106 = .ok (.invokevirtual 254, 3) := by decide +kernel
theorem DM_X7_ledger_109 : decode (mC M_X7_ledger) 109 = .ok (.ifCond .eq 12, 3) := by decide +kernel
theorem DM_X7_ledger_112 : decode (mC M_X7_ledger) 112 = .ok (.iload 5, 2) := by decide +kernel
theorem DM_X7_ledger_114 : decode (mC M_X7_ledger) 114 = .ok (.iconst 1, 1) := by decide +kernel
theorem DM_X7_ledger_115 : decode (mC M_X7_ledger) 115 = .ok (.iload 6, 2) := by decide +kernel
theorem DM_X7_ledger_117 : decode (mC M_X7_ledger) 117 = .ok (.ishl, 1) := by decide +kernel
theorem DM_X7_ledger_118 : decode (mC M_X7_ledger) 118 = .ok (.ior, 1) := by decide +kernel
theorem DM_X7_ledger_119 : decode (mC M_X7_ledger) 119 = .ok (.istore 5, 2) := by decide +kernel
theorem DM_X7_ledger_121 : decode (mC M_X7_ledger) 121 = .ok (.iinc 6 1, 3) := by decide +kernel
theorem DM_X7_ledger_124 : decode (mC M_X7_ledger) 124 = .ok (.goto (-32), 3) := by decide +kernel
theorem DM_X7_ledger_127 : decode (mC M_X7_ledger) 127 = .ok (.aload_n 0, 1) := by decide +kernel
theorem DM_X7_ledger_128 : decode (mC M_X7_ledger) 128 = .ok (.iload 5, 2) := by decide +kernel
theorem DM_X7_ledger_130 : decode (mC M_X7_ledger) 130 = .ok (.invokevirtual 78, 3) := by decide +kernel
theorem DM_X7_ledger_133 : decode (mC M_X7_ledger) 133 = .ok (.ireturn, 1) := by decide +kernel
theorem DM_X7_image_0 : decode (mC M_X7_image) 0 = .ok (.iload_n 1, 1) := by decide +kernel
theorem DM_X7_image_1 : decode (mC M_X7_image) 1 = .ok (.iconst 2, 1) := by decide +kernel
theorem DM_X7_image_2 : decode (mC M_X7_image) 2 = .ok (.invokestatic 65, 3) := by decide +kernel
theorem DM_X7_image_5 : decode (mC M_X7_image) 5 = .ok (.ifCond .ne 6, 3) := by decide +kernel
theorem DM_X7_image_8 : decode (mC M_X7_image) 8 = .ok (.ldc 69, 2) := by decide +kernel
theorem DM_X7_image_10 : decode (mC M_X7_image) 10 = .ok (.ireturn, 1) := by decide +kernel
theorem DM_X7_image_11 : decode (mC M_X7_image) 11 = .ok (.aload_n 0, 1) := by decide +kernel
theorem DM_X7_image_12 : decode (mC M_X7_image) 12 = .ok (.getfield 25, 3) := by decide +kernel
theorem DM_X7_image_15 : decode (mC M_X7_image) 15 = .ok (.getfield 140, 3) := by decide +kernel
theorem DM_X7_image_18 : decode (mC M_X7_image) 18 = .ok (.ifCond .ne 6, 3) := by decide +kernel
theorem DM_X7_image_21 : decode (mC M_X7_image) 21 = .ok (.ldc 144, 2) := by decide +kernel
theorem DM_X7_image_23 : decode (mC M_X7_image) 23 = .ok (.ireturn, 1) := by decide +kernel
theorem DM_X7_image_24 : decode (mC M_X7_image) 24 = .ok (.aload_n 0, 1) := by decide +kernel
theorem DM_X7_image_25 : decode (mC M_X7_image) 25 = .ok (.getfield 32, 3) := by decide +kernel
theorem DM_X7_image_28 : decode (mC M_X7_image) 28 = .ok (.iload_n 1, 1) := by decide +kernel
theorem DM_X7_image_29 : decode (mC M_X7_image) 29 = .ok (.aaload, 1) := by decide +kernel
theorem DM_X7_image_30 : decode (mC M_X7_image) 30 = .ok (.aload_n 0, 1) := by decide +kernel
theorem DM_X7_image_31 : decode (mC M_X7_image) 31 = .ok (.getfield 25, 3) := by decide +kernel
theorem DM_X7_image_34 : decode (mC M_X7_image) 34 = .ok (.invokevirtual 130, 3) := by decide +kernel
theorem DM_X7_image_37 : decode (mC M_X7_image) 37 = .ok (.iconst 1, 1) := by decide +kernel
theorem DM_X7_image_38 : decode (mC M_X7_image) 38 = .ok (.ireturn, 1) := by decide +kernel
theorem DM_X7_restore_0 : decode (mC M_X7_restore) 0 = .ok (.iload_n 1, 1) := by decide +kernel
theorem DM_X7_restore_1 : decode (mC M_X7_restore) 1 = .ok (.iconst 2, 1) := by decide +kernel
theorem DM_X7_restore_2 : decode (mC M_X7_restore) 2 = .ok (.invokestatic 65, 3) := by decide +kernel
theorem DM_X7_restore_5 : decode (mC M_X7_restore) 5 = .ok (.ifCond .ne 6, 3) := by decide +kernel
theorem DM_X7_restore_8 : decode (mC M_X7_restore) 8 = .ok (.ldc 69, 2) := by decide +kernel
theorem DM_X7_restore_10 : decode (mC M_X7_restore) 10 = .ok (.ireturn, 1) := by decide +kernel
theorem DM_X7_restore_11 : decode (mC M_X7_restore) 11 = .ok (.aload_n 0, 1) := by decide +kernel
theorem DM_X7_restore_12 : decode (mC M_X7_restore) 12 = .ok (.getfield 32, 3) := by decide +kernel
theorem DM_X7_restore_15 : decode (mC M_X7_restore) 15 = .ok (.iload_n 1, 1) := by decide +kernel
theorem DM_X7_restore_16 : decode (mC M_X7_restore) 16 = .ok (.aaload, 1) := by decide +kernel
theorem DM_X7_restore_17 : decode (mC M_X7_restore) 17 = .ok (.getfield 140, 3) := by decide +kernel
theorem DM_X7_restore_20 : decode (mC M_X7_restore) 20 = .ok (.ifCond .ne 6, 3) := by decide +kernel
theorem DM_X7_restore_23 : decode (mC M_X7_restore) 23 = .ok (.ldc 144, 2) := by decide +kernel
theorem DM_X7_restore_25 : decode (mC M_X7_restore) 25 = .ok (.ireturn, 1) := by decide +kernel
theorem DM_X7_restore_26 : decode (mC M_X7_restore) 26 = .ok (.aload_n 0, 1) := by decide +kernel
theorem DM_X7_restore_27 : decode (mC M_X7_restore) 27 = .ok (.getfield 25, 3) := by decide +kernel
theorem DM_X7_restore_30 : decode (mC M_X7_restore) 30 = .ok (.aload_n 0, 1) := by decide +kernel
theorem DM_X7_restore_31 : decode (mC M_X7_restore) 31 = .ok (.getfield 32, 3) := by decide +kernel
theorem DM_X7_restore_34 : decode (mC M_X7_restore) 34 = .ok (.iload_n 1, 1) := by decide +kernel
theorem DM_X7_restore_35 : decode (mC M_X7_restore) 35 = .ok (.aaload, 1) := by decide +kernel
theorem DM_X7_restore_36 : decode (mC M_X7_restore) 36 = .ok (.invokevirtual 130, 3) := by decide +kernel
theorem DM_X7_restore_39 : decode (mC M_X7_restore) 39 = .ok (.aload_n 0, 1) := by decide +kernel
theorem DM_X7_restore_40 : decode (mC M_X7_restore) 40 = .ok (.getfield 39, 3) := by decide +kernel
theorem DM_X7_restore_43 : decode (mC M_X7_restore) 43 = .ok (.invokevirtual 134, 3) := by decide +kernel
theorem DM_X7_restore_46 : decode (mC M_X7_restore) 46 = .ok (.iconst 1, 1) := by decide +kernel
theorem DM_X7_restore_47 : decode (mC M_X7_restore) 47 = .ok (.ireturn, 1) := by decide +kernel
theorem DM_X7_kind_0 : decode (mC M_X7_kind) 0 = .ok (.aload_n 0, 1) := by decide +kernel
theorem DM_X7_kind_1 : decode (mC M_X7_kind) 1 = .ok (.iload_n 1, 1) := by decide +kernel
theorem DM_X7_kind_2 : decode (mC M_X7_kind) 2 = .ok (.invokevirtual 187, 3) := by decide +kernel
theorem DM_X7_kind_5 : decode (mC M_X7_kind) 5 = .ok (.ifCond .eq 15, 3) := by decide +kernel
theorem DM_X7_kind_8 : decode (mC M_X7_kind) 8 = .ok (.aload_n 0, 1) := by decide +kernel
theorem DM_X7_kind_9 : decode (mC M_X7_kind) 9 = .ok (.getfield 25, 3) := by decide +kernel
theorem DM_X7_kind_12 : decode (mC M_X7_kind) 12 = .ok (.getfield 164, 3) := by decide +kernel
theorem DM_X7_kind_15 : decode (mC M_X7_kind) 15 = .ok (.iload_n 1, 1) := by decide +kernel
theorem DM_X7_kind_16 : decode (mC M_X7_kind) 16 = .ok (.iaload, 1) := by decide +kernel
theorem DM_X7_kind_17 : decode (mC M_X7_kind) 17 = .ok (.goto 5, 3) := by decide +kernel
theorem DM_X7_kind_20 : decode (mC M_X7_kind) 20 = .ok (.ldc 69, 2) := by decide +kernel
theorem DM_X7_kind_22 : decode (mC M_X7_kind) 22 = .ok (.ireturn, 1) := by decide +kernel
theorem DM_X7_as_0 : decode (mC M_X7_as) 0 = .ok (.aload_n 0, 1) := by decide +kernel
theorem DM_X7_as_1 : decode (mC M_X7_as) 1 = .ok (.iload_n 1, 1) := by decide +kernel
theorem DM_X7_as_2 : decode (mC M_X7_as) 2 = .ok (.invokevirtual 187, 3) := by decide +kernel
theorem DM_X7_as_5 : decode (mC M_X7_as) 5 = .ok (.ifCond .eq 12, 3) := by decide +kernel
theorem DM_X7_as_8 : decode (mC M_X7_as) 8 = .ok (.iload_n 2, 1) := by decide +kernel
theorem DM_X7_as_9 : decode (mC M_X7_as) 9 = .ok (.bipush 6, 2) := by decide +kernel
theorem DM_X7_as_11 : decode (mC M_X7_as) 11 = .ok (.invokestatic 65, 3) := by decide +kernel
theorem DM_X7_as_14 : decode (mC M_X7_as) 14 = .ok (.ifCond .ne 6, 3) := by decide +kernel
theorem DM_X7_as_17 : decode (mC M_X7_as) 17 = .ok (.ldc 69, 2) := by decide +kernel
theorem DM_X7_as_19 : decode (mC M_X7_as) 19 = .ok (.ireturn, 1) := by decide +kernel
theorem DM_X7_as_20 : decode (mC M_X7_as) 20 = .ok (.aload_n 0, 1) := by decide +kernel
theorem DM_X7_as_21 : decode (mC M_X7_as) 21 = .ok (.getfield 25, 3) := by decide +kernel
theorem DM_X7_as_24 : decode (mC M_X7_as) 24 = .ok (.getfield 164, 3) := by decide +kernel
theorem DM_X7_as_27 : decode (mC M_X7_as) 27 = .ok (.iload_n 1, 1) := by decide +kernel
theorem DM_X7_as_28 : decode (mC M_X7_as) 28 = .ok (.iaload, 1) := by decide +kernel
theorem DM_X7_as_29 : decode (mC M_X7_as) 29 = .ok (.iload_n 2, 1) := by decide +kernel
theorem DM_X7_as_30 : decode (mC M_X7_as) 30 = .ok (.invokestatic 258, 3) := by decide +kernel
theorem DM_X7_as_33 : decode (mC M_X7_as) 33 = .ok (.ifCond .eq 11, 3) := by decide +kernel
theorem DM_X7_as_36 : decode (mC M_X7_as) 36 = .ok (.aload_n 0, 1) := by decide +kernel
theorem DM_X7_as_37 : decode (mC M_X7_as) 37 = .ok (.iload_n 1, 1) := by decide +kernel
theorem DM_X7_as_38 : decode (mC M_X7_as) 38 = .ok (.invokevirtual 78, 3) := by decide +kernel
theorem DM_X7_as_41 : decode (mC M_X7_as) 41 = .ok (.goto 8, 3) := by decide +kernel
theorem DM_X7_as_44 : decode (mC M_X7_as) 44 = .ok (.aload_n 0, 1) := by decide +kernel
theorem DM_X7_as_45 : decode (mC M_X7_as) 45 = .ok (.iconst 3, 1) := by decide +kernel
theorem DM_X7_as_46 : decode (mC M_X7_as) 46 = .ok (.invokevirtual 70, 3) := by decide +kernel
theorem DM_X7_as_49 : decode (mC M_X7_as) 49 = .ok (.ireturn, 1) := by decide +kernel
theorem DM_X7_ask_0 : decode (mC M_X7_ask) 0 = .ok (.aload_n 0, 1) := by decide +kernel
theorem DM_X7_ask_1 : decode (mC M_X7_ask) 1 = .ok (.iload_n 1, 1) := by decide +kernel
theorem DM_X7_ask_2 : decode (mC M_X7_ask) 2 = .ok (.invokevirtual 187, 3) := by decide +kernel
theorem DM_X7_ask_5 : decode (mC M_X7_ask) 5 = .ok (.ifCond .eq 11, 3) := by decide +kernel
theorem DM_X7_ask_8 : decode (mC M_X7_ask) 8 = .ok (.iload_n 2, 1) := by decide +kernel
theorem DM_X7_ask_9 : decode (mC M_X7_ask) 9 = .ok (.iconst 2, 1) := by decide +kernel
theorem DM_X7_ask_10 : decode (mC M_X7_ask) 10 = .ok (.invokestatic 65, 3) := by decide +kernel
theorem DM_X7_ask_13 : decode (mC M_X7_ask) 13 = .ok (.ifCond .ne 6, 3) := by decide +kernel
theorem DM_X7_ask_16 : decode (mC M_X7_ask) 16 = .ok (.ldc 69, 2) := by decide +kernel
theorem DM_X7_ask_18 : decode (mC M_X7_ask) 18 = .ok (.ireturn, 1) := by decide +kernel
theorem DM_X7_ask_19 : decode (mC M_X7_ask) 19 = .ok (.aload_n 0, 1) := by decide +kernel
theorem DM_X7_ask_20 : decode (mC M_X7_ask) 20 = .ok (.getfield 60, 3) := by decide +kernel
theorem DM_X7_ask_23 : decode (mC M_X7_ask) 23 = .ok (.aload_n 0, 1) := by decide +kernel
theorem DM_X7_ask_24 : decode (mC M_X7_ask) 24 = .ok (.getfield 25, 3) := by decide +kernel
theorem DM_X7_ask_27 : decode (mC M_X7_ask) 27 = .ok (.iload_n 1, 1) := by decide +kernel
theorem DM_X7_ask_28 : decode (mC M_X7_ask) 28 = .ok (.iload_n 2, 1) := by decide +kernel
theorem DM_X7_ask_29 : decode (mC M_X7_ask) 29 = .ok (.invokevirtual 261, 3) := by decide +kernel
theorem DM_X7_ask_32 : decode (mC M_X7_ask) 32 = .ok (.ireturn, 1) := by decide +kernel
theorem DM_X7_trace_0 : decode (mC M_X7_trace) 0 = .ok (.iload_n 1, 1) := by decide +kernel
theorem DM_X7_trace_1 : decode (mC M_X7_trace) 1 = .ok (.aload_n 0, 1) := by decide +kernel
theorem DM_X7_trace_2 : decode (mC M_X7_trace) 2 = .ok (.getfield 60, 3) := by decide +kernel
theorem DM_X7_trace_5 : decode (mC M_X7_trace) 5 = .ok (.getfield 265, 3) := by decide +kernel
theorem DM_X7_trace_8 : decode (mC M_X7_trace) 8 = .ok (.invokestatic 65, 3) := by decide +kernel
theorem DM_X7_trace_11 : decode (mC M_X7_trace) 11 = .ok (.ifCond .eq 15, 3) := by decide +kernel
theorem DM_X7_trace_14 : decode (mC M_X7_trace) 14 = .ok (.aload_n 0, 1) := by decide +kernel
theorem DM_X7_trace_15 : decode (mC M_X7_trace) 15 = .ok (.getfield 60, 3) := by decide +kernel
theorem DM_X7_trace_18 : decode (mC M_X7_trace) 18 = .ok (.getfield 268, 3) := by decide +kernel
theorem DM_X7_trace_21 : decode (mC M_X7_trace) 21 = .ok (.iload_n 1, 1) := by decide +kernel
theorem DM_X7_trace_22 : decode (mC M_X7_trace) 22 = .ok (.iaload, 1) := by decide +kernel
theorem DM_X7_trace_23 : decode (mC M_X7_trace) 23 = .ok (.goto 5, 3) := by decide +kernel
theorem DM_X7_trace_26 : decode (mC M_X7_trace) 26 = .ok (.ldc 209, 2) := by decide +kernel
theorem DM_X7_trace_28 : decode (mC M_X7_trace) 28 = .ok (.ireturn, 1) := by decide +kernel
theorem DM_X7_count_0 : decode (mC M_X7_count) 0 = .ok (.iload_n 1, 1) := by decide +kernel
theorem DM_X7_count_1 : decode (mC M_X7_count) 1 = .ok (.tableswitch 134 0 9 #[55, 60, 68, 76, 84, 92, 101, 110, 118, 126], 55) := by decide +kernel
theorem DM_X7_count_56 : decode (mC M_X7_count) 56 = .ok (.aload_n 0, 1) := by decide +kernel
theorem DM_X7_count_57 : decode (mC M_X7_count) 57 = .ok (.invokevirtual 271, 3) := by decide +kernel
theorem DM_X7_count_60 : decode (mC M_X7_count) 60 = .ok (.ireturn, 1) := by decide +kernel
theorem DM_X7_count_61 : decode (mC M_X7_count) 61 = .ok (.aload_n 0, 1) := by decide +kernel
theorem DM_X7_count_62 : decode (mC M_X7_count) 62 = .ok (.getfield 25, 3) := by decide +kernel
theorem DM_X7_count_65 : decode (mC M_X7_count) 65 = .ok (.getfield 137, 3) := by decide +kernel
theorem DM_X7_count_68 : decode (mC M_X7_count) 68 = .ok (.ireturn, 1) := by decide +kernel
theorem DM_X7_count_69 : decode (mC M_X7_count) 69 = .ok (.aload_n 0, 1) := by decide +kernel
theorem DM_X7_count_70 : decode (mC M_X7_count) 70 = .ok (.getfield 25, 3) := by decide +kernel
theorem DM_X7_count_73 : decode (mC M_X7_count) 73 = .ok (.getfield 274, 3) := by decide +kernel
theorem DM_X7_count_76 : decode (mC M_X7_count) 76 = .ok (.ireturn, 1) := by decide +kernel
theorem DM_X7_count_77 : decode (mC M_X7_count) 77 = .ok (.aload_n 0, 1) := by decide +kernel
theorem DM_X7_count_78 : decode (mC M_X7_count) 78 = .ok (.getfield 25, 3) := by decide +kernel
theorem DM_X7_count_81 : decode (mC M_X7_count) 81 = .ok (.getfield 277, 3) := by decide +kernel
theorem DM_X7_count_84 : decode (mC M_X7_count) 84 = .ok (.ireturn, 1) := by decide +kernel
theorem DM_X7_count_85 : decode (mC M_X7_count) 85 = .ok (.aload_n 0, 1) := by decide +kernel
theorem DM_X7_count_86 : decode (mC M_X7_count) 86 = .ok (.getfield 25, 3) := by decide +kernel
theorem DM_X7_count_89 : decode (mC M_X7_count) 89 = .ok (.getfield 145, 3) := by decide +kernel
theorem DM_X7_count_92 : decode (mC M_X7_count) 92 = .ok (.ireturn, 1) := by decide +kernel
theorem DM_X7_count_93 : decode (mC M_X7_count) 93 = .ok (.aload_n 0, 1) := by decide +kernel
theorem DM_X7_count_94 : decode (mC M_X7_count) 94 = .ok (.getfield 25, 3) := by decide +kernel
theorem DM_X7_count_97 : decode (mC M_X7_count) 97 = .ok (.iconst 0, 1) := by decide +kernel
theorem DM_X7_count_98 : decode (mC M_X7_count) 98 = .ok (.invokevirtual 154, 3) := by decide +kernel
theorem DM_X7_count_101 : decode (mC M_X7_count) 101 = .ok (.ireturn, 1) := by decide +kernel
theorem DM_X7_count_102 : decode (mC M_X7_count) 102 = .ok (.aload_n 0, 1) := by decide +kernel
theorem DM_X7_count_103 : decode (mC M_X7_count) 103 = .ok (.getfield 25, 3) := by decide +kernel
theorem DM_X7_count_106 : decode (mC M_X7_count) 106 = .ok (.iconst 1, 1) := by decide +kernel
theorem DM_X7_count_107 : decode (mC M_X7_count) 107 = .ok (.invokevirtual 154, 3) := by decide +kernel
theorem DM_X7_count_110 : decode (mC M_X7_count) 110 = .ok (.ireturn, 1) := by decide +kernel
theorem DM_X7_count_111 : decode (mC M_X7_count) 111 = .ok (.aload_n 0, 1) := by decide +kernel
theorem DM_X7_count_112 : decode (mC M_X7_count) 112 = .ok (.getfield 25, 3) := by decide +kernel
theorem DM_X7_count_115 : decode (mC M_X7_count) 115 = .ok (.getfield 177, 3) := by decide +kernel
theorem DM_X7_count_118 : decode (mC M_X7_count) 118 = .ok (.ireturn, 1) := by decide +kernel
theorem DM_X7_count_119 : decode (mC M_X7_count) 119 = .ok (.aload_n 0, 1) := by decide +kernel
theorem DM_X7_count_120 : decode (mC M_X7_count) 120 = .ok (.getfield 39, 3) := by decide +kernel
theorem DM_X7_count_123 : decode (mC M_X7_count) 123 = .ok (.getfield 183, 3) := by decide +kernel
theorem DM_X7_count_126 : decode (mC M_X7_count) 126 = .ok (.ireturn, 1) := by decide +kernel
theorem DM_X7_count_127 : decode (mC M_X7_count) 127 = .ok (.aload_n 0, 1) := by decide +kernel
theorem DM_X7_count_128 : decode (mC M_X7_count) 128 = .ok (.getfield 18, 3) := by decide +kernel
theorem DM_X7_count_131 : decode (mC M_X7_count) 131 = .ok (.getfield 108, 3) := by decide +kernel
theorem DM_X7_count_134 : decode (mC M_X7_count) 134 = .ok (.ireturn, 1) := by decide +kernel
theorem DM_X7_count_135 : decode (mC M_X7_count) 135 = .ok (.ldc 69, 2) := by decide +kernel
theorem DM_X7_count_137 : decode (mC M_X7_count) 137 = .ok (.ireturn, 1) := by decide +kernel
theorem DM_X7_status_0 : decode (mC M_X7_status) 0 = .ok (.aload_n 0, 1) := by decide +kernel
theorem DM_X7_status_1 : decode (mC M_X7_status) 1 = .ok (.getfield 280, 3) := by decide +kernel
theorem DM_X7_status_4 : decode (mC M_X7_status) 4 = .ok (.ireturn, 1) := by decide +kernel
theorem DM_X7_isIn_0 : decode (mC M_X7_isIn) 0 = .ok (.iload_n 0, 1) := by decide +kernel
theorem DM_X7_isIn_1 : decode (mC M_X7_isIn) 1 = .ok (.ifCond .lt 12, 3) := by decide +kernel
theorem DM_X7_isIn_4 : decode (mC M_X7_isIn) 4 = .ok (.iload_n 0, 1) := by decide +kernel
theorem DM_X7_isIn_5 : decode (mC M_X7_isIn) 5 = .ok (.iload_n 1, 1) := by decide +kernel
theorem DM_X7_isIn_6 : decode (mC M_X7_isIn) 6 = .ok (.if_icmp .ge 7, 3) := by decide +kernel
theorem DM_X7_isIn_9 : decode (mC M_X7_isIn) 9 = .ok (.iconst 1, 1) := by decide +kernel
theorem DM_X7_isIn_10 : decode (mC M_X7_isIn) 10 = .ok (.goto 4, 3) := by decide +kernel
theorem DM_X7_isIn_13 : decode (mC M_X7_isIn) 13 = .ok (.iconst 0, 1) := by decide +kernel
theorem DM_X7_isIn_14 : decode (mC M_X7_isIn) 14 = .ok (.ireturn, 1) := by decide +kernel
theorem DM_X7_isOfKind_0 : decode (mC M_X7_isOfKind) 0 = .ok (.iload_n 0, 1) := by decide +kernel
theorem DM_X7_isOfKind_1 : decode (mC M_X7_isOfKind) 1 = .ok (.istore_n 2, 1) := by decide +kernel
theorem DM_X7_isOfKind_2 : decode (mC M_X7_isOfKind) 2 = .ok (.iconst 0, 1) := by decide +kernel
theorem DM_X7_isOfKind_3 : decode (mC M_X7_isOfKind) 3 = .ok (.istore_n 3, 1) := by decide +kernel
theorem DM_X7_isOfKind_4 : decode (mC M_X7_isOfKind) 4 = .ok (.iload_n 3, 1) := by decide +kernel
theorem DM_X7_isOfKind_5 : decode (mC M_X7_isOfKind) 5 = .ok (.bipush 6, 2) := by decide +kernel
theorem DM_X7_isOfKind_7 : decode (mC M_X7_isOfKind) 7 = .ok (.if_icmp .ge 31, 3) := by decide +kernel
theorem DM_X7_isOfKind_10 : decode (mC M_X7_isOfKind) 10 = .ok (.iload_n 2, 1) := by decide +kernel
theorem DM_X7_isOfKind_11 : decode (mC M_X7_isOfKind) 11 = .ok (.bipush 6, 2) := by decide +kernel
theorem DM_X7_isOfKind_13 : decode (mC M_X7_isOfKind) 13 = .ok (.invokestatic 65, 3) := by decide +kernel
theorem DM_X7_isOfKind_16 : decode (mC M_X7_isOfKind) 16 = .ok (.ifCond .eq 22, 3) := by decide +kernel
theorem DM_X7_isOfKind_19 : decode (mC M_X7_isOfKind) 19 = .ok (.iload_n 2, 1) := by decide +kernel
theorem DM_X7_isOfKind_20 : decode (mC M_X7_isOfKind) 20 = .ok (.iload_n 1, 1) := by decide +kernel
theorem DM_X7_isOfKind_21 : decode (mC M_X7_isOfKind) 21 = .ok (.if_icmp .ne 5, 3) := by decide +kernel
theorem DM_X7_isOfKind_24 : decode (mC M_X7_isOfKind) 24 = .ok (.iconst 1, 1) := by decide +kernel
theorem DM_X7_isOfKind_25 : decode (mC M_X7_isOfKind) 25 = .ok (.ireturn, 1) := by decide +kernel
theorem DM_X7_isOfKind_26 : decode (mC M_X7_isOfKind) 26 = .ok (.getstatic 283, 3) := by decide +kernel
theorem DM_X7_isOfKind_29 : decode (mC M_X7_isOfKind) 29 = .ok (.iload_n 2, 1) := by decide +kernel
theorem DM_X7_isOfKind_30 : decode (mC M_X7_isOfKind) 30 = .ok (.iaload, 1) := by decide +kernel
theorem DM_X7_isOfKind_31 : decode (mC M_X7_isOfKind) 31 = .ok (.istore_n 2, 1) := by decide +kernel
theorem DM_X7_isOfKind_32 : decode (mC M_X7_isOfKind) 32 = .ok (.iinc 3 1, 3) := by decide +kernel
theorem DM_X7_isOfKind_35 : decode (mC M_X7_isOfKind) 35 = .ok (.goto (-31), 3) := by decide +kernel
theorem DM_X7_isOfKind_38 : decode (mC M_X7_isOfKind) 38 = .ok (.iconst 0, 1) := by decide +kernel
theorem DM_X7_isOfKind_39 : decode (mC M_X7_isOfKind) 39 = .ok (.ireturn, 1) := by decide +kernel
theorem DM_X7_found_0 : decode (mC M_X7_found) 0 = .ok (.aload_n 0, 1) := by decide +kernel
theorem DM_X7_found_1 : decode (mC M_X7_found) 1 = .ok (.iload_n 1, 1) := by decide +kernel
theorem DM_X7_found_2 : decode (mC M_X7_found) 2 = .ok (.putfield 280, 3) := by decide +kernel
theorem DM_X7_found_5 : decode (mC M_X7_found) 5 = .ok (.ldc_w 286, 3) := by decide +kernel
theorem DM_X7_found_8 : decode (mC M_X7_found) 8 = .ok (.iload_n 1, 1) := by decide +kernel
theorem DM_X7_found_9 : decode (mC M_X7_found) 9 = .ok (.isub, 1) := by decide +kernel
theorem DM_X7_found_10 : decode (mC M_X7_found) 10 = .ok (.ireturn, 1) := by decide +kernel
theorem DM_X7_unfound_0 : decode (mC M_X7_unfound) 0 = .ok (.aload_n 0, 1) := by decide +kernel
theorem DM_X7_unfound_1 : decode (mC M_X7_unfound) 1 = .ok (.iconst 0, 1) := by decide +kernel
theorem DM_X7_unfound_2 : decode (mC M_X7_unfound) 2 = .ok (.putfield 280, 3) := by decide +kernel
theorem DM_X7_unfound_5 : decode (mC M_X7_unfound) 5 = .ok (.iload_n 1, 1) := by decide +kernel
theorem DM_X7_unfound_6 : decode (mC M_X7_unfound) 6 = .ok (.ireturn, 1) := by decide +kernel
theorem DM_X7_isPerson_0 : decode (mC M_X7_isPerson) 0 = .ok (.iload_n 1, 1) := by decide +kernel
theorem DM_X7_isPerson_1 : decode (mC M_X7_isPerson) 1 = .ok (.aload_n 0, 1) := by decide +kernel
theorem DM_X7_isPerson_2 : decode (mC M_X7_isPerson) 2 = .ok (.getfield 25, 3) := by decide +kernel
theorem DM_X7_isPerson_5 : decode (mC M_X7_isPerson) 5 = .ok (.getfield 137, 3) := by decide +kernel
theorem DM_X7_isPerson_8 : decode (mC M_X7_isPerson) 8 = .ok (.invokestatic 65, 3) := by decide +kernel
theorem DM_X7_isPerson_11 : decode (mC M_X7_isPerson) 11 = .ok (.ireturn, 1) := by decide +kernel
theorem DM_X7_isPlaceOfName_0 : decode (mC M_X7_isPlaceOfName) 0 = .ok (.aload_n 0, 1) := by decide +kernel
theorem DM_X7_isPlaceOfName_1 : decode (mC M_X7_isPlaceOfName) 1 = .ok (.iload_n 1, 1) := by decide +kernel
theorem DM_X7_isPlaceOfName_2 : decode (mC M_X7_isPlaceOfName) 2 = .ok (.invokevirtual 187, 3) := by decide +kernel
theorem DM_X7_isPlaceOfName_5 : decode (mC M_X7_isPlaceOfName) 5 = .ok (.ifCond .eq 23, 3) := by decide +kernel
theorem DM_X7_isPlaceOfName_8 : decode (mC M_X7_isPlaceOfName) 8 = .ok (.iload_n 2, 1) := by decide +kernel
theorem DM_X7_isPlaceOfName_9 : decode (mC M_X7_isPlaceOfName) 9 = .ok (.aload_n 0, 1) := by decide +kernel
theorem DM_X7_isPlaceOfName_10 : decode (mC M_X7_isPlaceOfName) 10 = .ok (.getfield 25, 3) := by decide +kernel
theorem DM_X7_isPlaceOfName_13 : decode (mC M_X7_isPlaceOfName) 13 = .ok (.getfield 197, 3) := by decide +kernel
theorem DM_X7_isPlaceOfName_16 : decode (mC M_X7_isPlaceOfName) 16 = .ok (.iload_n 1, 1) := by decide +kernel
theorem DM_X7_isPlaceOfName_17 : decode (mC M_X7_isPlaceOfName) 17 = .ok (.iaload, 1) := by decide +kernel
theorem DM_X7_isPlaceOfName_18 : decode (mC M_X7_isPlaceOfName) 18 = .ok (.invokestatic 65, 3) := by decide +kernel
theorem DM_X7_isPlaceOfName_21 : decode (mC M_X7_isPlaceOfName) 21 = .ok (.ifCond .eq 7, 3) := by decide +kernel
theorem DM_X7_isPlaceOfName_24 : decode (mC M_X7_isPlaceOfName) 24 = .ok (.iconst 1, 1) := by decide +kernel
theorem DM_X7_isPlaceOfName_25 : decode (mC M_X7_isPlaceOfName) 25 = .ok (.goto 4, 3) := by decide +kernel
theorem DM_X7_isPlaceOfName_28 : decode (mC M_X7_isPlaceOfName) 28 = .ok (.iconst 0, 1) := by decide +kernel
theorem DM_X7_isPlaceOfName_29 : decode (mC M_X7_isPlaceOfName) 29 = .ok (.ireturn, 1) := by decide +kernel
theorem DM_X7_howManyRows_0 : decode (mC M_X7_howManyRows) 0 = .ok (.iconst 0, 1) := by decide +kernel
theorem DM_X7_howManyRows_1 : decode (mC M_X7_howManyRows) 1 = .ok (.istore_n 1, 1) := by decide +kernel
theorem DM_X7_howManyRows_2 : decode (mC M_X7_howManyRows) 2 = .ok (.iconst 0, 1) := by decide +kernel
theorem DM_X7_howManyRows_3 : decode (mC M_X7_howManyRows) 3 = .ok (.istore_n 2, 1) := by decide +kernel
theorem DM_X7_howManyRows_4 : decode (mC M_X7_howManyRows) 4 = .ok (.iload_n 2, 1) := by decide +kernel
theorem DM_X7_howManyRows_5 : decode (mC M_X7_howManyRows) 5 = .ok (.bipush 8, 2) := by decide +kernel
theorem DM_X7_howManyRows_7 : decode (mC M_X7_howManyRows) 7 = .ok (.if_icmp .ge 24, 3) := by decide +kernel
theorem DM_X7_howManyRows_10 : decode (mC M_X7_howManyRows) 10 = .ok (.aload_n 0, 1) := by decide +kernel
theorem DM_X7_howManyRows_11 : decode (mC M_X7_howManyRows) 11 = .ok (.getfield 11, 3) := by decide +kernel
theorem DM_X7_howManyRows_14 : decode (mC M_X7_howManyRows) 14 = .ok (.iload_n 2, 1) := by decide +kernel
theorem DM_X7_howManyRows_15 : decode (mC M_X7_howManyRows) 15 = .ok (.aaload, 1) := by decide +kernel
theorem DM_X7_howManyRows_16 : decode (mC M_X7_howManyRows) 16 = .ok (.invokevirtual 81, 3) := by decide +kernel
theorem DM_X7_howManyRows_19 : decode (mC M_X7_howManyRows) 19 = .ok (.ifCond .ne 6, 3) := by decide +kernel
theorem DM_X7_howManyRows_22 : decode (mC M_X7_howManyRows) 22 = .ok (.iinc 1 1, 3) := by decide +kernel
theorem DM_X7_howManyRows_25 : decode (mC M_X7_howManyRows) 25 = .ok (.iinc 2 1, 3) := by decide +kernel
theorem DM_X7_howManyRows_28 : decode (mC M_X7_howManyRows) 28 = .ok (.goto (-24), 3) := by decide +kernel
theorem DM_X7_howManyRows_31 : decode (mC M_X7_howManyRows) 31 = .ok (.iload_n 1, 1) := by decide +kernel
theorem DM_X7_howManyRows_32 : decode (mC M_X7_howManyRows) 32 = .ok (.ireturn, 1) := by decide +kernel
theorem DM_X7_foretell_0 : decode (mC M_X7_foretell) 0 = .ok (.aload_n 0, 1) := by decide +kernel
theorem DM_X7_foretell_1 : decode (mC M_X7_foretell) 1 = .ok (.getfield 29, 3) := by decide +kernel
theorem DM_X7_foretell_4 : decode (mC M_X7_foretell) 4 = .ok (.aload_n 0, 1) := by decide +kernel
theorem DM_X7_foretell_5 : decode (mC M_X7_foretell) 5 = .ok (.getfield 25, 3) := by decide +kernel
theorem DM_X7_foretell_8 : decode (mC M_X7_foretell) 8 = .ok (.invokevirtual 130, 3) := by decide +kernel
theorem DM_X7_foretell_11 : decode (mC M_X7_foretell) 11 = .ok (.aload_n 0, 1) := by decide +kernel
theorem DM_X7_foretell_12 : decode (mC M_X7_foretell) 12 = .ok (.getfield 29, 3) := by decide +kernel
theorem DM_X7_foretell_15 : decode (mC M_X7_foretell) 15 = .ok (.aload_n 0, 1) := by decide +kernel
theorem DM_X7_foretell_16 : decode (mC M_X7_foretell) 16 = .ok (.getfield 25, 3) := by decide +kernel
theorem DM_X7_foretell_19 : decode (mC M_X7_foretell) 19 = .ok (.getfield 145, 3) := by decide +kernel
theorem DM_X7_foretell_22 : decode (mC M_X7_foretell) 22 = .ok (.sipush 300, 3) := by decide +kernel
theorem DM_X7_foretell_25 : decode (mC M_X7_foretell) 25 = .ok (.iadd, 1) := by decide +kernel
theorem DM_X7_foretell_26 : decode (mC M_X7_foretell) 26 = .ok (.iload_n 1, 1) := by decide +kernel
theorem DM_X7_foretell_27 : decode (mC M_X7_foretell) 27 = .ok (.invokevirtual 148, 3) := by decide +kernel
theorem DM_X7_foretell_30 : decode (mC M_X7_foretell) 30 = .ok (.aload_n 0, 1) := by decide +kernel
theorem DM_X7_foretell_31 : decode (mC M_X7_foretell) 31 = .ok (.getfield 29, 3) := by decide +kernel
theorem DM_X7_foretell_34 : decode (mC M_X7_foretell) 34 = .ok (.areturn, 1) := by decide +kernel
theorem DM_X7_areAllPeople_0 : decode (mC M_X7_areAllPeople) 0 = .ok (.iconst 0, 1) := by decide +kernel
theorem DM_X7_areAllPeople_1 : decode (mC M_X7_areAllPeople) 1 = .ok (.istore 4, 2) := by decide +kernel
theorem DM_X7_areAllPeople_3 : decode (mC M_X7_areAllPeople) 3 = .ok (.iload 4, 2) := by decide +kernel
theorem DM_X7_areAllPeople_5 : decode (mC M_X7_areAllPeople) 5 = .ok (.iload_n 3, 1) := by decide +kernel
theorem DM_X7_areAllPeople_6 : decode (mC M_X7_areAllPeople) 6 = .ok (.if_icmp .ge 27, 3) := by decide +kernel
theorem DM_X7_areAllPeople_9 : decode (mC M_X7_areAllPeople) 9 = .ok (.aload_n 0, 1) := by decide +kernel
theorem DM_X7_areAllPeople_10 : decode (mC M_X7_areAllPeople) 10 = .ok (.aload_n 1, 1) := by decide +kernel
theorem DM_X7_areAllPeople_11 : decode (mC M_X7_areAllPeople) 11 = .ok (.getfield 89, 3) := by decide +kernel
theorem DM_X7_areAllPeople_14 : decode (mC M_X7_areAllPeople) 14 = .ok (.iload_n 2, 1) := by decide +kernel
theorem DM_X7_areAllPeople_15 : decode (mC M_X7_areAllPeople) 15 = .ok (.iload 4, 2) := by decide +kernel
theorem DM_X7_areAllPeople_17 : decode (mC M_X7_areAllPeople) 17 = .ok (.iadd, 1) := by decide +kernel
theorem DM_X7_areAllPeople_18 : decode (mC M_X7_areAllPeople) 18 = .ok (.iaload, 1) := by decide +kernel
theorem DM_X7_areAllPeople_19 : decode (mC M_X7_areAllPeople) 19 = .ok (.invokevirtual 187, 3) := by decide +kernel
theorem DM_X7_areAllPeople_22 : decode (mC M_X7_areAllPeople) 22 = .ok (.ifCond .ne 5, 3) := by decide +kernel
theorem DM_X7_areAllPeople_25 : decode (mC M_X7_areAllPeople) 25 = .ok (.iconst 0, 1) := by decide +kernel
theorem DM_X7_areAllPeople_26 : decode (mC M_X7_areAllPeople) 26 = .ok (.ireturn, 1) := by decide +kernel
theorem DM_X7_areAllPeople_27 : decode (mC M_X7_areAllPeople) 27 = .ok (.iinc 4 1, 3) := by decide +kernel
theorem DM_X7_areAllPeople_30 : decode (mC M_X7_areAllPeople) 30 = .ok (.goto (-27), 3) := by decide +kernel
theorem DM_X7_areAllPeople_33 : decode (mC M_X7_areAllPeople) 33 = .ok (.iconst 1, 1) := by decide +kernel
theorem DM_X7_areAllPeople_34 : decode (mC M_X7_areAllPeople) 34 = .ok (.ireturn, 1) := by decide +kernel
theorem DM_X7_areSeatedNext_0 : decode (mC M_X7_areSeatedNext) 0 = .ok (.aload_n 0, 1) := by decide +kernel
theorem DM_X7_areSeatedNext_1 : decode (mC M_X7_areSeatedNext) 1 = .ok (.getfield 29, 3) := by decide +kernel
theorem DM_X7_areSeatedNext_4 : decode (mC M_X7_areSeatedNext) 4 = .ok (.aload_n 0, 1) := by decide +kernel
theorem DM_X7_areSeatedNext_5 : decode (mC M_X7_areSeatedNext) 5 = .ok (.getfield 25, 3) := by decide +kernel
theorem DM_X7_areSeatedNext_8 : decode (mC M_X7_areSeatedNext) 8 = .ok (.invokevirtual 130, 3) := by decide +kernel
theorem DM_X7_areSeatedNext_11 : decode (mC M_X7_areSeatedNext) 11 = .ok (.aload_n 0, 1) := by decide +kernel
theorem DM_X7_areSeatedNext_12 : decode (mC M_X7_areSeatedNext) 12 = .ok (.getfield 29, 3) := by decide +kernel
theorem DM_X7_areSeatedNext_15 : decode (mC M_X7_areSeatedNext) 15 = .ok (.aload_n 0, 1) := by decide +kernel
theorem DM_X7_areSeatedNext_16 : decode (mC M_X7_areSeatedNext) 16 = .ok (.getfield 25, 3) := by decide +kernel
theorem DM_X7_areSeatedNext_19 : decode (mC M_X7_areSeatedNext) 19 = .ok (.getfield 145, 3) := by decide +kernel
theorem DM_X7_areSeatedNext_22 : decode (mC M_X7_areSeatedNext) 22 = .ok (.iconst 1, 1) := by decide +kernel
theorem DM_X7_areSeatedNext_23 : decode (mC M_X7_areSeatedNext) 23 = .ok (.iadd, 1) := by decide +kernel
theorem DM_X7_areSeatedNext_24 : decode (mC M_X7_areSeatedNext) 24 = .ok (.iload 4, 2) := by decide +kernel
theorem DM_X7_areSeatedNext_26 : decode (mC M_X7_areSeatedNext) 26 = .ok (.invokevirtual 148, 3) := by decide +kernel
theorem DM_X7_areSeatedNext_29 : decode (mC M_X7_areSeatedNext) 29 = .ok (.aload_n 0, 1) := by decide +kernel
theorem DM_X7_areSeatedNext_30 : decode (mC M_X7_areSeatedNext) 30 = .ok (.getfield 29, 3) := by decide +kernel
theorem DM_X7_areSeatedNext_33 : decode (mC M_X7_areSeatedNext) 33 = .ok (.getfield 287, 3) := by decide +kernel
theorem DM_X7_areSeatedNext_36 : decode (mC M_X7_areSeatedNext) 36 = .ok (.iload_n 3, 1) := by decide +kernel
theorem DM_X7_areSeatedNext_37 : decode (mC M_X7_areSeatedNext) 37 = .ok (.if_icmp .eq 5, 3) := by decide +kernel
theorem DM_X7_areSeatedNext_40 : decode (mC M_X7_areSeatedNext) 40 = .ok (.iconst 0, 1) := by decide +kernel
theorem DM_X7_areSeatedNext_41 : decode (mC M_X7_areSeatedNext) 41 = .ok (.ireturn, 1) := by decide +kernel
theorem DM_X7_areSeatedNext_42 : decode (mC M_X7_areSeatedNext) 42 = .ok (.iconst 0, 1) := by decide +kernel
theorem DM_X7_areSeatedNext_43 : decode (mC M_X7_areSeatedNext) 43 = .ok (.istore 5, 2) := by decide +kernel
theorem DM_X7_areSeatedNext_45 : decode (mC M_X7_areSeatedNext) 45 = .ok (.iload 5, 2) := by decide +kernel
theorem DM_X7_areSeatedNext_47 : decode (mC M_X7_areSeatedNext) 47 = .ok (.iload_n 3, 1) := by decide +kernel
theorem DM_X7_areSeatedNext_48 : decode (mC M_X7_areSeatedNext) 48 = .ok (.if_icmp .ge 33, 3) := by decide +kernel
theorem DM_X7_areSeatedNext_51 : decode (mC M_X7_areSeatedNext) 51 = .ok (.aload_n 0, 1) := by decide +kernel
theorem DM_X7_areSeatedNext_52 : decode (mC M_X7_areSeatedNext) 52 = .ok (.getfield 29, 3) := by decide +kernel
theorem DM_X7_areSeatedNext_55 : decode (mC M_X7_areSeatedNext) 55 = .ok (.getfield 290, 3) := by decide +kernel
theorem DM_X7_areSeatedNext_58 : decode (mC M_X7_areSeatedNext) 58 = .ok (.iload 5, 2) := by decide +kernel
theorem DM_X7_areSeatedNext_60 : decode (mC M_X7_areSeatedNext) 60 = .ok (.iaload, 1) := by decide +kernel
theorem DM_X7_areSeatedNext_61 : decode (mC M_X7_areSeatedNext) 61 = .ok (.aload_n 1, 1) := by decide +kernel
theorem DM_X7_areSeatedNext_62 : decode (mC M_X7_areSeatedNext) 62 = .ok (.getfield 89, 3) := by decide +kernel
theorem DM_X7_areSeatedNext_65 : decode (mC M_X7_areSeatedNext) 65 = .ok (.iload_n 2, 1) := by decide +kernel
theorem DM_X7_areSeatedNext_66 : decode (mC M_X7_areSeatedNext) 66 = .ok (.iload 5, 2) := by decide +kernel
theorem DM_X7_areSeatedNext_68 : decode (mC M_X7_areSeatedNext) 68 = .ok (.iadd, 1) := by decide +kernel
theorem DM_X7_areSeatedNext_69 : decode (mC M_X7_areSeatedNext) 69 = .ok (.iaload, 1) := by decide +kernel
theorem DM_X7_areSeatedNext_70 : decode (mC M_X7_areSeatedNext) 70 = .ok (.if_icmp .eq 5, 3) := by decide +kernel
theorem DM_X7_areSeatedNext_73 : decode (mC M_X7_areSeatedNext) 73 = .ok (.iconst 0, 1) := by decide +kernel
theorem DM_X7_areSeatedNext_74 : decode (mC M_X7_areSeatedNext) 74 = .ok (.ireturn, 1) := by decide +kernel
theorem DM_X7_areSeatedNext_75 : decode (mC M_X7_areSeatedNext) 75 = .ok (.iinc 5 1, 3) := by decide +kernel
theorem DM_X7_areSeatedNext_78 : decode (mC M_X7_areSeatedNext) 78 = .ok (.goto (-33), 3) := by decide +kernel
theorem DM_X7_areSeatedNext_81 : decode (mC M_X7_areSeatedNext) 81 = .ok (.iconst 1, 1) := by decide +kernel
theorem DM_X7_areSeatedNext_82 : decode (mC M_X7_areSeatedNext) 82 = .ok (.ireturn, 1) := by decide +kernel
theorem DM_X8_init_0 : decode (mC M_X8_init) 0 = .ok (.aload_n 0, 1) := by decide +kernel
theorem DM_X8_init_1 : decode (mC M_X8_init) 1 = .ok (.invokespecial 1, 3) := by decide +kernel
theorem DM_X8_init_4 : decode (mC M_X8_init) 4 = .ok (.aload_n 0, 1) := by decide +kernel
theorem DM_X8_init_5 : decode (mC M_X8_init) 5 = .ok (.bipush 8, 2) := by decide +kernel
theorem DM_X8_init_7 : decode (mC M_X8_init) 7 = .ok (.newarray .int, 2) := by decide +kernel
theorem DM_X8_init_9 : decode (mC M_X8_init) 9 = .ok (.putfield 7, 3) := by decide +kernel
theorem DM_X8_init_12 : decode (mC M_X8_init) 12 = .ok (.aload_n 0, 1) := by decide +kernel
theorem DM_X8_init_13 : decode (mC M_X8_init) 13 = .ok (.bipush 8, 2) := by decide +kernel
theorem DM_X8_init_15 : decode (mC M_X8_init) 15 = .ok (.newarray .int, 2) := by decide +kernel
theorem DM_X8_init_17 : decode (mC M_X8_init) 17 = .ok (.putfield 13, 3) := by decide +kernel
theorem DM_X8_init_20 : decode (mC M_X8_init) 20 = .ok (.aload_n 0, 1) := by decide +kernel
theorem DM_X8_init_21 : decode (mC M_X8_init) 21 = .ok (.sipush 320, 3) := by decide +kernel
theorem DM_X8_init_24 : decode (mC M_X8_init) 24 = .ok (.newarray .int, 2) := by decide +kernel
theorem DM_X8_init_26 : decode (mC M_X8_init) 26 = .ok (.putfield 16, 3) := by decide +kernel
theorem DM_X8_init_29 : decode (mC M_X8_init) 29 = .ok (.aload_n 0, 1) := by decide +kernel
theorem DM_X8_init_30 : decode (mC M_X8_init) 30 = .ok (.bipush 40, 2) := by decide +kernel
theorem DM_X8_init_32 : decode (mC M_X8_init) 32 = .ok (.newarray .int, 2) := by decide +kernel
theorem DM_X8_init_34 : decode (mC M_X8_init) 34 = .ok (.putfield 19, 3) := by decide +kernel
theorem DM_X8_init_37 : decode (mC M_X8_init) 37 = .ok (.aload_n 0, 1) := by decide +kernel
theorem DM_X8_init_38 : decode (mC M_X8_init) 38 = .ok (.bipush 120, 2) := by decide +kernel
theorem DM_X8_init_40 : decode (mC M_X8_init) 40 = .ok (.newarray .int, 2) := by decide +kernel
theorem DM_X8_init_42 : decode (mC M_X8_init) 42 = .ok (.putfield 22, 3) := by decide +kernel
theorem DM_X8_init_45 : decode (mC M_X8_init) 45 = .ok (.aload_n 0, 1) := by decide +kernel
theorem DM_X8_init_46 : decode (mC M_X8_init) 46 = .ok (.bipush 91, 2) := by decide +kernel
theorem DM_X8_init_48 : decode (mC M_X8_init) 48 = .ok (.newarray .int, 2) := by decide +kernel
theorem DM_X8_init_50 : decode (mC M_X8_init) 50 = .ok (.putfield 25, 3) := by decide +kernel
theorem DM_X8_init_53 : decode (mC M_X8_init) 53 = .ok (.aload_n 0, 1) := by decide +kernel
theorem DM_X8_init_54 : decode (mC M_X8_init) 54 = .ok (.bipush 91, 2) := by decide +kernel
theorem DM_X8_init_56 : decode (mC M_X8_init) 56 = .ok (.newarray .int, 2) := by decide +kernel
theorem DM_X8_init_58 : decode (mC M_X8_init) 58 = .ok (.putfield 28, 3) := by decide +kernel
theorem DM_X8_init_61 : decode (mC M_X8_init) 61 = .ok (.aload_n 0, 1) := by decide +kernel
theorem DM_X8_init_62 : decode (mC M_X8_init) 62 = .ok (.bipush 91, 2) := by decide +kernel
theorem DM_X8_init_64 : decode (mC M_X8_init) 64 = .ok (.newarray .int, 2) := by decide +kernel
theorem DM_X8_init_66 : decode (mC M_X8_init) 66 = .ok (.putfield 31, 3) := by decide +kernel
theorem DM_X8_init_69 : decode (mC M_X8_init) 69 = .ok (.aload_n 0, 1) := by decide +kernel
theorem DM_X8_init_70 : decode (mC M_X8_init) 70 = .ok (.sipush 2184, 3) := by decide +kernel
theorem DM_X8_init_73 : decode (mC M_X8_init) 73 = .ok (.newarray .int, 2) := by decide +kernel
theorem DM_X8_init_75 : decode (mC M_X8_init) 75 = .ok (.putfield 34, 3) := by decide +kernel
theorem DM_X8_init_78 : decode (mC M_X8_init) 78 = .ok (.aload_n 0, 1) := by decide +kernel
theorem DM_X8_init_79 : decode (mC M_X8_init) 79 = .ok (.sipush 182, 3) := by decide +kernel
theorem DM_X8_init_82 : decode (mC M_X8_init) 82 = .ok (.newarray .int, 2) := by decide +kernel
theorem DM_X8_init_84 : decode (mC M_X8_init) 84 = .ok (.putfield 37, 3) := by decide +kernel
theorem DM_X8_init_87 : decode (mC M_X8_init) 87 = .ok (.aload_n 0, 1) := by decide +kernel
theorem DM_X8_init_88 : decode (mC M_X8_init) 88 = .ok (.iconst 2, 1) := by decide +kernel
theorem DM_X8_init_89 : decode (mC M_X8_init) 89 = .ok (.newarray .boolean, 2) := by decide +kernel
theorem DM_X8_init_91 : decode (mC M_X8_init) 91 = .ok (.putfield 40, 3) := by decide +kernel
theorem DM_X8_init_94 : decode (mC M_X8_init) 94 = .ok (.aload_n 0, 1) := by decide +kernel
theorem DM_X8_init_95 : decode (mC M_X8_init) 95 = .ok (.bipush 16, 2) := by decide +kernel
theorem DM_X8_init_97 : decode (mC M_X8_init) 97 = .ok (.newarray .int, 2) := by decide +kernel
theorem DM_X8_init_99 : decode (mC M_X8_init) 99 = .ok (.putfield 44, 3) := by decide +kernel
theorem DM_X8_init_102 : decode (mC M_X8_init) 102 = .ok (.aload_n 0, 1) := by decide +kernel
theorem DM_X8_init_103 : decode (mC M_X8_init) 103 = .ok (.bipush 6, 2) := by decide +kernel
theorem DM_X8_init_105 : decode (mC M_X8_init) 105 = .ok (.newarray .int, 2) := by decide +kernel
theorem DM_X8_init_107 : decode (mC M_X8_init) 107 = .ok (.putfield 47, 3) := by decide +kernel
theorem DM_X8_init_110 : decode (mC M_X8_init) 110 = .ok (.aload_n 0, 1) := by decide +kernel
theorem DM_X8_init_111 : decode (mC M_X8_init) 111 = .ok (.bipush 6, 2) := by decide +kernel
theorem DM_X8_init_113 : decode (mC M_X8_init) 113 = .ok (.newarray .int, 2) := by decide +kernel
theorem DM_X8_init_115 : decode (mC M_X8_init) 115 = .ok (.putfield 50, 3) := by decide +kernel
theorem DM_X8_init_118 : decode (mC M_X8_init) 118 = .ok (.aload_n 0, 1) := by decide +kernel
theorem DM_X8_init_119 : decode (mC M_X8_init) 119 = .ok (.bipush 6, 2) := by decide +kernel
theorem DM_X8_init_121 : decode (mC M_X8_init) 121 = .ok (.newarray .int, 2) := by decide +kernel
theorem DM_X8_init_123 : decode (mC M_X8_init) 123 = .ok (.putfield 53, 3) := by decide +kernel
theorem DM_X8_init_126 : decode (mC M_X8_init) 126 = .ok (.aload_n 0, 1) := by decide +kernel
theorem DM_X8_init_127 : decode (mC M_X8_init) 127 = .ok (.bipush 6, 2) := by decide +kernel
theorem DM_X8_init_129 : decode (mC M_X8_init) 129 = .ok (.newarray .int, 2) := by decide +kernel
theorem DM_X8_init_131 : decode (mC M_X8_init) 131 = .ok (.putfield 56, 3) := by decide +kernel
theorem DM_X8_init_134 : decode (mC M_X8_init) 134 = .ok (.iconst 0, 1) := by decide +kernel
theorem DM_X8_init_135 : decode (mC M_X8_init) 135 = .ok (.istore_n 1, 1) := by decide +kernel
theorem DM_X8_init_136 : decode (mC M_X8_init) 136 = .ok (.iload_n 1, 1) := by decide +kernel
theorem DM_X8_init_137 : decode (mC M_X8_init) 137 = .ok (.bipush 8, 2) := by decide +kernel
theorem DM_X8_init_139 : decode (mC M_X8_init) 139 = .ok (.if_icmp .ge 17, 3) := by decide +kernel
theorem DM_X8_init_142 : decode (mC M_X8_init) 142 = .ok (.aload_n 0, 1) := by decide +kernel
theorem DM_X8_init_143 : decode (mC M_X8_init) 143 = .ok (.getfield 7, 3) := by decide +kernel
theorem DM_X8_init_146 : decode (mC M_X8_init) 146 = .ok (.iload_n 1, 1) := by decide +kernel
theorem DM_X8_init_147 : decode (mC M_X8_init) 147 = .ok (.ldc 59, 2) := by decide +kernel
theorem DM_X8_init_149 : decode (mC M_X8_init) 149 = .ok (.iastore, 1) := by decide +kernel
theorem DM_X8_init_150 : decode (mC M_X8_init) 150 = .ok (.iinc 1 1, 3) := by decide +kernel
theorem DM_X8_init_153 : decode (mC M_X8_init) 153 = .ok (.goto (-17), 3) := by decide +kernel
theorem DM_X8_init_156 : decode (mC M_X8_init) 156 = .ok (.return_, 1) := by decide +kernel
theorem DM_X8_in_0 : decode (mC M_X8_in) 0 = .ok (.iload_n 0, 1) := by decide +kernel
theorem DM_X8_in_1 : decode (mC M_X8_in) 1 = .ok (.iload_n 1, 1) := by decide +kernel
theorem DM_X8_in_2 : decode (mC M_X8_in) 2 = .ok (.if_icmp .lt 12, 3) := by decide +kernel
theorem DM_X8_in_5 : decode (mC M_X8_in) 5 = .ok (.iload_n 0, 1) := by decide +kernel
theorem DM_X8_in_6 : decode (mC M_X8_in) 6 = .ok (.iload_n 2, 1) := by decide +kernel
theorem DM_X8_in_7 : decode (mC M_X8_in) 7 = .ok (.if_icmp .gt 7, 3) := by decide +kernel
theorem DM_X8_in_10 : decode (mC M_X8_in) 10 = .ok (.iconst 1, 1) := by decide +kernel
theorem DM_X8_in_11 : decode (mC M_X8_in) 11 = .ok (.goto 4, 3) := by decide +kernel
theorem DM_X8_in_14 : decode (mC M_X8_in) 14 = .ok (.iconst 0, 1) := by decide +kernel
theorem DM_X8_in_15 : decode (mC M_X8_in) 15 = .ok (.ireturn, 1) := by decide +kernel
theorem DM_X8_has_0 : decode (mC M_X8_has) 0 = .ok (.iload_n 0, 1) := by decide +kernel
theorem DM_X8_has_1 : decode (mC M_X8_has) 1 = .ok (.iload_n 1, 1) := by decide +kernel
theorem DM_X8_has_2 : decode (mC M_X8_has) 2 = .ok (.ishr, 1) := by decide +kernel
theorem DM_X8_has_3 : decode (mC M_X8_has) 3 = .ok (.iconst 1, 1) := by decide +kernel
theorem DM_X8_has_4 : decode (mC M_X8_has) 4 = .ok (.iand, 1) := by decide +kernel
theorem DM_X8_has_5 : decode (mC M_X8_has) 5 = .ok (.iconst 1, 1) := by decide +kernel
theorem DM_X8_has_6 : decode (mC M_X8_has) 6 = .ok (.if_icmp .ne 7, 3) := by decide +kernel
theorem DM_X8_has_9 : decode (mC M_X8_has) 9 = .ok (.iconst 1, 1) := by decide +kernel
theorem DM_X8_has_10 : decode (mC M_X8_has) 10 = .ok (.goto 4, 3) := by decide +kernel
theorem DM_X8_has_13 : decode (mC M_X8_has) 13 = .ok (.iconst 0, 1) := by decide +kernel
theorem DM_X8_has_14 : decode (mC M_X8_has) 14 = .ok (.ireturn, 1) := by decide +kernel
theorem DM_X8_found_0 : decode (mC M_X8_found) 0 = .ok (.aload_n 0, 1) := by decide +kernel
theorem DM_X8_found_1 : decode (mC M_X8_found) 1 = .ok (.iload_n 1, 1) := by decide +kernel
theorem DM_X8_found_2 : decode (mC M_X8_found) 2 = .ok (.putfield 60, 3) := by decide +kernel
theorem DM_X8_found_5 : decode (mC M_X8_found) 5 = .ok (.ldc 64, 2) := by decide +kernel
theorem DM_X8_found_7 : decode (mC M_X8_found) 7 = .ok (.iload_n 1, 1) := by decide +kernel
theorem DM_X8_found_8 : decode (mC M_X8_found) 8 = .ok (.isub, 1) := by decide +kernel
theorem DM_X8_found_9 : decode (mC M_X8_found) 9 = .ok (.ireturn, 1) := by decide +kernel
theorem DM_X8_well_0 : decode (mC M_X8_well) 0 = .ok (.aload_n 0, 1) := by decide +kernel
theorem DM_X8_well_1 : decode (mC M_X8_well) 1 = .ok (.iconst 0, 1) := by decide +kernel
theorem DM_X8_well_2 : decode (mC M_X8_well) 2 = .ok (.putfield 60, 3) := by decide +kernel
theorem DM_X8_well_5 : decode (mC M_X8_well) 5 = .ok (.iload_n 1, 1) := by decide +kernel
theorem DM_X8_well_6 : decode (mC M_X8_well) 6 = .ok (.ireturn, 1) := by decide +kernel
theorem DM_X8_copies_0 : decode (mC M_X8_copies) 0 = .ok (.iconst 0, 1) := by decide +kernel
theorem DM_X8_copies_1 : decode (mC M_X8_copies) 1 = .ok (.istore 4, 2) := by decide +kernel
theorem DM_X8_copies_3 : decode (mC M_X8_copies) 3 = .ok (.iload 4, 2) := by decide +kernel
theorem DM_X8_copies_5 : decode (mC M_X8_copies) 5 = .ok (.bipush 91, 2) := by decide +kernel
theorem DM_X8_copies_7 : decode (mC M_X8_copies) 7 = .ok (.if_icmp .ge 21, 3) := by decide +kernel
theorem DM_X8_copies_10 : decode (mC M_X8_copies) 10 = .ok (.aload_n 2, 1) := by decide +kernel
theorem DM_X8_copies_11 : decode (mC M_X8_copies) 11 = .ok (.iload_n 3, 1) := by decide +kernel
theorem DM_X8_copies_12 : decode (mC M_X8_copies) 12 = .ok (.iload 4, 2) := by decide +kernel
theorem DM_X8_copies_14 : decode (mC M_X8_copies) 14 = .ok (.iadd, 1) := by decide +kernel
theorem DM_X8_copies_15 : decode (mC M_X8_copies) 15 = .ok (.aload_n 0, 1) := by decide +kernel
theorem DM_X8_copies_16 : decode (mC M_X8_copies) 16 = .ok (.iload_n 1, 1) := by decide +kernel
theorem DM_X8_copies_17 : decode (mC M_X8_copies) 17 = .ok (.iload 4, 2) := by decide +kernel
theorem DM_X8_copies_19 : decode (mC M_X8_copies) 19 = .ok (.iadd, 1) := by decide +kernel
theorem DM_X8_copies_20 : decode (mC M_X8_copies) 20 = .ok (.iaload, 1) := by decide +kernel
theorem DM_X8_copies_21 : decode (mC M_X8_copies) 21 = .ok (.iastore, 1) := by decide +kernel
theorem DM_X8_copies_22 : decode (mC M_X8_copies) 22 = .ok (.iinc 4 1, 3) := by decide +kernel
theorem DM_X8_copies_25 : decode (mC M_X8_copies) 25 = .ok (.goto (-22), 3) := by decide +kernel
theorem DM_X8_copies_28 : decode (mC M_X8_copies) 28 = .ok (.return_, 1) := by decide +kernel
theorem DM_X8_isRow_0 : decode (mC M_X8_isRow) 0 = .ok (.iload_n 0, 1) := by decide +kernel
theorem DM_X8_isRow_1 : decode (mC M_X8_isRow) 1 = .ok (.iconst 0, 1) := by decide +kernel
theorem DM_X8_isRow_2 : decode (mC M_X8_isRow) 2 = .ok (.bipush 7, 2) := by decide +kernel
theorem DM_X8_isRow_4 : decode (mC M_X8_isRow) 4 = .ok (.invokestatic 65, 3) := by decide +kernel
theorem DM_X8_isRow_7 : decode (mC M_X8_isRow) 7 = .ok (.ireturn, 1) := by decide +kernel
theorem DM_X8_isMissing_0 : decode (mC M_X8_isMissing) 0 = .ok (.aload_n 0, 1) := by decide +kernel
theorem DM_X8_isMissing_1 : decode (mC M_X8_isMissing) 1 = .ok (.getfield 7, 3) := by decide +kernel
theorem DM_X8_isMissing_4 : decode (mC M_X8_isMissing) 4 = .ok (.iload_n 1, 1) := by decide +kernel
theorem DM_X8_isMissing_5 : decode (mC M_X8_isMissing) 5 = .ok (.iaload, 1) := by decide +kernel
theorem DM_X8_isMissing_6 : decode (mC M_X8_isMissing) 6 = .ok (.ldc 59, 2) := by decide +kernel
theorem DM_X8_isMissing_8 : decode (mC M_X8_isMissing) 8 = .ok (.if_icmp .ne 7, 3) := by decide +kernel
theorem DM_X8_isMissing_11 : decode (mC M_X8_isMissing) 11 = .ok (.iconst 1, 1) := by decide +kernel
theorem DM_X8_isMissing_12 : decode (mC M_X8_isMissing) 12 = .ok (.goto 4, 3) := by decide +kernel
theorem DM_X8_isMissing_15 : decode (mC M_X8_isMissing) 15 = .ok (.iconst 0, 1) := by decide +kernel
theorem DM_X8_isMissing_16 : decode (mC M_X8_isMissing) 16 = .ok (.ireturn, 1) := by decide +kernel
theorem DM_X8_cut_0 : decode (mC M_X8_cut) 0 = .ok (.iload_n 0, 1) := by decide +kernel
theorem DM_X8_cut_1 : decode (mC M_X8_cut) 1 = .ok (.ifCond .ne 13, 3) := by decide +kernel
theorem DM_X8_cut_4 : decode (mC M_X8_cut) 4 = .ok (.iload_n 1, 1) := by decide +kernel
theorem DM_X8_cut_5 : decode (mC M_X8_cut) 5 = .ok (.bipush 24, 2) := by decide +kernel
theorem DM_X8_cut_7 : decode (mC M_X8_cut) 7 = .ok (.ishl, 1) := by decide +kernel
theorem DM_X8_cut_8 : decode (mC M_X8_cut) 8 = .ok (.bipush 24, 2) := by decide +kernel
theorem DM_X8_cut_10 : decode (mC M_X8_cut) 10 = .ok (.ishr, 1) := by decide +kernel
theorem DM_X8_cut_11 : decode (mC M_X8_cut) 11 = .ok (.goto 19, 3) := by decide +kernel
theorem DM_X8_cut_14 : decode (mC M_X8_cut) 14 = .ok (.iload_n 0, 1) := by decide +kernel
theorem DM_X8_cut_15 : decode (mC M_X8_cut) 15 = .ok (.iconst 1, 1) := by decide +kernel
theorem DM_X8_cut_16 : decode (mC M_X8_cut) 16 = .ok (.if_icmp .ne 13, 3) := by decide +kernel
theorem DM_X8_cut_19 : decode (mC M_X8_cut) 19 = .ok (.iload_n 1, 1) := by decide +kernel
theorem DM_X8_cut_20 : decode (mC M_X8_cut) 20 = .ok (.bipush 16, 2) := by decide +kernel
theorem DM_X8_cut_22 : decode (mC M_X8_cut) 22 = .ok (.ishl, 1) := by decide +kernel
theorem DM_X8_cut_23 : decode (mC M_X8_cut) 23 = .ok (.bipush 16, 2) := by decide +kernel
theorem DM_X8_cut_25 : decode (mC M_X8_cut) 25 = .ok (.ishr, 1) := by decide +kernel
theorem DM_X8_cut_26 : decode (mC M_X8_cut) 26 = .ok (.goto 4, 3) := by decide +kernel
theorem DM_X8_cut_29 : decode (mC M_X8_cut) 29 = .ok (.iload_n 1, 1) := by decide +kernel
theorem DM_X8_cut_30 : decode (mC M_X8_cut) 30 = .ok (.ireturn, 1) := by decide +kernel
theorem DM_X8_row_0 : decode (mC M_X8_row) 0 = .ok (.iload_n 1, 1) := by decide +kernel
theorem DM_X8_row_1 : decode (mC M_X8_row) 1 = .ok (.invokestatic 69, 3) := by decide +kernel
theorem DM_X8_row_4 : decode (mC M_X8_row) 4 = .ok (.ifCond .eq 18, 3) := by decide +kernel
theorem DM_X8_row_7 : decode (mC M_X8_row) 7 = .ok (.iload_n 2, 1) := by decide +kernel
theorem DM_X8_row_8 : decode (mC M_X8_row) 8 = .ok (.iconst 0, 1) := by decide +kernel
theorem DM_X8_row_9 : decode (mC M_X8_row) 9 = .ok (.iconst 2, 1) := by decide +kernel
theorem DM_X8_row_10 : decode (mC M_X8_row) 10 = .ok (.invokestatic 65, 3) := by decide +kernel
theorem DM_X8_row_13 : decode (mC M_X8_row) 13 = .ok (.ifCond .eq 9, 3) := by decide +kernel
theorem DM_X8_row_16 : decode (mC M_X8_row) 16 = .ok (.iload_n 3, 1) := by decide +kernel
theorem DM_X8_row_17 : decode (mC M_X8_row) 17 = .ok (.bipush 40, 2) := by decide +kernel
theorem DM_X8_row_19 : decode (mC M_X8_row) 19 = .ok (.if_icmp .le 6, 3) := by decide +kernel
theorem DM_X8_row_22 : decode (mC M_X8_row) 22 = .ok (.ldc 73, 2) := by decide +kernel
theorem DM_X8_row_24 : decode (mC M_X8_row) 24 = .ok (.ireturn, 1) := by decide +kernel
theorem DM_X8_row_25 : decode (mC M_X8_row) 25 = .ok (.iload_n 3, 1) := by decide +kernel
theorem DM_X8_row_26 : decode (mC M_X8_row) 26 = .ok (.ifCond .ge 9, 3) := by decide +kernel
theorem DM_X8_row_29 : decode (mC M_X8_row) 29 = .ok (.aload_n 0, 1) := by decide +kernel
theorem DM_X8_row_30 : decode (mC M_X8_row) 30 = .ok (.iconst 4, 1) := by decide +kernel
theorem DM_X8_row_31 : decode (mC M_X8_row) 31 = .ok (.invokevirtual 74, 3) := by decide +kernel
theorem DM_X8_row_34 : decode (mC M_X8_row) 34 = .ok (.ireturn, 1) := by decide +kernel
theorem DM_X8_row_35 : decode (mC M_X8_row) 35 = .ok (.aload_n 0, 1) := by decide +kernel
theorem DM_X8_row_36 : decode (mC M_X8_row) 36 = .ok (.getfield 7, 3) := by decide +kernel
theorem DM_X8_row_39 : decode (mC M_X8_row) 39 = .ok (.iload_n 1, 1) := by decide +kernel
theorem DM_X8_row_40 : decode (mC M_X8_row) 40 = .ok (.iload_n 2, 1) := by decide +kernel
theorem DM_X8_row_41 : decode (mC M_X8_row) 41 = .ok (.iastore, 1) := by decide +kernel
theorem DM_X8_row_42 : decode (mC M_X8_row) 42 = .ok (.aload_n 0, 1) := by decide +kernel
theorem DM_X8_row_43 : decode (mC M_X8_row) 43 = .ok (.getfield 13, 3) := by decide +kernel
theorem DM_X8_row_46 : decode (mC M_X8_row) 46 = .ok (.iload_n 1, 1) := by decide +kernel
theorem DM_X8_row_47 : decode (mC M_X8_row) 47 = .ok (.iload_n 3, 1) := by decide +kernel
theorem DM_X8_row_48 : decode (mC M_X8_row) 48 = .ok (.iastore, 1) := by decide +kernel
theorem DM_X8_row_49 : decode (mC M_X8_row) 49 = .ok (.iconst 0, 1) := by decide +kernel
theorem DM_X8_row_50 : decode (mC M_X8_row) 50 = .ok (.istore 4, 2) := by decide +kernel
theorem DM_X8_row_52 : decode (mC M_X8_row) 52 = .ok (.iload 4, 2) := by decide +kernel
theorem DM_X8_row_54 : decode (mC M_X8_row) 54 = .ok (.bipush 40, 2) := by decide +kernel
theorem DM_X8_row_56 : decode (mC M_X8_row) 56 = .ok (.if_icmp .ge 22, 3) := by decide +kernel
theorem DM_X8_row_59 : decode (mC M_X8_row) 59 = .ok (.aload_n 0, 1) := by decide +kernel
theorem DM_X8_row_60 : decode (mC M_X8_row) 60 = .ok (.getfield 16, 3) := by decide +kernel
theorem DM_X8_row_63 : decode (mC M_X8_row) 63 = .ok (.bipush 40, 2) := by decide +kernel
theorem DM_X8_row_65 : decode (mC M_X8_row) 65 = .ok (.iload_n 1, 1) := by decide +kernel
theorem DM_X8_row_66 : decode (mC M_X8_row) 66 = .ok (.imul, 1) := by decide +kernel
theorem DM_X8_row_67 : decode (mC M_X8_row) 67 = .ok (.iload 4, 2) := by decide +kernel
theorem DM_X8_row_69 : decode (mC M_X8_row) 69 = .ok (.iadd, 1) := by decide +kernel
theorem DM_X8_row_70 : decode (mC M_X8_row) 70 = .ok (.iconst 0, 1) := by decide +kernel
theorem DM_X8_row_71 : decode (mC M_X8_row) 71 = .ok (.iastore, 1) := by decide +kernel
theorem DM_X8_row_72 : decode (mC M_X8_row) 72 = .ok (.iinc 4 1, 3) := by decide +kernel
theorem DM_X8_row_75 : decode (mC M_X8_row) 75 = .ok (.goto (-23), 3) := by decide +kernel
theorem DM_X8_row_78 : decode (mC M_X8_row) 78 = .ok (.aload_n 0, 1) := by decide +kernel
theorem DM_X8_row_79 : decode (mC M_X8_row) 79 = .ok (.iload_n 3, 1) := by decide +kernel
theorem DM_X8_row_80 : decode (mC M_X8_row) 80 = .ok (.invokevirtual 78, 3) := by decide +kernel
theorem DM_X8_row_83 : decode (mC M_X8_row) 83 = .ok (.ireturn, 1) := by decide +kernel
theorem DM_X8_set_0 : decode (mC M_X8_set) 0 = .ok (.iload_n 1, 1) := by decide +kernel
theorem DM_X8_set_1 : decode (mC M_X8_set) 1 = .ok (.invokestatic 69, 3) := by decide +kernel
theorem DM_X8_set_4 : decode (mC M_X8_set) 4 = .ok (.ifCond .ne 6, 3) := by decide +kernel
theorem DM_X8_set_7 : decode (mC M_X8_set) 7 = .ok (.ldc 73, 2) := by decide +kernel
theorem DM_X8_set_9 : decode (mC M_X8_set) 9 = .ok (.ireturn, 1) := by decide +kernel
theorem DM_X8_set_10 : decode (mC M_X8_set) 10 = .ok (.aload_n 0, 1) := by decide +kernel
theorem DM_X8_set_11 : decode (mC M_X8_set) 11 = .ok (.iload_n 1, 1) := by decide +kernel
theorem DM_X8_set_12 : decode (mC M_X8_set) 12 = .ok (.invokevirtual 81, 3) := by decide +kernel
theorem DM_X8_set_15 : decode (mC M_X8_set) 15 = .ok (.ifCond .eq 9, 3) := by decide +kernel
theorem DM_X8_set_18 : decode (mC M_X8_set) 18 = .ok (.aload_n 0, 1) := by decide +kernel
theorem DM_X8_set_19 : decode (mC M_X8_set) 19 = .ok (.iconst 1, 1) := by decide +kernel
theorem DM_X8_set_20 : decode (mC M_X8_set) 20 = .ok (.invokevirtual 74, 3) := by decide +kernel
theorem DM_X8_set_23 : decode (mC M_X8_set) 23 = .ok (.ireturn, 1) := by decide +kernel
theorem DM_X8_set_24 : decode (mC M_X8_set) 24 = .ok (.iload_n 2, 1) := by decide +kernel
theorem DM_X8_set_25 : decode (mC M_X8_set) 25 = .ok (.iconst 0, 1) := by decide +kernel
theorem DM_X8_set_26 : decode (mC M_X8_set) 26 = .ok (.aload_n 0, 1) := by decide +kernel
theorem DM_X8_set_27 : decode (mC M_X8_set) 27 = .ok (.getfield 13, 3) := by decide +kernel
theorem DM_X8_set_30 : decode (mC M_X8_set) 30 = .ok (.iload_n 1, 1) := by decide +kernel
theorem DM_X8_set_31 : decode (mC M_X8_set) 31 = .ok (.iaload, 1) := by decide +kernel
theorem DM_X8_set_32 : decode (mC M_X8_set) 32 = .ok (.iconst 1, 1) := by decide +kernel
theorem DM_X8_set_33 : decode (mC M_X8_set) 33 = .ok (.isub, 1) := by decide +kernel
theorem DM_X8_set_34 : decode (mC M_X8_set) 34 = .ok (.invokestatic 65, 3) := by decide +kernel
theorem DM_X8_set_37 : decode (mC M_X8_set) 37 = .ok (.ifCond .ne 9, 3) := by decide +kernel
theorem DM_X8_set_40 : decode (mC M_X8_set) 40 = .ok (.aload_n 0, 1) := by decide +kernel
theorem DM_X8_set_41 : decode (mC M_X8_set) 41 = .ok (.iconst 2, 1) := by decide +kernel
theorem DM_X8_set_42 : decode (mC M_X8_set) 42 = .ok (.invokevirtual 74, 3) := by decide +kernel
theorem DM_X8_set_45 : decode (mC M_X8_set) 45 = .ok (.ireturn, 1) := by decide +kernel
theorem DM_X8_set_46 : decode (mC M_X8_set) 46 = .ok (.aload_n 0, 1) := by decide +kernel
theorem DM_X8_set_47 : decode (mC M_X8_set) 47 = .ok (.getfield 16, 3) := by decide +kernel
theorem DM_X8_set_50 : decode (mC M_X8_set) 50 = .ok (.bipush 40, 2) := by decide +kernel
theorem DM_X8_set_52 : decode (mC M_X8_set) 52 = .ok (.iload_n 1, 1) := by decide +kernel
theorem DM_X8_set_53 : decode (mC M_X8_set) 53 = .ok (.imul, 1) := by decide +kernel
theorem DM_X8_set_54 : decode (mC M_X8_set) 54 = .ok (.iload_n 2, 1) := by decide +kernel
theorem DM_X8_set_55 : decode (mC M_X8_set) 55 = .ok (.iadd, 1) := by decide +kernel
theorem DM_X8_set_56 : decode (mC M_X8_set) 56 = .ok (.aload_n 0, 1) := by decide +kernel
theorem DM_X8_set_57 : decode (mC M_X8_set) 57 = .ok (.getfield 7, 3) := by decide +kernel
theorem DM_X8_set_60 : decode (mC M_X8_set) 60 = .ok (.iload_n 1, 1) := by decide +kernel
theorem DM_X8_set_61 : decode (mC M_X8_set) 61 = .ok (.iaload, 1) := by decide +kernel
theorem DM_X8_set_62 : decode (mC M_X8_set) 62 = .ok (.iload_n 3, 1) := by decide +kernel
theorem DM_X8_set_63 : decode (mC M_X8_set) 63 = .ok (.invokestatic 84, 3) := by decide +kernel
theorem DM_X8_set_66 : decode (mC M_X8_set) 66 = .ok (.iastore, 1) := by decide +kernel
theorem DM_X8_set_67 : decode (mC M_X8_set) 67 = .ok (.aload_n 0, 1) := by decide +kernel
theorem DM_X8_set_68 : decode (mC M_X8_set) 68 = .ok (.aload_n 0, 1) := by decide +kernel
theorem DM_X8_set_69 : decode (mC M_X8_set) 69 = .ok (.getfield 16, 3) := by decide +kernel
theorem DM_X8_set_72 : decode (mC M_X8_set) 72 = .ok (.bipush 40, 2) := by decide +kernel
theorem DM_X8_set_74 : decode (mC M_X8_set) 74 = .ok (.iload_n 1, 1) := by decide +kernel
theorem DM_X8_set_75 : decode (mC M_X8_set) 75 = .ok (.imul, 1) := by decide +kernel
theorem DM_X8_set_76 : decode (mC M_X8_set) 76 = .ok (.iload_n 2, 1) := by decide +kernel
theorem DM_X8_set_77 : decode (mC M_X8_set) 77 = .ok (.iadd, 1) := by decide +kernel
theorem DM_X8_set_78 : decode (mC M_X8_set) 78 = .ok (.iaload, 1) := by decide +kernel
theorem DM_X8_set_79 : decode (mC M_X8_set) 79 = .ok (.invokevirtual 78, 3) := by decide +kernel
theorem DM_X8_set_82 : decode (mC M_X8_set) 82 = .ok (.ireturn, 1) := by decide +kernel
theorem DM_X8_isPart_0 : decode (mC M_X8_isPart) 0 = .ok (.iload_n 2, 1) := by decide +kernel
theorem DM_X8_isPart_1 : decode (mC M_X8_isPart) 1 = .ok (.ifCond .lt 33, 3) := by decide +kernel
theorem DM_X8_isPart_4 : decode (mC M_X8_isPart) 4 = .ok (.iload_n 3, 1) := by decide +kernel
theorem DM_X8_isPart_5 : decode (mC M_X8_isPart) 5 = .ok (.ifCond .lt 29, 3) := by decide +kernel
theorem DM_X8_isPart_8 : decode (mC M_X8_isPart) 8 = .ok (.iload_n 2, 1) := by decide +kernel
theorem DM_X8_isPart_9 : decode (mC M_X8_isPart) 9 = .ok (.aload_n 0, 1) := by decide +kernel
theorem DM_X8_isPart_10 : decode (mC M_X8_isPart) 10 = .ok (.getfield 13, 3) := by decide +kernel
theorem DM_X8_isPart_13 : decode (mC M_X8_isPart) 13 = .ok (.iload_n 1, 1) := by decide +kernel
theorem DM_X8_isPart_14 : decode (mC M_X8_isPart) 14 = .ok (.iaload, 1) := by decide +kernel
theorem DM_X8_isPart_15 : decode (mC M_X8_isPart) 15 = .ok (.if_icmp .gt 19, 3) := by decide +kernel
theorem DM_X8_isPart_18 : decode (mC M_X8_isPart) 18 = .ok (.iload_n 3, 1) := by decide +kernel
theorem DM_X8_isPart_19 : decode (mC M_X8_isPart) 19 = .ok (.aload_n 0, 1) := by decide +kernel
theorem DM_X8_isPart_20 : decode (mC M_X8_isPart) 20 = .ok (.getfield 13, 3) := by decide +kernel
theorem DM_X8_isPart_23 : decode (mC M_X8_isPart) 23 = .ok (.iload_n 1, 1) := by decide +kernel
theorem DM_X8_isPart_24 : decode (mC M_X8_isPart) 24 = .ok (.iaload, 1) := by decide +kernel
theorem DM_X8_isPart_25 : decode (mC M_X8_isPart) 25 = .ok (.iload_n 2, 1) := by decide +kernel
end
section
theorem DM_X8_isPart_26 : decode (mC M_X8_isPart) 26 = .ok (.isub, 1) := by decide +kernel
theorem DM_X8_isPart_27 : decode (mC M_X8_isPart) 27 = .ok (.if_icmp .gt 7, 3) := by decide +kernel
theorem DM_X8_isPart_30 : decode (mC M_X8_isPart) 30 = .ok (.iconst 1, 1) := by decide +kernel
theorem DM_X8_isPart_31 : decode (mC M_X8_isPart) 31 = .ok (.goto 4, 3) := by decide +kernel
theorem DM_X8_isPart_34 : decode (mC M_X8_isPart) 34 = .ok (.iconst 0, 1) := by decide +kernel
theorem DM_X8_isPart_35 : decode (mC M_X8_isPart) 35 = .ok (.ireturn, 1) := by decide +kernel
theorem DM_X8_copy_0 : decode (mC M_X8_copy) 0 = .ok (.iload_n 1, 1) := by decide +kernel
theorem DM_X8_copy_1 : decode (mC M_X8_copy) 1 = .ok (.invokestatic 69, 3) := by decide +kernel
theorem DM_X8_copy_4 : decode (mC M_X8_copy) 4 = .ok (.ifCond .eq 10, 3) := by decide +kernel
theorem DM_X8_copy_7 : decode (mC M_X8_copy) 7 = .ok (.iload_n 3, 1) := by decide +kernel
theorem DM_X8_copy_8 : decode (mC M_X8_copy) 8 = .ok (.invokestatic 69, 3) := by decide +kernel
theorem DM_X8_copy_11 : decode (mC M_X8_copy) 11 = .ok (.ifCond .ne 6, 3) := by decide +kernel
theorem DM_X8_copy_14 : decode (mC M_X8_copy) 14 = .ok (.ldc 73, 2) := by decide +kernel
theorem DM_X8_copy_16 : decode (mC M_X8_copy) 16 = .ok (.ireturn, 1) := by decide +kernel
theorem DM_X8_copy_17 : decode (mC M_X8_copy) 17 = .ok (.aload_n 0, 1) := by decide +kernel
theorem DM_X8_copy_18 : decode (mC M_X8_copy) 18 = .ok (.iload_n 1, 1) := by decide +kernel
theorem DM_X8_copy_19 : decode (mC M_X8_copy) 19 = .ok (.invokevirtual 81, 3) := by decide +kernel
theorem DM_X8_copy_22 : decode (mC M_X8_copy) 22 = .ok (.ifCond .ne 11, 3) := by decide +kernel
theorem DM_X8_copy_25 : decode (mC M_X8_copy) 25 = .ok (.aload_n 0, 1) := by decide +kernel
theorem DM_X8_copy_26 : decode (mC M_X8_copy) 26 = .ok (.iload_n 3, 1) := by decide +kernel
theorem DM_X8_copy_27 : decode (mC M_X8_copy) 27 = .ok (.invokevirtual 81, 3) := by decide +kernel
theorem DM_X8_copy_30 : decode (mC M_X8_copy) 30 = .ok (.ifCond .eq 9, 3) := by decide +kernel
theorem DM_X8_copy_33 : decode (mC M_X8_copy) 33 = .ok (.aload_n 0, 1) := by decide +kernel
theorem DM_X8_copy_34 : decode (mC M_X8_copy) 34 = .ok (.iconst 1, 1) := by decide +kernel
theorem DM_X8_copy_35 : decode (mC M_X8_copy) 35 = .ok (.invokevirtual 74, 3) := by decide +kernel
theorem DM_X8_copy_38 : decode (mC M_X8_copy) 38 = .ok (.ireturn, 1) := by decide +kernel
theorem DM_X8_copy_39 : decode (mC M_X8_copy) 39 = .ok (.aload_n 0, 1) := by decide +kernel
theorem DM_X8_copy_40 : decode (mC M_X8_copy) 40 = .ok (.getfield 7, 3) := by decide +kernel
theorem DM_X8_copy_43 : decode (mC M_X8_copy) 43 = .ok (.iload_n 1, 1) := by decide +kernel
theorem DM_X8_copy_44 : decode (mC M_X8_copy) 44 = .ok (.iaload, 1) := by decide +kernel
theorem DM_X8_copy_45 : decode (mC M_X8_copy) 45 = .ok (.aload_n 0, 1) := by decide +kernel
theorem DM_X8_copy_46 : decode (mC M_X8_copy) 46 = .ok (.getfield 7, 3) := by decide +kernel
theorem DM_X8_copy_49 : decode (mC M_X8_copy) 49 = .ok (.iload_n 3, 1) := by decide +kernel
theorem DM_X8_copy_50 : decode (mC M_X8_copy) 50 = .ok (.iaload, 1) := by decide +kernel
theorem DM_X8_copy_51 : decode (mC M_X8_copy) 51 = .ok (.if_icmp .eq 9, 3) := by decide +kernel
theorem DM_X8_copy_54 : decode (mC M_X8_copy) 54 = .ok (.aload_n 0, 1) := by decide +kernel
theorem DM_X8_copy_55 : decode (mC M_X8_copy) 55 = .ok (.iconst 5, 1) := by decide +kernel
theorem DM_X8_copy_56 : decode (mC M_X8_copy) 56 = .ok (.invokevirtual 74, 3) := by decide +kernel
theorem DM_X8_copy_59 : decode (mC M_X8_copy) 59 = .ok (.ireturn, 1) := by decide +kernel
theorem DM_X8_copy_60 : decode (mC M_X8_copy) 60 = .ok (.aload_n 0, 1) := by decide +kernel
theorem DM_X8_copy_61 : decode (mC M_X8_copy) 61 = .ok (.iload_n 1, 1) := by decide +kernel
theorem DM_X8_copy_62 : decode (mC M_X8_copy) 62 = .ok (.iload_n 2, 1) := by decide +kernel
theorem DM_X8_copy_63 : decode (mC M_X8_copy) 63 = .ok (.iload 5, 2) := by decide +kernel
theorem DM_X8_copy_65 : decode (mC M_X8_copy) 65 = .ok (.invokevirtual 88, 3) := by decide +kernel
theorem DM_X8_copy_68 : decode (mC M_X8_copy) 68 = .ok (.ifCond .eq 15, 3) := by decide +kernel
theorem DM_X8_copy_71 : decode (mC M_X8_copy) 71 = .ok (.aload_n 0, 1) := by decide +kernel
theorem DM_X8_copy_72 : decode (mC M_X8_copy) 72 = .ok (.iload_n 3, 1) := by decide +kernel
theorem DM_X8_copy_73 : decode (mC M_X8_copy) 73 = .ok (.iload 4, 2) := by decide +kernel
theorem DM_X8_copy_75 : decode (mC M_X8_copy) 75 = .ok (.iload 5, 2) := by decide +kernel
theorem DM_X8_copy_77 : decode (mC M_X8_copy) 77 = .ok (.invokevirtual 88, 3) := by decide +kernel
theorem DM_X8_copy_80 : decode (mC M_X8_copy) 80 = .ok (.ifCond .ne 9, 3) := by decide +kernel
theorem DM_X8_copy_83 : decode (mC M_X8_copy) 83 = .ok (.aload_n 0, 1) := by decide +kernel
theorem DM_X8_copy_84 : decode (mC M_X8_copy) 84 = .ok (.iconst 2, 1) := by decide +kernel
theorem DM_X8_copy_85 : decode (mC M_X8_copy) 85 = .ok (.invokevirtual 74, 3) := by decide +kernel
theorem DM_X8_copy_88 : decode (mC M_X8_copy) 88 = .ok (.ireturn, 1) := by decide +kernel
theorem DM_X8_copy_89 : decode (mC M_X8_copy) 89 = .ok (.iconst 0, 1) := by decide +kernel
theorem DM_X8_copy_90 : decode (mC M_X8_copy) 90 = .ok (.istore 6, 2) := by decide +kernel
theorem DM_X8_copy_92 : decode (mC M_X8_copy) 92 = .ok (.iload 6, 2) := by decide +kernel
theorem DM_X8_copy_94 : decode (mC M_X8_copy) 94 = .ok (.iload 5, 2) := by decide +kernel
theorem DM_X8_copy_96 : decode (mC M_X8_copy) 96 = .ok (.if_icmp .ge 30, 3) := by decide +kernel
theorem DM_X8_copy_99 : decode (mC M_X8_copy) 99 = .ok (.aload_n 0, 1) := by decide +kernel
theorem DM_X8_copy_100 : decode (mC M_X8_copy) 100 = .ok (.getfield 19, 3) := by decide +kernel
theorem DM_X8_copy_103 : decode (mC M_X8_copy) 103 = .ok (.iload 6, 2) := by decide +kernel
theorem DM_X8_copy_105 : decode (mC M_X8_copy) 105 = .ok (.aload_n 0, 1) := by decide +kernel
theorem DM_X8_copy_106 : decode (mC M_X8_copy) 106 = .ok (.getfield 16, 3) := by decide +kernel
theorem DM_X8_copy_109 : decode (mC M_X8_copy) 109 = .ok (.bipush 40, 2) := by decide +kernel
theorem DM_X8_copy_111 : decode (mC M_X8_copy) 111 = .ok (.iload_n 1, 1) := by decide +kernel
theorem DM_X8_copy_112 : decode (mC M_X8_copy) 112 = .ok (.imul, 1) := by decide +kernel
theorem DM_X8_copy_113 : decode (mC M_X8_copy) 113 = .ok (.iload_n 2, 1) := by decide +kernel
theorem DM_X8_copy_114 : decode (mC M_X8_copy) 114 = .ok (.iadd, 1) := by decide +kernel
theorem DM_X8_copy_115 : decode (mC M_X8_copy) 115 = .ok (.iload 6, 2) := by decide +kernel
theorem DM_X8_copy_117 : decode (mC M_X8_copy) 117 = .ok (.iadd, 1) := by decide +kernel
theorem DM_X8_copy_118 : decode (mC M_X8_copy) 118 = .ok (.iaload, 1) := by decide +kernel
theorem DM_X8_copy_119 : decode (mC M_X8_copy) 119 = .ok (.iastore, 1) := by decide +kernel
theorem DM_X8_copy_120 : decode (mC M_X8_copy) 120 = .ok (.iinc 6 1, 3) := by decide +kernel
theorem DM_X8_copy_123 : decode (mC M_X8_copy) 123 = .ok (.goto (-31), 3) := by decide +kernel
theorem DM_X8_copy_126 : decode (mC M_X8_copy) 126 = .ok (.iconst 0, 1) := by decide +kernel
theorem DM_X8_copy_127 : decode (mC M_X8_copy) 127 = .ok (.istore 6, 2) := by decide +kernel
theorem DM_X8_copy_129 : decode (mC M_X8_copy) 129 = .ok (.iload 6, 2) := by decide +kernel
theorem DM_X8_copy_131 : decode (mC M_X8_copy) 131 = .ok (.iload 5, 2) := by decide +kernel
theorem DM_X8_copy_133 : decode (mC M_X8_copy) 133 = .ok (.if_icmp .ge 31, 3) := by decide +kernel
theorem DM_X8_copy_136 : decode (mC M_X8_copy) 136 = .ok (.aload_n 0, 1) := by decide +kernel
theorem DM_X8_copy_137 : decode (mC M_X8_copy) 137 = .ok (.getfield 16, 3) := by decide +kernel
theorem DM_X8_copy_140 : decode (mC M_X8_copy) 140 = .ok (.bipush 40, 2) := by decide +kernel
theorem DM_X8_copy_142 : decode (mC M_X8_copy) 142 = .ok (.iload_n 3, 1) := by decide +kernel
theorem DM_X8_copy_143 : decode (mC M_X8_copy) 143 = .ok (.imul, 1) := by decide +kernel
theorem DM_X8_copy_144 : decode (mC M_X8_copy) 144 = .ok (.iload 4, 2) := by decide +kernel
theorem DM_X8_copy_146 : decode (mC M_X8_copy) 146 = .ok (.iadd, 1) := by decide +kernel
theorem DM_X8_copy_147 : decode (mC M_X8_copy) 147 = .ok (.iload 6, 2) := by decide +kernel
theorem DM_X8_copy_149 : decode (mC M_X8_copy) 149 = .ok (.iadd, 1) := by decide +kernel
theorem DM_X8_copy_150 : decode (mC M_X8_copy) 150 = .ok (.aload_n 0, 1) := by decide +kernel
theorem DM_X8_copy_151 : decode (mC M_X8_copy) 151 = .ok (.getfield 19, 3) := by decide +kernel
theorem DM_X8_copy_154 : decode (mC M_X8_copy) 154 = .ok (.iload 6, 2) := by decide +kernel
theorem DM_X8_copy_156 : decode (mC M_X8_copy) 156 = .ok (.iaload, 1) := by decide +kernel
theorem DM_X8_copy_157 : decode (mC M_X8_copy) 157 = .ok (.iastore, 1) := by decide +kernel
theorem DM_X8_copy_158 : decode (mC M_X8_copy) 158 = .ok (.iinc 6 1, 3) := by decide +kernel
theorem DM_X8_copy_161 : decode (mC M_X8_copy) 161 = .ok (.goto (-32), 3) := by decide +kernel
theorem DM_X8_copy_164 : decode (mC M_X8_copy) 164 = .ok (.aload_n 0, 1) := by decide +kernel
theorem DM_X8_copy_165 : decode (mC M_X8_copy) 165 = .ok (.iload 5, 2) := by decide +kernel
theorem DM_X8_copy_167 : decode (mC M_X8_copy) 167 = .ok (.invokevirtual 78, 3) := by decide +kernel
theorem DM_X8_copy_170 : decode (mC M_X8_copy) 170 = .ok (.ireturn, 1) := by decide +kernel
theorem DM_X8_drop_0 : decode (mC M_X8_drop) 0 = .ok (.iload_n 1, 1) := by decide +kernel
theorem DM_X8_drop_1 : decode (mC M_X8_drop) 1 = .ok (.invokestatic 69, 3) := by decide +kernel
theorem DM_X8_drop_4 : decode (mC M_X8_drop) 4 = .ok (.ifCond .ne 6, 3) := by decide +kernel
theorem DM_X8_drop_7 : decode (mC M_X8_drop) 7 = .ok (.ldc 73, 2) := by decide +kernel
theorem DM_X8_drop_9 : decode (mC M_X8_drop) 9 = .ok (.ireturn, 1) := by decide +kernel
theorem DM_X8_drop_10 : decode (mC M_X8_drop) 10 = .ok (.aload_n 0, 1) := by decide +kernel
theorem DM_X8_drop_11 : decode (mC M_X8_drop) 11 = .ok (.iload_n 1, 1) := by decide +kernel
theorem DM_X8_drop_12 : decode (mC M_X8_drop) 12 = .ok (.invokevirtual 81, 3) := by decide +kernel
theorem DM_X8_drop_15 : decode (mC M_X8_drop) 15 = .ok (.ifCond .eq 9, 3) := by decide +kernel
theorem DM_X8_drop_18 : decode (mC M_X8_drop) 18 = .ok (.aload_n 0, 1) := by decide +kernel
theorem DM_X8_drop_19 : decode (mC M_X8_drop) 19 = .ok (.iconst 1, 1) := by decide +kernel
theorem DM_X8_drop_20 : decode (mC M_X8_drop) 20 = .ok (.invokevirtual 74, 3) := by decide +kernel
theorem DM_X8_drop_23 : decode (mC M_X8_drop) 23 = .ok (.ireturn, 1) := by decide +kernel
theorem DM_X8_drop_24 : decode (mC M_X8_drop) 24 = .ok (.aload_n 0, 1) := by decide +kernel
theorem DM_X8_drop_25 : decode (mC M_X8_drop) 25 = .ok (.getfield 7, 3) := by decide +kernel
theorem DM_X8_drop_28 : decode (mC M_X8_drop) 28 = .ok (.iload_n 1, 1) := by decide +kernel
theorem DM_X8_drop_29 : decode (mC M_X8_drop) 29 = .ok (.ldc 59, 2) := by decide +kernel
theorem DM_X8_drop_31 : decode (mC M_X8_drop) 31 = .ok (.iastore, 1) := by decide +kernel
theorem DM_X8_drop_32 : decode (mC M_X8_drop) 32 = .ok (.aload_n 0, 1) := by decide +kernel
theorem DM_X8_drop_33 : decode (mC M_X8_drop) 33 = .ok (.aload_n 0, 1) := by decide +kernel
theorem DM_X8_drop_34 : decode (mC M_X8_drop) 34 = .ok (.getfield 13, 3) := by decide +kernel
theorem DM_X8_drop_37 : decode (mC M_X8_drop) 37 = .ok (.iload_n 1, 1) := by decide +kernel
theorem DM_X8_drop_38 : decode (mC M_X8_drop) 38 = .ok (.iaload, 1) := by decide +kernel
theorem DM_X8_drop_39 : decode (mC M_X8_drop) 39 = .ok (.invokevirtual 78, 3) := by decide +kernel
theorem DM_X8_drop_42 : decode (mC M_X8_drop) 42 = .ok (.ireturn, 1) := by decide +kernel
theorem DM_X8_feed_0 : decode (mC M_X8_feed) 0 = .ok (.iload_n 1, 1) := by decide +kernel
theorem DM_X8_feed_1 : decode (mC M_X8_feed) 1 = .ok (.iconst 0, 1) := by decide +kernel
theorem DM_X8_feed_2 : decode (mC M_X8_feed) 2 = .ok (.sipush 255, 3) := by decide +kernel
theorem DM_X8_feed_5 : decode (mC M_X8_feed) 5 = .ok (.invokestatic 65, 3) := by decide +kernel
theorem DM_X8_feed_8 : decode (mC M_X8_feed) 8 = .ok (.ifCond .ne 6, 3) := by decide +kernel
theorem DM_X8_feed_11 : decode (mC M_X8_feed) 11 = .ok (.ldc 73, 2) := by decide +kernel
theorem DM_X8_feed_13 : decode (mC M_X8_feed) 13 = .ok (.ireturn, 1) := by decide +kernel
theorem DM_X8_feed_14 : decode (mC M_X8_feed) 14 = .ok (.aload_n 0, 1) := by decide +kernel
theorem DM_X8_feed_15 : decode (mC M_X8_feed) 15 = .ok (.getfield 91, 3) := by decide +kernel
theorem DM_X8_feed_18 : decode (mC M_X8_feed) 18 = .ok (.bipush 120, 2) := by decide +kernel
theorem DM_X8_feed_20 : decode (mC M_X8_feed) 20 = .ok (.if_icmp .ne 6, 3) := by decide +kernel
theorem DM_X8_feed_23 : decode (mC M_X8_feed) 23 = .ok (.ldc 94, 2) := by decide +kernel
theorem DM_X8_feed_25 : decode (mC M_X8_feed) 25 = .ok (.ireturn, 1) := by decide +kernel
theorem DM_X8_feed_26 : decode (mC M_X8_feed) 26 = .ok (.aload_n 0, 1) := by decide +kernel
theorem DM_X8_feed_27 : decode (mC M_X8_feed) 27 = .ok (.getfield 22, 3) := by decide +kernel
theorem DM_X8_feed_30 : decode (mC M_X8_feed) 30 = .ok (.aload_n 0, 1) := by decide +kernel
theorem DM_X8_feed_31 : decode (mC M_X8_feed) 31 = .ok (.getfield 91, 3) := by decide +kernel
theorem DM_X8_feed_34 : decode (mC M_X8_feed) 34 = .ok (.iload_n 1, 1) := by decide +kernel
theorem DM_X8_feed_35 : decode (mC M_X8_feed) 35 = .ok (.iastore, 1) := by decide +kernel
theorem DM_X8_feed_36 : decode (mC M_X8_feed) 36 = .ok (.aload_n 0, 1) := by decide +kernel
theorem DM_X8_feed_37 : decode (mC M_X8_feed) 37 = .ok (.dup, 1) := by decide +kernel
theorem DM_X8_feed_38 : decode (mC M_X8_feed) 38 = .ok (.getfield 91, 3) := by decide +kernel
theorem DM_X8_feed_41 : decode (mC M_X8_feed) 41 = .ok (.iconst 1, 1) := by decide +kernel
theorem DM_X8_feed_42 : decode (mC M_X8_feed) 42 = .ok (.iadd, 1) := by decide +kernel
theorem DM_X8_feed_43 : decode (mC M_X8_feed) 43 = .ok (.putfield 91, 3) := by decide +kernel
theorem DM_X8_feed_46 : decode (mC M_X8_feed) 46 = .ok (.aload_n 0, 1) := by decide +kernel
theorem DM_X8_feed_47 : decode (mC M_X8_feed) 47 = .ok (.getfield 91, 3) := by decide +kernel
theorem DM_X8_feed_50 : decode (mC M_X8_feed) 50 = .ok (.ireturn, 1) := by decide +kernel
theorem DM_X8_byteAt_0 : decode (mC M_X8_byteAt) 0 = .ok (.iload_n 1, 1) := by decide +kernel
theorem DM_X8_byteAt_1 : decode (mC M_X8_byteAt) 1 = .ok (.aload_n 0, 1) := by decide +kernel
theorem DM_X8_byteAt_2 : decode (mC M_X8_byteAt) 2 = .ok (.getfield 91, 3) := by decide +kernel
theorem DM_X8_byteAt_5 : decode (mC M_X8_byteAt) 5 = .ok (.if_icmp .ge 12, 3) := by decide +kernel
theorem DM_X8_byteAt_8 : decode (mC M_X8_byteAt) 8 = .ok (.aload_n 0, 1) := by decide +kernel
theorem DM_X8_byteAt_9 : decode (mC M_X8_byteAt) 9 = .ok (.getfield 22, 3) := by decide +kernel
theorem DM_X8_byteAt_12 : decode (mC M_X8_byteAt) 12 = .ok (.iload_n 1, 1) := by decide +kernel
theorem DM_X8_byteAt_13 : decode (mC M_X8_byteAt) 13 = .ok (.iaload, 1) := by decide +kernel
theorem DM_X8_byteAt_14 : decode (mC M_X8_byteAt) 14 = .ok (.goto 4, 3) := by decide +kernel
theorem DM_X8_byteAt_17 : decode (mC M_X8_byteAt) 17 = .ok (.iconst (-1), 1) := by decide +kernel
theorem DM_X8_byteAt_18 : decode (mC M_X8_byteAt) 18 = .ok (.ireturn, 1) := by decide +kernel
theorem DM_X8_advances_0 : decode (mC M_X8_advances) 0 = .ok (.aload_n 0, 1) := by decide +kernel
theorem DM_X8_advances_1 : decode (mC M_X8_advances) 1 = .ok (.aload_n 0, 1) := by decide +kernel
theorem DM_X8_advances_2 : decode (mC M_X8_advances) 2 = .ok (.getfield 95, 3) := by decide +kernel
theorem DM_X8_advances_5 : decode (mC M_X8_advances) 5 = .ok (.putfield 98, 3) := by decide +kernel
theorem DM_X8_advances_8 : decode (mC M_X8_advances) 8 = .ok (.aload_n 0, 1) := by decide +kernel
theorem DM_X8_advances_9 : decode (mC M_X8_advances) 9 = .ok (.aload_n 0, 1) := by decide +kernel
theorem DM_X8_advances_10 : decode (mC M_X8_advances) 10 = .ok (.getfield 95, 3) := by decide +kernel
theorem DM_X8_advances_13 : decode (mC M_X8_advances) 13 = .ok (.invokevirtual 101, 3) := by decide +kernel
theorem DM_X8_advances_16 : decode (mC M_X8_advances) 16 = .ok (.istore_n 1, 1) := by decide +kernel
theorem DM_X8_advances_17 : decode (mC M_X8_advances) 17 = .ok (.aload_n 0, 1) := by decide +kernel
theorem DM_X8_advances_18 : decode (mC M_X8_advances) 18 = .ok (.iload_n 1, 1) := by decide +kernel
theorem DM_X8_advances_19 : decode (mC M_X8_advances) 19 = .ok (.putfield 104, 3) := by decide +kernel
theorem DM_X8_advances_22 : decode (mC M_X8_advances) 22 = .ok (.iload_n 1, 1) := by decide +kernel
theorem DM_X8_advances_23 : decode (mC M_X8_advances) 23 = .ok (.bipush 48, 2) := by decide +kernel
theorem DM_X8_advances_25 : decode (mC M_X8_advances) 25 = .ok (.bipush 57, 2) := by decide +kernel
theorem DM_X8_advances_27 : decode (mC M_X8_advances) 27 = .ok (.invokestatic 65, 3) := by decide +kernel
theorem DM_X8_advances_30 : decode (mC M_X8_advances) 30 = .ok (.ifCond .eq 105, 3) := by decide +kernel
theorem DM_X8_advances_33 : decode (mC M_X8_advances) 33 = .ok (.aload_n 0, 1) := by decide +kernel
theorem DM_X8_advances_34 : decode (mC M_X8_advances) 34 = .ok (.iconst 0, 1) := by decide +kernel
theorem DM_X8_advances_35 : decode (mC M_X8_advances) 35 = .ok (.putfield 104, 3) := by decide +kernel
theorem DM_X8_advances_38 : decode (mC M_X8_advances) 38 = .ok (.aload_n 0, 1) := by decide +kernel
theorem DM_X8_advances_39 : decode (mC M_X8_advances) 39 = .ok (.aload_n 0, 1) := by decide +kernel
theorem DM_X8_advances_40 : decode (mC M_X8_advances) 40 = .ok (.getfield 95, 3) := by decide +kernel
theorem DM_X8_advances_43 : decode (mC M_X8_advances) 43 = .ok (.invokevirtual 101, 3) := by decide +kernel
theorem DM_X8_advances_46 : decode (mC M_X8_advances) 46 = .ok (.bipush 48, 2) := by decide +kernel
theorem DM_X8_advances_48 : decode (mC M_X8_advances) 48 = .ok (.bipush 57, 2) := by decide +kernel
theorem DM_X8_advances_50 : decode (mC M_X8_advances) 50 = .ok (.invokestatic 65, 3) := by decide +kernel
theorem DM_X8_advances_53 : decode (mC M_X8_advances) 53 = .ok (.ifCond .eq 59, 3) := by decide +kernel
theorem DM_X8_advances_56 : decode (mC M_X8_advances) 56 = .ok (.aload_n 0, 1) := by decide +kernel
theorem DM_X8_advances_57 : decode (mC M_X8_advances) 57 = .ok (.aload_n 0, 1) := by decide +kernel
theorem DM_X8_advances_58 : decode (mC M_X8_advances) 58 = .ok (.getfield 95, 3) := by decide +kernel
theorem DM_X8_advances_61 : decode (mC M_X8_advances) 61 = .ok (.aload_n 0, 1) := by decide +kernel
theorem DM_X8_advances_62 : decode (mC M_X8_advances) 62 = .ok (.getfield 98, 3) := by decide +kernel
theorem DM_X8_advances_65 : decode (mC M_X8_advances) 65 = .ok (.isub, 1) := by decide +kernel
theorem DM_X8_advances_66 : decode (mC M_X8_advances) 66 = .ok (.iconst 2, 1) := by decide +kernel
theorem DM_X8_advances_67 : decode (mC M_X8_advances) 67 = .ok (.if_icmp .ge 25, 3) := by decide +kernel
theorem DM_X8_advances_70 : decode (mC M_X8_advances) 70 = .ok (.bipush 10, 2) := by decide +kernel
theorem DM_X8_advances_72 : decode (mC M_X8_advances) 72 = .ok (.aload_n 0, 1) := by decide +kernel
theorem DM_X8_advances_73 : decode (mC M_X8_advances) 73 = .ok (.getfield 104, 3) := by decide +kernel
theorem DM_X8_advances_76 : decode (mC M_X8_advances) 76 = .ok (.imul, 1) := by decide +kernel
theorem DM_X8_advances_77 : decode (mC M_X8_advances) 77 = .ok (.aload_n 0, 1) := by decide +kernel
theorem DM_X8_advances_78 : decode (mC M_X8_advances) 78 = .ok (.aload_n 0, 1) := by decide +kernel
theorem DM_X8_advances_79 : decode (mC M_X8_advances) 79 = .ok (.getfield 95, 3) := by decide +kernel
theorem DM_X8_advances_82 : decode (mC M_X8_advances) 82 = .ok (.invokevirtual 101, 3) := by decide +kernel
theorem DM_X8_advances_85 : decode (mC M_X8_advances) 85 = .ok (.iadd, 1) := by decide +kernel
theorem DM_X8_advances_86 : decode (mC M_X8_advances) 86 = .ok (.bipush 48, 2) := by decide +kernel
theorem DM_X8_advances_88 : decode (mC M_X8_advances) 88 = .ok (.isub, 1) := by decide +kernel
theorem DM_X8_advances_89 : decode (mC M_X8_advances) 89 = .ok (.goto 7, 3) := by decide +kernel
theorem DM_X8_advances_92 : decode (mC M_X8_advances) 92 = .ok (.aload_n 0, 1) := by decide +kernel
theorem DM_X8_advances_93 : decode (mC M_X8_advances) 93 = .ok (.getfield 104, 3) := by decide +kernel
theorem DM_X8_advances_96 : decode (mC M_X8_advances) 96 = .ok (.putfield 104, 3) := by decide +kernel
theorem DM_X8_advances_99 : decode (mC M_X8_advances) 99 = .ok (.aload_n 0, 1) := by decide +kernel
theorem DM_X8_advances_100 : decode (mC M_X8_advances) 100 = .ok (.dup, 1) := by decide +kernel
theorem DM_X8_advances_101 : decode (mC M_X8_advances) 101 = .ok (.getfield 95, 3) := by decide +kernel
theorem DM_X8_advances_104 : decode (mC M_X8_advances) 104 = .ok (.iconst 1, 1) := by decide +kernel
theorem DM_X8_advances_105 : decode (mC M_X8_advances) 105 = .ok (.iadd, 1) := by decide +kernel
theorem DM_X8_advances_106 : decode (mC M_X8_advances) 106 = .ok (.putfield 95, 3) := by decide +kernel
theorem DM_X8_advances_109 : decode (mC M_X8_advances) 109 = .ok (.goto (-71), 3) := by decide +kernel
theorem DM_X8_advances_112 : decode (mC M_X8_advances) 112 = .ok (.aload_n 0, 1) := by decide +kernel
theorem DM_X8_advances_113 : decode (mC M_X8_advances) 113 = .ok (.aload_n 0, 1) := by decide +kernel
theorem DM_X8_advances_114 : decode (mC M_X8_advances) 114 = .ok (.getfield 95, 3) := by decide +kernel
theorem DM_X8_advances_117 : decode (mC M_X8_advances) 117 = .ok (.aload_n 0, 1) := by decide +kernel
theorem DM_X8_advances_118 : decode (mC M_X8_advances) 118 = .ok (.getfield 98, 3) := by decide +kernel
theorem DM_X8_advances_121 : decode (mC M_X8_advances) 121 = .ok (.isub, 1) := by decide +kernel
theorem DM_X8_advances_122 : decode (mC M_X8_advances) 122 = .ok (.iconst 3, 1) := by decide +kernel
theorem DM_X8_advances_123 : decode (mC M_X8_advances) 123 = .ok (.if_icmp .ge 7, 3) := by decide +kernel
theorem DM_X8_advances_126 : decode (mC M_X8_advances) 126 = .ok (.iconst 2, 1) := by decide +kernel
theorem DM_X8_advances_127 : decode (mC M_X8_advances) 127 = .ok (.goto 4, 3) := by decide +kernel
theorem DM_X8_advances_130 : decode (mC M_X8_advances) 130 = .ok (.iconst 5, 1) := by decide +kernel
theorem DM_X8_advances_131 : decode (mC M_X8_advances) 131 = .ok (.putfield 107, 3) := by decide +kernel
theorem DM_X8_advances_134 : decode (mC M_X8_advances) 134 = .ok (.return_, 1) := by decide +kernel
theorem DM_X8_advances_135 : decode (mC M_X8_advances) 135 = .ok (.aload_n 0, 1) := by decide +kernel
theorem DM_X8_advances_136 : decode (mC M_X8_advances) 136 = .ok (.iload_n 1, 1) := by decide +kernel
theorem DM_X8_advances_137 : decode (mC M_X8_advances) 137 = .ok (.ifCond .ge 7, 3) := by decide +kernel
theorem DM_X8_advances_140 : decode (mC M_X8_advances) 140 = .ok (.iconst 0, 1) := by decide +kernel
theorem DM_X8_advances_141 : decode (mC M_X8_advances) 141 = .ok (.goto 39, 3) := by decide +kernel
theorem DM_X8_advances_144 : decode (mC M_X8_advances) 144 = .ok (.iload_n 1, 1) := by decide +kernel
theorem DM_X8_advances_145 : decode (mC M_X8_advances) 145 = .ok (.bipush 97, 2) := by decide +kernel
theorem DM_X8_advances_147 : decode (mC M_X8_advances) 147 = .ok (.bipush 122, 2) := by decide +kernel
theorem DM_X8_advances_149 : decode (mC M_X8_advances) 149 = .ok (.invokestatic 65, 3) := by decide +kernel
theorem DM_X8_advances_152 : decode (mC M_X8_advances) 152 = .ok (.ifCond .eq 7, 3) := by decide +kernel
theorem DM_X8_advances_155 : decode (mC M_X8_advances) 155 = .ok (.iconst 1, 1) := by decide +kernel
theorem DM_X8_advances_156 : decode (mC M_X8_advances) 156 = .ok (.goto 24, 3) := by decide +kernel
theorem DM_X8_advances_159 : decode (mC M_X8_advances) 159 = .ok (.iload_n 1, 1) := by decide +kernel
theorem DM_X8_advances_160 : decode (mC M_X8_advances) 160 = .ok (.bipush 44, 2) := by decide +kernel
theorem DM_X8_advances_162 : decode (mC M_X8_advances) 162 = .ok (.if_icmp .ne 7, 3) := by decide +kernel
theorem DM_X8_advances_165 : decode (mC M_X8_advances) 165 = .ok (.iconst 3, 1) := by decide +kernel
theorem DM_X8_advances_166 : decode (mC M_X8_advances) 166 = .ok (.goto 14, 3) := by decide +kernel
theorem DM_X8_advances_169 : decode (mC M_X8_advances) 169 = .ok (.iload_n 1, 1) := by decide +kernel
theorem DM_X8_advances_170 : decode (mC M_X8_advances) 170 = .ok (.bipush 59, 2) := by decide +kernel
theorem DM_X8_advances_172 : decode (mC M_X8_advances) 172 = .ok (.if_icmp .ne 7, 3) := by decide +kernel
theorem DM_X8_advances_175 : decode (mC M_X8_advances) 175 = .ok (.iconst 4, 1) := by decide +kernel
theorem DM_X8_advances_176 : decode (mC M_X8_advances) 176 = .ok (.goto 4, 3) := by decide +kernel
theorem DM_X8_advances_179 : decode (mC M_X8_advances) 179 = .ok (.iconst 5, 1) := by decide +kernel
theorem DM_X8_advances_180 : decode (mC M_X8_advances) 180 = .ok (.putfield 107, 3) := by decide +kernel
theorem DM_X8_advances_183 : decode (mC M_X8_advances) 183 = .ok (.aload_n 0, 1) := by decide +kernel
theorem DM_X8_advances_184 : decode (mC M_X8_advances) 184 = .ok (.dup, 1) := by decide +kernel
theorem DM_X8_advances_185 : decode (mC M_X8_advances) 185 = .ok (.getfield 95, 3) := by decide +kernel
theorem DM_X8_advances_188 : decode (mC M_X8_advances) 188 = .ok (.aload_n 0, 1) := by decide +kernel
theorem DM_X8_advances_189 : decode (mC M_X8_advances) 189 = .ok (.getfield 107, 3) := by decide +kernel
theorem DM_X8_advances_192 : decode (mC M_X8_advances) 192 = .ok (.ifCond .ne 7, 3) := by decide +kernel
theorem DM_X8_advances_195 : decode (mC M_X8_advances) 195 = .ok (.iconst 0, 1) := by decide +kernel
theorem DM_X8_advances_196 : decode (mC M_X8_advances) 196 = .ok (.goto 4, 3) := by decide +kernel
theorem DM_X8_advances_199 : decode (mC M_X8_advances) 199 = .ok (.iconst 1, 1) := by decide +kernel
theorem DM_X8_advances_200 : decode (mC M_X8_advances) 200 = .ok (.iadd, 1) := by decide +kernel
theorem DM_X8_advances_201 : decode (mC M_X8_advances) 201 = .ok (.putfield 95, 3) := by decide +kernel
theorem DM_X8_advances_204 : decode (mC M_X8_advances) 204 = .ok (.return_, 1) := by decide +kernel
theorem DM_X8_isWell_0 : decode (mC M_X8_isWell) 0 = .ok (.aload_n 0, 1) := by decide +kernel
theorem DM_X8_isWell_1 : decode (mC M_X8_isWell) 1 = .ok (.getfield 110, 3) := by decide +kernel
theorem DM_X8_isWell_4 : decode (mC M_X8_isWell) 4 = .ok (.ifCond .ge 7, 3) := by decide +kernel
theorem DM_X8_isWell_7 : decode (mC M_X8_isWell) 7 = .ok (.iconst 1, 1) := by decide +kernel
theorem DM_X8_isWell_8 : decode (mC M_X8_isWell) 8 = .ok (.goto 4, 3) := by decide +kernel
theorem DM_X8_isWell_11 : decode (mC M_X8_isWell) 11 = .ok (.iconst 0, 1) := by decide +kernel
theorem DM_X8_isWell_12 : decode (mC M_X8_isWell) 12 = .ok (.ireturn, 1) := by decide +kernel
theorem DM_X8_takes_0 : decode (mC M_X8_takes) 0 = .ok (.aload_n 0, 1) := by decide +kernel
theorem DM_X8_takes_1 : decode (mC M_X8_takes) 1 = .ok (.invokevirtual 113, 3) := by decide +kernel
theorem DM_X8_takes_4 : decode (mC M_X8_takes) 4 = .ok (.ifCond .ne 5, 3) := by decide +kernel
theorem DM_X8_takes_7 : decode (mC M_X8_takes) 7 = .ok (.iconst 0, 1) := by decide +kernel
theorem DM_X8_takes_8 : decode (mC M_X8_takes) 8 = .ok (.ireturn, 1) := by decide +kernel
theorem DM_X8_takes_9 : decode (mC M_X8_takes) 9 = .ok (.iload_n 1, 1) := by decide +kernel
theorem DM_X8_takes_10 : decode (mC M_X8_takes) 10 = .ok (.ifCond .ne 18, 3) := by decide +kernel
theorem DM_X8_takes_13 : decode (mC M_X8_takes) 13 = .ok (.aload_n 0, 1) := by decide +kernel
theorem DM_X8_takes_14 : decode (mC M_X8_takes) 14 = .ok (.aload_n 0, 1) := by decide +kernel
theorem DM_X8_takes_15 : decode (mC M_X8_takes) 15 = .ok (.getfield 98, 3) := by decide +kernel
theorem DM_X8_takes_18 : decode (mC M_X8_takes) 18 = .ok (.putfield 110, 3) := by decide +kernel
theorem DM_X8_takes_21 : decode (mC M_X8_takes) 21 = .ok (.aload_n 0, 1) := by decide +kernel
theorem DM_X8_takes_22 : decode (mC M_X8_takes) 22 = .ok (.iload_n 2, 1) := by decide +kernel
theorem DM_X8_takes_23 : decode (mC M_X8_takes) 23 = .ok (.putfield 117, 3) := by decide +kernel
theorem DM_X8_takes_26 : decode (mC M_X8_takes) 26 = .ok (.iconst 0, 1) := by decide +kernel
theorem DM_X8_takes_27 : decode (mC M_X8_takes) 27 = .ok (.ireturn, 1) := by decide +kernel
theorem DM_X8_takes_28 : decode (mC M_X8_takes) 28 = .ok (.aload_n 0, 1) := by decide +kernel
theorem DM_X8_takes_29 : decode (mC M_X8_takes) 29 = .ok (.getfield 104, 3) := by decide +kernel
theorem DM_X8_takes_32 : decode (mC M_X8_takes) 32 = .ok (.istore_n 3, 1) := by decide +kernel
theorem DM_X8_takes_33 : decode (mC M_X8_takes) 33 = .ok (.aload_n 0, 1) := by decide +kernel
theorem DM_X8_takes_34 : decode (mC M_X8_takes) 34 = .ok (.invokevirtual 120, 3) := by decide +kernel
theorem DM_X8_takes_37 : decode (mC M_X8_takes) 37 = .ok (.iload_n 3, 1) := by decide +kernel
theorem DM_X8_takes_38 : decode (mC M_X8_takes) 38 = .ok (.ireturn, 1) := by decide +kernel
theorem DM_X8_figure_0 : decode (mC M_X8_figure) 0 = .ok (.aload_n 0, 1) := by decide +kernel
theorem DM_X8_figure_1 : decode (mC M_X8_figure) 1 = .ok (.invokevirtual 113, 3) := by decide +kernel
theorem DM_X8_figure_4 : decode (mC M_X8_figure) 4 = .ok (.ifCond .eq 18, 3) := by decide +kernel
theorem DM_X8_figure_7 : decode (mC M_X8_figure) 7 = .ok (.aload_n 0, 1) := by decide +kernel
theorem DM_X8_figure_8 : decode (mC M_X8_figure) 8 = .ok (.getfield 107, 3) := by decide +kernel
theorem DM_X8_figure_11 : decode (mC M_X8_figure) 11 = .ok (.iconst 2, 1) := by decide +kernel
theorem DM_X8_figure_12 : decode (mC M_X8_figure) 12 = .ok (.if_icmp .eq 10, 3) := by decide +kernel
theorem DM_X8_figure_15 : decode (mC M_X8_figure) 15 = .ok (.aload_n 0, 1) := by decide +kernel
theorem DM_X8_figure_16 : decode (mC M_X8_figure) 16 = .ok (.iconst 0, 1) := by decide +kernel
theorem DM_X8_figure_17 : decode (mC M_X8_figure) 17 = .ok (.iconst 1, 1) := by decide +kernel
theorem DM_X8_figure_18 : decode (mC M_X8_figure) 18 = .ok (.invokevirtual 123, 3) := by decide +kernel
theorem DM_X8_figure_21 : decode (mC M_X8_figure) 21 = .ok (.ireturn, 1) := by decide +kernel
theorem DM_X8_figure_22 : decode (mC M_X8_figure) 22 = .ok (.aload_n 0, 1) := by decide +kernel
theorem DM_X8_figure_23 : decode (mC M_X8_figure) 23 = .ok (.aload_n 0, 1) := by decide +kernel
theorem DM_X8_figure_24 : decode (mC M_X8_figure) 24 = .ok (.getfield 104, 3) := by decide +kernel
theorem DM_X8_figure_27 : decode (mC M_X8_figure) 27 = .ok (.iload_n 1, 1) := by decide +kernel
theorem DM_X8_figure_28 : decode (mC M_X8_figure) 28 = .ok (.iload_n 2, 1) := by decide +kernel
theorem DM_X8_figure_29 : decode (mC M_X8_figure) 29 = .ok (.invokestatic 65, 3) := by decide +kernel
theorem DM_X8_figure_32 : decode (mC M_X8_figure) 32 = .ok (.iconst 2, 1) := by decide +kernel
theorem DM_X8_figure_33 : decode (mC M_X8_figure) 33 = .ok (.invokevirtual 123, 3) := by decide +kernel
theorem DM_X8_figure_36 : decode (mC M_X8_figure) 36 = .ok (.ireturn, 1) := by decide +kernel
theorem DM_X8_isName_0 : decode (mC M_X8_isName) 0 = .ok (.aload_n 0, 1) := by decide +kernel
theorem DM_X8_isName_1 : decode (mC M_X8_isName) 1 = .ok (.invokevirtual 113, 3) := by decide +kernel
theorem DM_X8_isName_4 : decode (mC M_X8_isName) 4 = .ok (.ifCond .eq 24, 3) := by decide +kernel
theorem DM_X8_isName_7 : decode (mC M_X8_isName) 7 = .ok (.aload_n 0, 1) := by decide +kernel
theorem DM_X8_isName_8 : decode (mC M_X8_isName) 8 = .ok (.getfield 107, 3) := by decide +kernel
theorem DM_X8_isName_11 : decode (mC M_X8_isName) 11 = .ok (.iconst 1, 1) := by decide +kernel
theorem DM_X8_isName_12 : decode (mC M_X8_isName) 12 = .ok (.if_icmp .ne 16, 3) := by decide +kernel
theorem DM_X8_isName_15 : decode (mC M_X8_isName) 15 = .ok (.aload_n 0, 1) := by decide +kernel
theorem DM_X8_isName_16 : decode (mC M_X8_isName) 16 = .ok (.getfield 104, 3) := by decide +kernel
theorem DM_X8_isName_19 : decode (mC M_X8_isName) 19 = .ok (.bipush 104, 2) := by decide +kernel
theorem DM_X8_isName_21 : decode (mC M_X8_isName) 21 = .ok (.if_icmp .gt 7, 3) := by decide +kernel
theorem DM_X8_isName_24 : decode (mC M_X8_isName) 24 = .ok (.iconst 1, 1) := by decide +kernel
theorem DM_X8_isName_25 : decode (mC M_X8_isName) 25 = .ok (.goto 4, 3) := by decide +kernel
theorem DM_X8_isName_28 : decode (mC M_X8_isName) 28 = .ok (.iconst 0, 1) := by decide +kernel
theorem DM_X8_isName_29 : decode (mC M_X8_isName) 29 = .ok (.ireturn, 1) := by decide +kernel
theorem DM_X8_readsOrder_0 : decode (mC M_X8_readsOrder) 0 = .ok (.aload_n 0, 1) := by decide +kernel
theorem DM_X8_readsOrder_1 : decode (mC M_X8_readsOrder) 1 = .ok (.aload_n 0, 1) := by decide +kernel
theorem DM_X8_readsOrder_2 : decode (mC M_X8_readsOrder) 2 = .ok (.getfield 107, 3) := by decide +kernel
theorem DM_X8_readsOrder_5 : decode (mC M_X8_readsOrder) 5 = .ok (.iconst 1, 1) := by decide +kernel
theorem DM_X8_readsOrder_6 : decode (mC M_X8_readsOrder) 6 = .ok (.if_icmp .ne 16, 3) := by decide +kernel
theorem DM_X8_readsOrder_9 : decode (mC M_X8_readsOrder) 9 = .ok (.aload_n 0, 1) := by decide +kernel
theorem DM_X8_readsOrder_10 : decode (mC M_X8_readsOrder) 10 = .ok (.getfield 104, 3) := by decide +kernel
theorem DM_X8_readsOrder_13 : decode (mC M_X8_readsOrder) 13 = .ok (.bipush 111, 2) := by decide +kernel
theorem DM_X8_readsOrder_15 : decode (mC M_X8_readsOrder) 15 = .ok (.if_icmp .ne 7, 3) := by decide +kernel
theorem DM_X8_readsOrder_18 : decode (mC M_X8_readsOrder) 18 = .ok (.iconst 1, 1) := by decide +kernel
theorem DM_X8_readsOrder_19 : decode (mC M_X8_readsOrder) 19 = .ok (.goto 4, 3) := by decide +kernel
theorem DM_X8_readsOrder_22 : decode (mC M_X8_readsOrder) 22 = .ok (.iconst 0, 1) := by decide +kernel
theorem DM_X8_readsOrder_23 : decode (mC M_X8_readsOrder) 23 = .ok (.iconst 1, 1) := by decide +kernel
theorem DM_X8_readsOrder_24 : decode (mC M_X8_readsOrder) 24 = .ok (.invokevirtual 123, 3) := by decide +kernel
theorem DM_X8_readsOrder_27 : decode (mC M_X8_readsOrder) 27 = .ok (.pop, 1) := by decide +kernel
theorem DM_X8_readsOrder_28 : decode (mC M_X8_readsOrder) 28 = .ok (.iconst 0, 1) := by decide +kernel
theorem DM_X8_readsOrder_29 : decode (mC M_X8_readsOrder) 29 = .ok (.istore_n 1, 1) := by decide +kernel
theorem DM_X8_readsOrder_30 : decode (mC M_X8_readsOrder) 30 = .ok (.iconst 0, 1) := by decide +kernel
theorem DM_X8_readsOrder_31 : decode (mC M_X8_readsOrder) 31 = .ok (.istore_n 2, 1) := by decide +kernel
theorem DM_X8_readsOrder_32 : decode (mC M_X8_readsOrder) 32 = .ok (.aload_n 0, 1) := by decide +kernel
theorem DM_X8_readsOrder_33 : decode (mC M_X8_readsOrder) 33 = .ok (.invokevirtual 127, 3) := by decide +kernel
theorem DM_X8_readsOrder_36 : decode (mC M_X8_readsOrder) 36 = .ok (.ifCond .eq 62, 3) := by decide +kernel
theorem DM_X8_readsOrder_39 : decode (mC M_X8_readsOrder) 39 = .ok (.aload_n 0, 1) := by decide +kernel
theorem DM_X8_readsOrder_40 : decode (mC M_X8_readsOrder) 40 = .ok (.getfield 104, 3) := by decide +kernel
theorem DM_X8_readsOrder_43 : decode (mC M_X8_readsOrder) 43 = .ok (.bipush 97, 2) := by decide +kernel
theorem DM_X8_readsOrder_45 : decode (mC M_X8_readsOrder) 45 = .ok (.isub, 1) := by decide +kernel
theorem DM_X8_readsOrder_46 : decode (mC M_X8_readsOrder) 46 = .ok (.istore_n 3, 1) := by decide +kernel
theorem DM_X8_readsOrder_47 : decode (mC M_X8_readsOrder) 47 = .ok (.aload_n 0, 1) := by decide +kernel
theorem DM_X8_readsOrder_48 : decode (mC M_X8_readsOrder) 48 = .ok (.iload_n 1, 1) := by decide +kernel
theorem DM_X8_readsOrder_49 : decode (mC M_X8_readsOrder) 49 = .ok (.iload_n 3, 1) := by decide +kernel
theorem DM_X8_readsOrder_50 : decode (mC M_X8_readsOrder) 50 = .ok (.invokestatic 130, 3) := by decide +kernel
theorem DM_X8_readsOrder_53 : decode (mC M_X8_readsOrder) 53 = .ok (.ifCond .ne 7, 3) := by decide +kernel
theorem DM_X8_readsOrder_56 : decode (mC M_X8_readsOrder) 56 = .ok (.iconst 1, 1) := by decide +kernel
theorem DM_X8_readsOrder_57 : decode (mC M_X8_readsOrder) 57 = .ok (.goto 4, 3) := by decide +kernel
theorem DM_X8_readsOrder_60 : decode (mC M_X8_readsOrder) 60 = .ok (.iconst 0, 1) := by decide +kernel
theorem DM_X8_readsOrder_61 : decode (mC M_X8_readsOrder) 61 = .ok (.iconst 2, 1) := by decide +kernel
theorem DM_X8_readsOrder_62 : decode (mC M_X8_readsOrder) 62 = .ok (.invokevirtual 123, 3) := by decide +kernel
theorem DM_X8_readsOrder_65 : decode (mC M_X8_readsOrder) 65 = .ok (.pop, 1) := by decide +kernel
theorem DM_X8_readsOrder_66 : decode (mC M_X8_readsOrder) 66 = .ok (.iload_n 1, 1) := by decide +kernel
theorem DM_X8_readsOrder_67 : decode (mC M_X8_readsOrder) 67 = .ok (.iconst 1, 1) := by decide +kernel
theorem DM_X8_readsOrder_68 : decode (mC M_X8_readsOrder) 68 = .ok (.iload_n 3, 1) := by decide +kernel
theorem DM_X8_readsOrder_69 : decode (mC M_X8_readsOrder) 69 = .ok (.ishl, 1) := by decide +kernel
theorem DM_X8_readsOrder_70 : decode (mC M_X8_readsOrder) 70 = .ok (.ior, 1) := by decide +kernel
theorem DM_X8_readsOrder_71 : decode (mC M_X8_readsOrder) 71 = .ok (.istore_n 1, 1) := by decide +kernel
theorem DM_X8_readsOrder_72 : decode (mC M_X8_readsOrder) 72 = .ok (.aload_n 0, 1) := by decide +kernel
theorem DM_X8_readsOrder_73 : decode (mC M_X8_readsOrder) 73 = .ok (.getfield 28, 3) := by decide +kernel
theorem DM_X8_readsOrder_76 : decode (mC M_X8_readsOrder) 76 = .ok (.iconst 5, 1) := by decide +kernel
theorem DM_X8_readsOrder_77 : decode (mC M_X8_readsOrder) 77 = .ok (.iload_n 2, 1) := by decide +kernel
theorem DM_X8_readsOrder_78 : decode (mC M_X8_readsOrder) 78 = .ok (.bipush 8, 2) := by decide +kernel
theorem DM_X8_readsOrder_80 : decode (mC M_X8_readsOrder) 80 = .ok (.if_icmp .ge 7, 3) := by decide +kernel
theorem DM_X8_readsOrder_83 : decode (mC M_X8_readsOrder) 83 = .ok (.iload_n 2, 1) := by decide +kernel
theorem DM_X8_readsOrder_84 : decode (mC M_X8_readsOrder) 84 = .ok (.goto 5, 3) := by decide +kernel
theorem DM_X8_readsOrder_87 : decode (mC M_X8_readsOrder) 87 = .ok (.bipush 7, 2) := by decide +kernel
theorem DM_X8_readsOrder_89 : decode (mC M_X8_readsOrder) 89 = .ok (.iadd, 1) := by decide +kernel
theorem DM_X8_readsOrder_90 : decode (mC M_X8_readsOrder) 90 = .ok (.iload_n 3, 1) := by decide +kernel
theorem DM_X8_readsOrder_91 : decode (mC M_X8_readsOrder) 91 = .ok (.iastore, 1) := by decide +kernel
theorem DM_X8_readsOrder_92 : decode (mC M_X8_readsOrder) 92 = .ok (.iinc 2 1, 3) := by decide +kernel
theorem DM_X8_readsOrder_95 : decode (mC M_X8_readsOrder) 95 = .ok (.goto (-63), 3) := by decide +kernel
theorem DM_X8_readsOrder_98 : decode (mC M_X8_readsOrder) 98 = .ok (.aload_n 0, 1) := by decide +kernel
theorem DM_X8_readsOrder_99 : decode (mC M_X8_readsOrder) 99 = .ok (.aload_n 0, 1) := by decide +kernel
theorem DM_X8_readsOrder_100 : decode (mC M_X8_readsOrder) 100 = .ok (.getfield 107, 3) := by decide +kernel
theorem DM_X8_readsOrder_103 : decode (mC M_X8_readsOrder) 103 = .ok (.iconst 4, 1) := by decide +kernel
theorem DM_X8_readsOrder_104 : decode (mC M_X8_readsOrder) 104 = .ok (.if_icmp .ne 7, 3) := by decide +kernel
theorem DM_X8_readsOrder_107 : decode (mC M_X8_readsOrder) 107 = .ok (.iconst 1, 1) := by decide +kernel
theorem DM_X8_readsOrder_108 : decode (mC M_X8_readsOrder) 108 = .ok (.goto 4, 3) := by decide +kernel
theorem DM_X8_readsOrder_111 : decode (mC M_X8_readsOrder) 111 = .ok (.iconst 0, 1) := by decide +kernel
theorem DM_X8_readsOrder_112 : decode (mC M_X8_readsOrder) 112 = .ok (.iconst 1, 1) := by decide +kernel
theorem DM_X8_readsOrder_113 : decode (mC M_X8_readsOrder) 113 = .ok (.invokevirtual 123, 3) := by decide +kernel
theorem DM_X8_readsOrder_116 : decode (mC M_X8_readsOrder) 116 = .ok (.pop, 1) := by decide +kernel
theorem DM_X8_readsOrder_117 : decode (mC M_X8_readsOrder) 117 = .ok (.iconst 0, 1) := by decide +kernel
theorem DM_X8_readsOrder_118 : decode (mC M_X8_readsOrder) 118 = .ok (.istore_n 3, 1) := by decide +kernel
theorem DM_X8_readsOrder_119 : decode (mC M_X8_readsOrder) 119 = .ok (.iload_n 3, 1) := by decide +kernel
theorem DM_X8_readsOrder_120 : decode (mC M_X8_readsOrder) 120 = .ok (.bipush 8, 2) := by decide +kernel
theorem DM_X8_readsOrder_122 : decode (mC M_X8_readsOrder) 122 = .ok (.if_icmp .ge 36, 3) := by decide +kernel
theorem DM_X8_readsOrder_125 : decode (mC M_X8_readsOrder) 125 = .ok (.aload_n 0, 1) := by decide +kernel
theorem DM_X8_readsOrder_126 : decode (mC M_X8_readsOrder) 126 = .ok (.invokevirtual 113, 3) := by decide +kernel
theorem DM_X8_readsOrder_129 : decode (mC M_X8_readsOrder) 129 = .ok (.ifCond .eq 29, 3) := by decide +kernel
theorem DM_X8_readsOrder_132 : decode (mC M_X8_readsOrder) 132 = .ok (.iload_n 1, 1) := by decide +kernel
theorem DM_X8_readsOrder_133 : decode (mC M_X8_readsOrder) 133 = .ok (.iload_n 3, 1) := by decide +kernel
theorem DM_X8_readsOrder_134 : decode (mC M_X8_readsOrder) 134 = .ok (.invokestatic 130, 3) := by decide +kernel
theorem DM_X8_readsOrder_137 : decode (mC M_X8_readsOrder) 137 = .ok (.ifCond .ne 15, 3) := by decide +kernel
theorem DM_X8_readsOrder_140 : decode (mC M_X8_readsOrder) 140 = .ok (.aload_n 0, 1) := by decide +kernel
theorem DM_X8_readsOrder_141 : decode (mC M_X8_readsOrder) 141 = .ok (.getfield 28, 3) := by decide +kernel
theorem DM_X8_readsOrder_144 : decode (mC M_X8_readsOrder) 144 = .ok (.iconst 5, 1) := by decide +kernel
theorem DM_X8_readsOrder_145 : decode (mC M_X8_readsOrder) 145 = .ok (.iload_n 2, 1) := by decide +kernel
theorem DM_X8_readsOrder_146 : decode (mC M_X8_readsOrder) 146 = .ok (.iadd, 1) := by decide +kernel
theorem DM_X8_readsOrder_147 : decode (mC M_X8_readsOrder) 147 = .ok (.iload_n 3, 1) := by decide +kernel
theorem DM_X8_readsOrder_148 : decode (mC M_X8_readsOrder) 148 = .ok (.iastore, 1) := by decide +kernel
theorem DM_X8_readsOrder_149 : decode (mC M_X8_readsOrder) 149 = .ok (.iinc 2 1, 3) := by decide +kernel
theorem DM_X8_readsOrder_152 : decode (mC M_X8_readsOrder) 152 = .ok (.iinc 3 1, 3) := by decide +kernel
theorem DM_X8_readsOrder_155 : decode (mC M_X8_readsOrder) 155 = .ok (.goto (-36), 3) := by decide +kernel
theorem DM_X8_readsOrder_158 : decode (mC M_X8_readsOrder) 158 = .ok (.return_, 1) := by decide +kernel
theorem DM_X8_kindOf_0 : decode (mC M_X8_kindOf) 0 = .ok (.iload_n 0, 1) := by decide +kernel
theorem DM_X8_kindOf_1 : decode (mC M_X8_kindOf) 1 = .ok (.bipush 112, 2) := by decide +kernel
theorem DM_X8_kindOf_3 : decode (mC M_X8_kindOf) 3 = .ok (.if_icmp .ne 7, 3) := by decide +kernel
theorem DM_X8_kindOf_6 : decode (mC M_X8_kindOf) 6 = .ok (.iconst 1, 1) := by decide +kernel
theorem DM_X8_kindOf_7 : decode (mC M_X8_kindOf) 7 = .ok (.goto 44, 3) := by decide +kernel
theorem DM_X8_kindOf_10 : decode (mC M_X8_kindOf) 10 = .ok (.iload_n 0, 1) := by decide +kernel
theorem DM_X8_kindOf_11 : decode (mC M_X8_kindOf) 11 = .ok (.bipush 113, 2) := by decide +kernel
theorem DM_X8_kindOf_13 : decode (mC M_X8_kindOf) 13 = .ok (.if_icmp .ne 7, 3) := by decide +kernel
theorem DM_X8_kindOf_16 : decode (mC M_X8_kindOf) 16 = .ok (.iconst 2, 1) := by decide +kernel
theorem DM_X8_kindOf_17 : decode (mC M_X8_kindOf) 17 = .ok (.goto 34, 3) := by decide +kernel
theorem DM_X8_kindOf_20 : decode (mC M_X8_kindOf) 20 = .ok (.iload_n 0, 1) := by decide +kernel
theorem DM_X8_kindOf_21 : decode (mC M_X8_kindOf) 21 = .ok (.bipush 114, 2) := by decide +kernel
theorem DM_X8_kindOf_23 : decode (mC M_X8_kindOf) 23 = .ok (.if_icmp .ne 7, 3) := by decide +kernel
theorem DM_X8_kindOf_26 : decode (mC M_X8_kindOf) 26 = .ok (.iconst 3, 1) := by decide +kernel
theorem DM_X8_kindOf_27 : decode (mC M_X8_kindOf) 27 = .ok (.goto 24, 3) := by decide +kernel
theorem DM_X8_kindOf_30 : decode (mC M_X8_kindOf) 30 = .ok (.iload_n 0, 1) := by decide +kernel
theorem DM_X8_kindOf_31 : decode (mC M_X8_kindOf) 31 = .ok (.bipush 115, 2) := by decide +kernel
theorem DM_X8_kindOf_33 : decode (mC M_X8_kindOf) 33 = .ok (.if_icmp .ne 7, 3) := by decide +kernel
theorem DM_X8_kindOf_36 : decode (mC M_X8_kindOf) 36 = .ok (.iconst 4, 1) := by decide +kernel
theorem DM_X8_kindOf_37 : decode (mC M_X8_kindOf) 37 = .ok (.goto 14, 3) := by decide +kernel
theorem DM_X8_kindOf_40 : decode (mC M_X8_kindOf) 40 = .ok (.iload_n 0, 1) := by decide +kernel
theorem DM_X8_kindOf_41 : decode (mC M_X8_kindOf) 41 = .ok (.bipush 116, 2) := by decide +kernel
theorem DM_X8_kindOf_43 : decode (mC M_X8_kindOf) 43 = .ok (.if_icmp .ne 7, 3) := by decide +kernel
theorem DM_X8_kindOf_46 : decode (mC M_X8_kindOf) 46 = .ok (.iconst 5, 1) := by decide +kernel
theorem DM_X8_kindOf_47 : decode (mC M_X8_kindOf) 47 = .ok (.goto 4, 3) := by decide +kernel
theorem DM_X8_kindOf_50 : decode (mC M_X8_kindOf) 50 = .ok (.iconst 0, 1) := by decide +kernel
theorem DM_X8_kindOf_51 : decode (mC M_X8_kindOf) 51 = .ok (.ireturn, 1) := by decide +kernel
theorem DM_X8_readsPerson_0 : decode (mC M_X8_readsPerson) 0 = .ok (.aload_n 0, 1) := by decide +kernel
theorem DM_X8_readsPerson_1 : decode (mC M_X8_readsPerson) 1 = .ok (.getfield 104, 3) := by decide +kernel
theorem DM_X8_readsPerson_4 : decode (mC M_X8_readsPerson) 4 = .ok (.invokestatic 134, 3) := by decide +kernel
theorem DM_X8_readsPerson_7 : decode (mC M_X8_readsPerson) 7 = .ok (.istore_n 1, 1) := by decide +kernel
theorem DM_X8_readsPerson_8 : decode (mC M_X8_readsPerson) 8 = .ok (.aload_n 0, 1) := by decide +kernel
theorem DM_X8_readsPerson_9 : decode (mC M_X8_readsPerson) 9 = .ok (.aload_n 0, 1) := by decide +kernel
theorem DM_X8_readsPerson_10 : decode (mC M_X8_readsPerson) 10 = .ok (.getfield 28, 3) := by decide +kernel
theorem DM_X8_readsPerson_13 : decode (mC M_X8_readsPerson) 13 = .ok (.iconst 2, 1) := by decide +kernel
theorem DM_X8_readsPerson_14 : decode (mC M_X8_readsPerson) 14 = .ok (.iaload, 1) := by decide +kernel
theorem DM_X8_readsPerson_15 : decode (mC M_X8_readsPerson) 15 = .ok (.bipush 6, 2) := by decide +kernel
theorem DM_X8_readsPerson_17 : decode (mC M_X8_readsPerson) 17 = .ok (.if_icmp .ge 7, 3) := by decide +kernel
theorem DM_X8_readsPerson_20 : decode (mC M_X8_readsPerson) 20 = .ok (.iconst 1, 1) := by decide +kernel
theorem DM_X8_readsPerson_21 : decode (mC M_X8_readsPerson) 21 = .ok (.goto 4, 3) := by decide +kernel
theorem DM_X8_readsPerson_24 : decode (mC M_X8_readsPerson) 24 = .ok (.iconst 0, 1) := by decide +kernel
theorem DM_X8_readsPerson_25 : decode (mC M_X8_readsPerson) 25 = .ok (.iconst 3, 1) := by decide +kernel
theorem DM_X8_readsPerson_26 : decode (mC M_X8_readsPerson) 26 = .ok (.invokevirtual 123, 3) := by decide +kernel
theorem DM_X8_readsPerson_29 : decode (mC M_X8_readsPerson) 29 = .ok (.pop, 1) := by decide +kernel
theorem DM_X8_readsPerson_30 : decode (mC M_X8_readsPerson) 30 = .ok (.bipush 13, 2) := by decide +kernel
theorem DM_X8_readsPerson_32 : decode (mC M_X8_readsPerson) 32 = .ok (.bipush 13, 2) := by decide +kernel
theorem DM_X8_readsPerson_34 : decode (mC M_X8_readsPerson) 34 = .ok (.aload_n 0, 1) := by decide +kernel
theorem DM_X8_readsPerson_35 : decode (mC M_X8_readsPerson) 35 = .ok (.getfield 28, 3) := by decide +kernel
theorem DM_X8_readsPerson_38 : decode (mC M_X8_readsPerson) 38 = .ok (.iconst 2, 1) := by decide +kernel
theorem DM_X8_readsPerson_39 : decode (mC M_X8_readsPerson) 39 = .ok (.iaload, 1) := by decide +kernel
theorem DM_X8_readsPerson_40 : decode (mC M_X8_readsPerson) 40 = .ok (.bipush 6, 2) := by decide +kernel
theorem DM_X8_readsPerson_42 : decode (mC M_X8_readsPerson) 42 = .ok (.if_icmp .ge 12, 3) := by decide +kernel
theorem DM_X8_readsPerson_45 : decode (mC M_X8_readsPerson) 45 = .ok (.aload_n 0, 1) := by decide +kernel
theorem DM_X8_readsPerson_46 : decode (mC M_X8_readsPerson) 46 = .ok (.getfield 28, 3) := by decide +kernel
theorem DM_X8_readsPerson_49 : decode (mC M_X8_readsPerson) 49 = .ok (.iconst 2, 1) := by decide +kernel
theorem DM_X8_readsPerson_50 : decode (mC M_X8_readsPerson) 50 = .ok (.iaload, 1) := by decide +kernel
theorem DM_X8_readsPerson_51 : decode (mC M_X8_readsPerson) 51 = .ok (.goto 4, 3) := by decide +kernel
theorem DM_X8_readsPerson_54 : decode (mC M_X8_readsPerson) 54 = .ok (.iconst 0, 1) := by decide +kernel
theorem DM_X8_readsPerson_55 : decode (mC M_X8_readsPerson) 55 = .ok (.imul, 1) := by decide +kernel
theorem DM_X8_readsPerson_56 : decode (mC M_X8_readsPerson) 56 = .ok (.iadd, 1) := by decide +kernel
theorem DM_X8_readsPerson_57 : decode (mC M_X8_readsPerson) 57 = .ok (.istore_n 2, 1) := by decide +kernel
theorem DM_X8_readsPerson_58 : decode (mC M_X8_readsPerson) 58 = .ok (.iconst 0, 1) := by decide +kernel
theorem DM_X8_readsPerson_59 : decode (mC M_X8_readsPerson) 59 = .ok (.istore_n 3, 1) := by decide +kernel
theorem DM_X8_readsPerson_60 : decode (mC M_X8_readsPerson) 60 = .ok (.aload_n 0, 1) := by decide +kernel
theorem DM_X8_readsPerson_61 : decode (mC M_X8_readsPerson) 61 = .ok (.invokevirtual 127, 3) := by decide +kernel
theorem DM_X8_readsPerson_64 : decode (mC M_X8_readsPerson) 64 = .ok (.ifCond .eq 35, 3) := by decide +kernel
theorem DM_X8_readsPerson_67 : decode (mC M_X8_readsPerson) 67 = .ok (.iload_n 3, 1) := by decide +kernel
theorem DM_X8_readsPerson_68 : decode (mC M_X8_readsPerson) 68 = .ok (.iconst 4, 1) := by decide +kernel
theorem DM_X8_readsPerson_69 : decode (mC M_X8_readsPerson) 69 = .ok (.if_icmp .ge 30, 3) := by decide +kernel
theorem DM_X8_readsPerson_72 : decode (mC M_X8_readsPerson) 72 = .ok (.aload_n 0, 1) := by decide +kernel
theorem DM_X8_readsPerson_73 : decode (mC M_X8_readsPerson) 73 = .ok (.getfield 28, 3) := by decide +kernel
theorem DM_X8_readsPerson_76 : decode (mC M_X8_readsPerson) 76 = .ok (.iload_n 2, 1) := by decide +kernel
theorem DM_X8_readsPerson_77 : decode (mC M_X8_readsPerson) 77 = .ok (.iconst 4, 1) := by decide +kernel
theorem DM_X8_readsPerson_78 : decode (mC M_X8_readsPerson) 78 = .ok (.iadd, 1) := by decide +kernel
theorem DM_X8_readsPerson_79 : decode (mC M_X8_readsPerson) 79 = .ok (.iload_n 3, 1) := by decide +kernel
theorem DM_X8_readsPerson_80 : decode (mC M_X8_readsPerson) 80 = .ok (.iadd, 1) := by decide +kernel
theorem DM_X8_readsPerson_81 : decode (mC M_X8_readsPerson) 81 = .ok (.aload_n 0, 1) := by decide +kernel
theorem DM_X8_readsPerson_82 : decode (mC M_X8_readsPerson) 82 = .ok (.getfield 104, 3) := by decide +kernel
theorem DM_X8_readsPerson_85 : decode (mC M_X8_readsPerson) 85 = .ok (.bipush 97, 2) := by decide +kernel
theorem DM_X8_readsPerson_87 : decode (mC M_X8_readsPerson) 87 = .ok (.isub, 1) := by decide +kernel
theorem DM_X8_readsPerson_88 : decode (mC M_X8_readsPerson) 88 = .ok (.iastore, 1) := by decide +kernel
theorem DM_X8_readsPerson_89 : decode (mC M_X8_readsPerson) 89 = .ok (.iinc 3 1, 3) := by decide +kernel
theorem DM_X8_readsPerson_92 : decode (mC M_X8_readsPerson) 92 = .ok (.aload_n 0, 1) := by decide +kernel
theorem DM_X8_readsPerson_93 : decode (mC M_X8_readsPerson) 93 = .ok (.invokevirtual 120, 3) := by decide +kernel
theorem DM_X8_readsPerson_96 : decode (mC M_X8_readsPerson) 96 = .ok (.goto (-36), 3) := by decide +kernel
theorem DM_X8_readsPerson_99 : decode (mC M_X8_readsPerson) 99 = .ok (.aload_n 0, 1) := by decide +kernel
theorem DM_X8_readsPerson_100 : decode (mC M_X8_readsPerson) 100 = .ok (.iload_n 3, 1) := by decide +kernel
theorem DM_X8_readsPerson_101 : decode (mC M_X8_readsPerson) 101 = .ok (.ifCond .le 7, 3) := by decide +kernel
theorem DM_X8_readsPerson_104 : decode (mC M_X8_readsPerson) 104 = .ok (.iconst 1, 1) := by decide +kernel
theorem DM_X8_readsPerson_105 : decode (mC M_X8_readsPerson) 105 = .ok (.goto 4, 3) := by decide +kernel
theorem DM_X8_readsPerson_108 : decode (mC M_X8_readsPerson) 108 = .ok (.iconst 0, 1) := by decide +kernel
theorem DM_X8_readsPerson_109 : decode (mC M_X8_readsPerson) 109 = .ok (.invokevirtual 137, 3) := by decide +kernel
theorem DM_X8_readsPerson_112 : decode (mC M_X8_readsPerson) 112 = .ok (.aload_n 0, 1) := by decide +kernel
theorem DM_X8_readsPerson_113 : decode (mC M_X8_readsPerson) 113 = .ok (.iconst 1, 1) := by decide +kernel
theorem DM_X8_readsPerson_114 : decode (mC M_X8_readsPerson) 114 = .ok (.bipush 30, 2) := by decide +kernel
theorem DM_X8_readsPerson_116 : decode (mC M_X8_readsPerson) 116 = .ok (.invokevirtual 141, 3) := by decide +kernel
theorem DM_X8_readsPerson_119 : decode (mC M_X8_readsPerson) 119 = .ok (.istore 4, 2) := by decide +kernel
theorem DM_X8_readsPerson_121 : decode (mC M_X8_readsPerson) 121 = .ok (.aload_n 0, 1) := by decide +kernel
theorem DM_X8_readsPerson_122 : decode (mC M_X8_readsPerson) 122 = .ok (.aload_n 0, 1) := by decide +kernel
theorem DM_X8_readsPerson_123 : decode (mC M_X8_readsPerson) 123 = .ok (.getfield 107, 3) := by decide +kernel
theorem DM_X8_readsPerson_126 : decode (mC M_X8_readsPerson) 126 = .ok (.iconst 3, 1) := by decide +kernel
theorem DM_X8_readsPerson_127 : decode (mC M_X8_readsPerson) 127 = .ok (.if_icmp .ne 7, 3) := by decide +kernel
theorem DM_X8_readsPerson_130 : decode (mC M_X8_readsPerson) 130 = .ok (.iconst 1, 1) := by decide +kernel
theorem DM_X8_readsPerson_131 : decode (mC M_X8_readsPerson) 131 = .ok (.goto 4, 3) := by decide +kernel
theorem DM_X8_readsPerson_134 : decode (mC M_X8_readsPerson) 134 = .ok (.iconst 0, 1) := by decide +kernel
theorem DM_X8_readsPerson_135 : decode (mC M_X8_readsPerson) 135 = .ok (.iconst 1, 1) := by decide +kernel
theorem DM_X8_readsPerson_136 : decode (mC M_X8_readsPerson) 136 = .ok (.invokevirtual 123, 3) := by decide +kernel
theorem DM_X8_readsPerson_139 : decode (mC M_X8_readsPerson) 139 = .ok (.pop, 1) := by decide +kernel
theorem DM_X8_readsPerson_140 : decode (mC M_X8_readsPerson) 140 = .ok (.aload_n 0, 1) := by decide +kernel
theorem DM_X8_readsPerson_141 : decode (mC M_X8_readsPerson) 141 = .ok (.iconst 1, 1) := by decide +kernel
theorem DM_X8_readsPerson_142 : decode (mC M_X8_readsPerson) 142 = .ok (.bipush 99, 2) := by decide +kernel
theorem DM_X8_readsPerson_144 : decode (mC M_X8_readsPerson) 144 = .ok (.invokevirtual 141, 3) := by decide +kernel
theorem DM_X8_readsPerson_147 : decode (mC M_X8_readsPerson) 147 = .ok (.istore 5, 2) := by decide +kernel
theorem DM_X8_readsPerson_149 : decode (mC M_X8_readsPerson) 149 = .ok (.aload_n 0, 1) := by decide +kernel
theorem DM_X8_readsPerson_150 : decode (mC M_X8_readsPerson) 150 = .ok (.aload_n 0, 1) := by decide +kernel
theorem DM_X8_readsPerson_151 : decode (mC M_X8_readsPerson) 151 = .ok (.getfield 107, 3) := by decide +kernel
theorem DM_X8_readsPerson_154 : decode (mC M_X8_readsPerson) 154 = .ok (.iconst 4, 1) := by decide +kernel
theorem DM_X8_readsPerson_155 : decode (mC M_X8_readsPerson) 155 = .ok (.if_icmp .ne 7, 3) := by decide +kernel
theorem DM_X8_readsPerson_158 : decode (mC M_X8_readsPerson) 158 = .ok (.iconst 1, 1) := by decide +kernel
theorem DM_X8_readsPerson_159 : decode (mC M_X8_readsPerson) 159 = .ok (.goto 4, 3) := by decide +kernel
theorem DM_X8_readsPerson_162 : decode (mC M_X8_readsPerson) 162 = .ok (.iconst 0, 1) := by decide +kernel
theorem DM_X8_readsPerson_163 : decode (mC M_X8_readsPerson) 163 = .ok (.iconst 1, 1) := by decide +kernel
theorem DM_X8_readsPerson_164 : decode (mC M_X8_readsPerson) 164 = .ok (.invokevirtual 123, 3) := by decide +kernel
theorem DM_X8_readsPerson_167 : decode (mC M_X8_readsPerson) 167 = .ok (.pop, 1) := by decide +kernel
theorem DM_X8_readsPerson_168 : decode (mC M_X8_readsPerson) 168 = .ok (.aload_n 0, 1) := by decide +kernel
theorem DM_X8_readsPerson_169 : decode (mC M_X8_readsPerson) 169 = .ok (.invokevirtual 113, 3) := by decide +kernel
theorem DM_X8_readsPerson_172 : decode (mC M_X8_readsPerson) 172 = .ok (.ifCond .eq 102, 3) := by decide +kernel
theorem DM_X8_readsPerson_175 : decode (mC M_X8_readsPerson) 175 = .ok (.aload_n 0, 1) := by decide +kernel
theorem DM_X8_readsPerson_176 : decode (mC M_X8_readsPerson) 176 = .ok (.getfield 28, 3) := by decide +kernel
theorem DM_X8_readsPerson_179 : decode (mC M_X8_readsPerson) 179 = .ok (.iload_n 2, 1) := by decide +kernel
theorem DM_X8_readsPerson_180 : decode (mC M_X8_readsPerson) 180 = .ok (.iload_n 1, 1) := by decide +kernel
theorem DM_X8_readsPerson_181 : decode (mC M_X8_readsPerson) 181 = .ok (.iastore, 1) := by decide +kernel
theorem DM_X8_readsPerson_182 : decode (mC M_X8_readsPerson) 182 = .ok (.aload_n 0, 1) := by decide +kernel
theorem DM_X8_readsPerson_183 : decode (mC M_X8_readsPerson) 183 = .ok (.getfield 28, 3) := by decide +kernel
theorem DM_X8_readsPerson_186 : decode (mC M_X8_readsPerson) 186 = .ok (.iload_n 2, 1) := by decide +kernel
theorem DM_X8_readsPerson_187 : decode (mC M_X8_readsPerson) 187 = .ok (.iconst 1, 1) := by decide +kernel
theorem DM_X8_readsPerson_188 : decode (mC M_X8_readsPerson) 188 = .ok (.iadd, 1) := by decide +kernel
theorem DM_X8_readsPerson_189 : decode (mC M_X8_readsPerson) 189 = .ok (.iload 4, 2) := by decide +kernel
theorem DM_X8_readsPerson_191 : decode (mC M_X8_readsPerson) 191 = .ok (.iastore, 1) := by decide +kernel
theorem DM_X8_readsPerson_192 : decode (mC M_X8_readsPerson) 192 = .ok (.aload_n 0, 1) := by decide +kernel
theorem DM_X8_readsPerson_193 : decode (mC M_X8_readsPerson) 193 = .ok (.getfield 28, 3) := by decide +kernel
theorem DM_X8_readsPerson_196 : decode (mC M_X8_readsPerson) 196 = .ok (.iload_n 2, 1) := by decide +kernel
theorem DM_X8_readsPerson_197 : decode (mC M_X8_readsPerson) 197 = .ok (.iconst 2, 1) := by decide +kernel
theorem DM_X8_readsPerson_198 : decode (mC M_X8_readsPerson) 198 = .ok (.iadd, 1) := by decide +kernel
theorem DM_X8_readsPerson_199 : decode (mC M_X8_readsPerson) 199 = .ok (.iload 5, 2) := by decide +kernel
theorem DM_X8_readsPerson_201 : decode (mC M_X8_readsPerson) 201 = .ok (.iastore, 1) := by decide +kernel
theorem DM_X8_readsPerson_202 : decode (mC M_X8_readsPerson) 202 = .ok (.aload_n 0, 1) := by decide +kernel
theorem DM_X8_readsPerson_203 : decode (mC M_X8_readsPerson) 203 = .ok (.getfield 28, 3) := by decide +kernel
theorem DM_X8_readsPerson_206 : decode (mC M_X8_readsPerson) 206 = .ok (.iload_n 2, 1) := by decide +kernel
theorem DM_X8_readsPerson_207 : decode (mC M_X8_readsPerson) 207 = .ok (.iconst 3, 1) := by decide +kernel
theorem DM_X8_readsPerson_208 : decode (mC M_X8_readsPerson) 208 = .ok (.iadd, 1) := by decide +kernel
theorem DM_X8_readsPerson_209 : decode (mC M_X8_readsPerson) 209 = .ok (.iload_n 3, 1) := by decide +kernel
theorem DM_X8_readsPerson_210 : decode (mC M_X8_readsPerson) 210 = .ok (.iastore, 1) := by decide +kernel
theorem DM_X8_readsPerson_211 : decode (mC M_X8_readsPerson) 211 = .ok (.aload_n 0, 1) := by decide +kernel
theorem DM_X8_readsPerson_212 : decode (mC M_X8_readsPerson) 212 = .ok (.getfield 28, 3) := by decide +kernel
theorem DM_X8_readsPerson_215 : decode (mC M_X8_readsPerson) 215 = .ok (.iload_n 2, 1) := by decide +kernel
theorem DM_X8_readsPerson_216 : decode (mC M_X8_readsPerson) 216 = .ok (.bipush 8, 2) := by decide +kernel
theorem DM_X8_readsPerson_218 : decode (mC M_X8_readsPerson) 218 = .ok (.iadd, 1) := by decide +kernel
theorem DM_X8_readsPerson_219 : decode (mC M_X8_readsPerson) 219 = .ok (.iconst 0, 1) := by decide +kernel
theorem DM_X8_readsPerson_220 : decode (mC M_X8_readsPerson) 220 = .ok (.iastore, 1) := by decide +kernel
theorem DM_X8_readsPerson_221 : decode (mC M_X8_readsPerson) 221 = .ok (.aload_n 0, 1) := by decide +kernel
theorem DM_X8_readsPerson_222 : decode (mC M_X8_readsPerson) 222 = .ok (.getfield 28, 3) := by decide +kernel
theorem DM_X8_readsPerson_225 : decode (mC M_X8_readsPerson) 225 = .ok (.iload_n 2, 1) := by decide +kernel
theorem DM_X8_readsPerson_226 : decode (mC M_X8_readsPerson) 226 = .ok (.bipush 9, 2) := by decide +kernel
theorem DM_X8_readsPerson_228 : decode (mC M_X8_readsPerson) 228 = .ok (.iadd, 1) := by decide +kernel
theorem DM_X8_readsPerson_229 : decode (mC M_X8_readsPerson) 229 = .ok (.iconst 0, 1) := by decide +kernel
theorem DM_X8_readsPerson_230 : decode (mC M_X8_readsPerson) 230 = .ok (.iastore, 1) := by decide +kernel
theorem DM_X8_readsPerson_231 : decode (mC M_X8_readsPerson) 231 = .ok (.aload_n 0, 1) := by decide +kernel
theorem DM_X8_readsPerson_232 : decode (mC M_X8_readsPerson) 232 = .ok (.getfield 28, 3) := by decide +kernel
theorem DM_X8_readsPerson_235 : decode (mC M_X8_readsPerson) 235 = .ok (.iload_n 2, 1) := by decide +kernel
theorem DM_X8_readsPerson_236 : decode (mC M_X8_readsPerson) 236 = .ok (.bipush 10, 2) := by decide +kernel
theorem DM_X8_readsPerson_238 : decode (mC M_X8_readsPerson) 238 = .ok (.iadd, 1) := by decide +kernel
theorem DM_X8_readsPerson_239 : decode (mC M_X8_readsPerson) 239 = .ok (.ldc 59, 2) := by decide +kernel
theorem DM_X8_readsPerson_241 : decode (mC M_X8_readsPerson) 241 = .ok (.iastore, 1) := by decide +kernel
theorem DM_X8_readsPerson_242 : decode (mC M_X8_readsPerson) 242 = .ok (.aload_n 0, 1) := by decide +kernel
theorem DM_X8_readsPerson_243 : decode (mC M_X8_readsPerson) 243 = .ok (.getfield 28, 3) := by decide +kernel
theorem DM_X8_readsPerson_246 : decode (mC M_X8_readsPerson) 246 = .ok (.iload_n 2, 1) := by decide +kernel
theorem DM_X8_readsPerson_247 : decode (mC M_X8_readsPerson) 247 = .ok (.bipush 11, 2) := by decide +kernel
theorem DM_X8_readsPerson_249 : decode (mC M_X8_readsPerson) 249 = .ok (.iadd, 1) := by decide +kernel
theorem DM_X8_readsPerson_250 : decode (mC M_X8_readsPerson) 250 = .ok (.ldc 59, 2) := by decide +kernel
theorem DM_X8_readsPerson_252 : decode (mC M_X8_readsPerson) 252 = .ok (.iastore, 1) := by decide +kernel
theorem DM_X8_readsPerson_253 : decode (mC M_X8_readsPerson) 253 = .ok (.aload_n 0, 1) := by decide +kernel
theorem DM_X8_readsPerson_254 : decode (mC M_X8_readsPerson) 254 = .ok (.getfield 28, 3) := by decide +kernel
theorem DM_X8_readsPerson_257 : decode (mC M_X8_readsPerson) 257 = .ok (.iload_n 2, 1) := by decide +kernel
theorem DM_X8_readsPerson_258 : decode (mC M_X8_readsPerson) 258 = .ok (.bipush 12, 2) := by decide +kernel
theorem DM_X8_readsPerson_260 : decode (mC M_X8_readsPerson) 260 = .ok (.iadd, 1) := by decide +kernel
theorem DM_X8_readsPerson_261 : decode (mC M_X8_readsPerson) 261 = .ok (.ldc 59, 2) := by decide +kernel
theorem DM_X8_readsPerson_263 : decode (mC M_X8_readsPerson) 263 = .ok (.iastore, 1) := by decide +kernel
theorem DM_X8_readsPerson_264 : decode (mC M_X8_readsPerson) 264 = .ok (.aload_n 0, 1) := by decide +kernel
theorem DM_X8_readsPerson_265 : decode (mC M_X8_readsPerson) 265 = .ok (.getfield 28, 3) := by decide +kernel
theorem DM_X8_readsPerson_268 : decode (mC M_X8_readsPerson) 268 = .ok (.iconst 2, 1) := by decide +kernel
theorem DM_X8_readsPerson_269 : decode (mC M_X8_readsPerson) 269 = .ok (.dup2, 1) := by decide +kernel
theorem DM_X8_readsPerson_270 : decode (mC M_X8_readsPerson) 270 = .ok (.iaload, 1) := by decide +kernel
theorem DM_X8_readsPerson_271 : decode (mC M_X8_readsPerson) 271 = .ok (.iconst 1, 1) := by decide +kernel
theorem DM_X8_readsPerson_272 : decode (mC M_X8_readsPerson) 272 = .ok (.iadd, 1) := by decide +kernel
theorem DM_X8_readsPerson_273 : decode (mC M_X8_readsPerson) 273 = .ok (.iastore, 1) := by decide +kernel
theorem DM_X8_readsPerson_274 : decode (mC M_X8_readsPerson) 274 = .ok (.return_, 1) := by decide +kernel
theorem DM_X8_takes2_0 : decode (mC M_X8_takes2) 0 = .ok (.aload_n 0, 1) := by decide +kernel
theorem DM_X8_takes2_1 : decode (mC M_X8_takes2) 1 = .ok (.invokevirtual 113, 3) := by decide +kernel
theorem DM_X8_takes2_4 : decode (mC M_X8_takes2) 4 = .ok (.ifCond .eq 20, 3) := by decide +kernel
theorem DM_X8_takes2_7 : decode (mC M_X8_takes2) 7 = .ok (.iload_n 1, 1) := by decide +kernel
theorem DM_X8_takes2_8 : decode (mC M_X8_takes2) 8 = .ok (.ifCond .ne 16, 3) := by decide +kernel
theorem DM_X8_takes2_11 : decode (mC M_X8_takes2) 11 = .ok (.aload_n 0, 1) := by decide +kernel
theorem DM_X8_takes2_12 : decode (mC M_X8_takes2) 12 = .ok (.aload_n 0, 1) := by decide +kernel
theorem DM_X8_takes2_13 : decode (mC M_X8_takes2) 13 = .ok (.getfield 98, 3) := by decide +kernel
theorem DM_X8_takes2_16 : decode (mC M_X8_takes2) 16 = .ok (.putfield 110, 3) := by decide +kernel
theorem DM_X8_takes2_19 : decode (mC M_X8_takes2) 19 = .ok (.aload_n 0, 1) := by decide +kernel
theorem DM_X8_takes2_20 : decode (mC M_X8_takes2) 20 = .ok (.iconst 1, 1) := by decide +kernel
theorem DM_X8_takes2_21 : decode (mC M_X8_takes2) 21 = .ok (.putfield 117, 3) := by decide +kernel
theorem DM_X8_takes2_24 : decode (mC M_X8_takes2) 24 = .ok (.return_, 1) := by decide +kernel
theorem DM_X8_court_0 : decode (mC M_X8_court) 0 = .ok (.iconst 0, 1) := by decide +kernel
theorem DM_X8_court_1 : decode (mC M_X8_court) 1 = .ok (.istore_n 1, 1) := by decide +kernel
theorem DM_X8_court_2 : decode (mC M_X8_court) 2 = .ok (.iload_n 1, 1) := by decide +kernel
theorem DM_X8_court_3 : decode (mC M_X8_court) 3 = .ok (.bipush 91, 2) := by decide +kernel
theorem DM_X8_court_5 : decode (mC M_X8_court) 5 = .ok (.if_icmp .ge 16, 3) := by decide +kernel
theorem DM_X8_court_8 : decode (mC M_X8_court) 8 = .ok (.aload_n 0, 1) := by decide +kernel
theorem DM_X8_court_9 : decode (mC M_X8_court) 9 = .ok (.getfield 28, 3) := by decide +kernel
theorem DM_X8_court_12 : decode (mC M_X8_court) 12 = .ok (.iload_n 1, 1) := by decide +kernel
theorem DM_X8_court_13 : decode (mC M_X8_court) 13 = .ok (.iconst 0, 1) := by decide +kernel
theorem DM_X8_court_14 : decode (mC M_X8_court) 14 = .ok (.iastore, 1) := by decide +kernel
theorem DM_X8_court_15 : decode (mC M_X8_court) 15 = .ok (.iinc 1 1, 3) := by decide +kernel
theorem DM_X8_court_18 : decode (mC M_X8_court) 18 = .ok (.goto (-16), 3) := by decide +kernel
theorem DM_X8_court_21 : decode (mC M_X8_court) 21 = .ok (.aload_n 0, 1) := by decide +kernel
theorem DM_X8_court_22 : decode (mC M_X8_court) 22 = .ok (.iconst 0, 1) := by decide +kernel
theorem DM_X8_court_23 : decode (mC M_X8_court) 23 = .ok (.putfield 95, 3) := by decide +kernel
theorem DM_X8_court_26 : decode (mC M_X8_court) 26 = .ok (.aload_n 0, 1) := by decide +kernel
theorem DM_X8_court_27 : decode (mC M_X8_court) 27 = .ok (.iconst (-1), 1) := by decide +kernel
theorem DM_X8_court_28 : decode (mC M_X8_court) 28 = .ok (.putfield 110, 3) := by decide +kernel
theorem DM_X8_court_31 : decode (mC M_X8_court) 31 = .ok (.aload_n 0, 1) := by decide +kernel
theorem DM_X8_court_32 : decode (mC M_X8_court) 32 = .ok (.invokevirtual 120, 3) := by decide +kernel
theorem DM_X8_court_35 : decode (mC M_X8_court) 35 = .ok (.aload_n 0, 1) := by decide +kernel
theorem DM_X8_court_36 : decode (mC M_X8_court) 36 = .ok (.aload_n 0, 1) := by decide +kernel
theorem DM_X8_court_37 : decode (mC M_X8_court) 37 = .ok (.getfield 107, 3) := by decide +kernel
theorem DM_X8_court_40 : decode (mC M_X8_court) 40 = .ok (.iconst 1, 1) := by decide +kernel
theorem DM_X8_court_41 : decode (mC M_X8_court) 41 = .ok (.if_icmp .ne 16, 3) := by decide +kernel
theorem DM_X8_court_44 : decode (mC M_X8_court) 44 = .ok (.aload_n 0, 1) := by decide +kernel
theorem DM_X8_court_45 : decode (mC M_X8_court) 45 = .ok (.getfield 104, 3) := by decide +kernel
theorem DM_X8_court_48 : decode (mC M_X8_court) 48 = .ok (.bipush 119, 2) := by decide +kernel
theorem DM_X8_court_50 : decode (mC M_X8_court) 50 = .ok (.if_icmp .ne 7, 3) := by decide +kernel
theorem DM_X8_court_53 : decode (mC M_X8_court) 53 = .ok (.iconst 1, 1) := by decide +kernel
theorem DM_X8_court_54 : decode (mC M_X8_court) 54 = .ok (.goto 4, 3) := by decide +kernel
theorem DM_X8_court_57 : decode (mC M_X8_court) 57 = .ok (.iconst 0, 1) := by decide +kernel
theorem DM_X8_court_58 : decode (mC M_X8_court) 58 = .ok (.iconst 1, 1) := by decide +kernel
theorem DM_X8_court_59 : decode (mC M_X8_court) 59 = .ok (.invokevirtual 123, 3) := by decide +kernel
theorem DM_X8_court_62 : decode (mC M_X8_court) 62 = .ok (.pop, 1) := by decide +kernel
theorem DM_X8_court_63 : decode (mC M_X8_court) 63 = .ok (.aload_n 0, 1) := by decide +kernel
theorem DM_X8_court_64 : decode (mC M_X8_court) 64 = .ok (.getfield 28, 3) := by decide +kernel
theorem DM_X8_court_67 : decode (mC M_X8_court) 67 = .ok (.iconst 0, 1) := by decide +kernel
theorem DM_X8_court_68 : decode (mC M_X8_court) 68 = .ok (.aload_n 0, 1) := by decide +kernel
theorem DM_X8_court_69 : decode (mC M_X8_court) 69 = .ok (.iconst 1, 1) := by decide +kernel
theorem DM_X8_court_70 : decode (mC M_X8_court) 70 = .ok (.iconst 4, 1) := by decide +kernel
theorem DM_X8_court_71 : decode (mC M_X8_court) 71 = .ok (.invokevirtual 141, 3) := by decide +kernel
theorem DM_X8_court_74 : decode (mC M_X8_court) 74 = .ok (.iastore, 1) := by decide +kernel
theorem DM_X8_court_75 : decode (mC M_X8_court) 75 = .ok (.aload_n 0, 1) := by decide +kernel
theorem DM_X8_court_76 : decode (mC M_X8_court) 76 = .ok (.aload_n 0, 1) := by decide +kernel
theorem DM_X8_court_77 : decode (mC M_X8_court) 77 = .ok (.getfield 107, 3) := by decide +kernel
theorem DM_X8_court_80 : decode (mC M_X8_court) 80 = .ok (.iconst 3, 1) := by decide +kernel
theorem DM_X8_court_81 : decode (mC M_X8_court) 81 = .ok (.if_icmp .ne 7, 3) := by decide +kernel
theorem DM_X8_court_84 : decode (mC M_X8_court) 84 = .ok (.iconst 1, 1) := by decide +kernel
theorem DM_X8_court_85 : decode (mC M_X8_court) 85 = .ok (.goto 4, 3) := by decide +kernel
theorem DM_X8_court_88 : decode (mC M_X8_court) 88 = .ok (.iconst 0, 1) := by decide +kernel
theorem DM_X8_court_89 : decode (mC M_X8_court) 89 = .ok (.iconst 1, 1) := by decide +kernel
theorem DM_X8_court_90 : decode (mC M_X8_court) 90 = .ok (.invokevirtual 123, 3) := by decide +kernel
theorem DM_X8_court_93 : decode (mC M_X8_court) 93 = .ok (.pop, 1) := by decide +kernel
theorem DM_X8_court_94 : decode (mC M_X8_court) 94 = .ok (.aload_n 0, 1) := by decide +kernel
theorem DM_X8_court_95 : decode (mC M_X8_court) 95 = .ok (.getfield 28, 3) := by decide +kernel
theorem DM_X8_court_98 : decode (mC M_X8_court) 98 = .ok (.iconst 1, 1) := by decide +kernel
theorem DM_X8_court_99 : decode (mC M_X8_court) 99 = .ok (.aload_n 0, 1) := by decide +kernel
theorem DM_X8_court_100 : decode (mC M_X8_court) 100 = .ok (.iconst 0, 1) := by decide +kernel
theorem DM_X8_court_101 : decode (mC M_X8_court) 101 = .ok (.bipush 30, 2) := by decide +kernel
theorem DM_X8_court_103 : decode (mC M_X8_court) 103 = .ok (.invokevirtual 141, 3) := by decide +kernel
theorem DM_X8_court_106 : decode (mC M_X8_court) 106 = .ok (.iastore, 1) := by decide +kernel
theorem DM_X8_court_107 : decode (mC M_X8_court) 107 = .ok (.aload_n 0, 1) := by decide +kernel
theorem DM_X8_court_108 : decode (mC M_X8_court) 108 = .ok (.aload_n 0, 1) := by decide +kernel
theorem DM_X8_court_109 : decode (mC M_X8_court) 109 = .ok (.getfield 107, 3) := by decide +kernel
theorem DM_X8_court_112 : decode (mC M_X8_court) 112 = .ok (.iconst 4, 1) := by decide +kernel
theorem DM_X8_court_113 : decode (mC M_X8_court) 113 = .ok (.if_icmp .ne 7, 3) := by decide +kernel
theorem DM_X8_court_116 : decode (mC M_X8_court) 116 = .ok (.iconst 1, 1) := by decide +kernel
theorem DM_X8_court_117 : decode (mC M_X8_court) 117 = .ok (.goto 4, 3) := by decide +kernel
theorem DM_X8_court_120 : decode (mC M_X8_court) 120 = .ok (.iconst 0, 1) := by decide +kernel
theorem DM_X8_court_121 : decode (mC M_X8_court) 121 = .ok (.iconst 1, 1) := by decide +kernel
theorem DM_X8_court_122 : decode (mC M_X8_court) 122 = .ok (.invokevirtual 123, 3) := by decide +kernel
theorem DM_X8_court_125 : decode (mC M_X8_court) 125 = .ok (.pop, 1) := by decide +kernel
theorem DM_X8_court_126 : decode (mC M_X8_court) 126 = .ok (.aload_n 0, 1) := by decide +kernel
theorem DM_X8_court_127 : decode (mC M_X8_court) 127 = .ok (.invokevirtual 144, 3) := by decide +kernel
theorem DM_X8_court_130 : decode (mC M_X8_court) 130 = .ok (.aload_n 0, 1) := by decide +kernel
theorem DM_X8_court_131 : decode (mC M_X8_court) 131 = .ok (.invokevirtual 113, 3) := by decide +kernel
theorem DM_X8_court_134 : decode (mC M_X8_court) 134 = .ok (.ifCond .eq 28, 3) := by decide +kernel
theorem DM_X8_court_137 : decode (mC M_X8_court) 137 = .ok (.aload_n 0, 1) := by decide +kernel
theorem DM_X8_court_138 : decode (mC M_X8_court) 138 = .ok (.getfield 107, 3) := by decide +kernel
theorem DM_X8_court_141 : decode (mC M_X8_court) 141 = .ok (.iconst 1, 1) := by decide +kernel
theorem DM_X8_court_142 : decode (mC M_X8_court) 142 = .ok (.if_icmp .ne 20, 3) := by decide +kernel
theorem DM_X8_court_145 : decode (mC M_X8_court) 145 = .ok (.aload_n 0, 1) := by decide +kernel
theorem DM_X8_court_146 : decode (mC M_X8_court) 146 = .ok (.getfield 104, 3) := by decide +kernel
theorem DM_X8_court_149 : decode (mC M_X8_court) 149 = .ok (.invokestatic 134, 3) := by decide +kernel
theorem DM_X8_court_152 : decode (mC M_X8_court) 152 = .ok (.ifCond .le 10, 3) := by decide +kernel
theorem DM_X8_court_155 : decode (mC M_X8_court) 155 = .ok (.aload_n 0, 1) := by decide +kernel
theorem DM_X8_court_156 : decode (mC M_X8_court) 156 = .ok (.invokevirtual 147, 3) := by decide +kernel
theorem DM_X8_court_159 : decode (mC M_X8_court) 159 = .ok (.goto (-29), 3) := by decide +kernel
theorem DM_X8_court_162 : decode (mC M_X8_court) 162 = .ok (.aload_n 0, 1) := by decide +kernel
theorem DM_X8_court_163 : decode (mC M_X8_court) 163 = .ok (.aload_n 0, 1) := by decide +kernel
theorem DM_X8_court_164 : decode (mC M_X8_court) 164 = .ok (.getfield 107, 3) := by decide +kernel
theorem DM_X8_court_167 : decode (mC M_X8_court) 167 = .ok (.ifCond .ne 7, 3) := by decide +kernel
theorem DM_X8_court_170 : decode (mC M_X8_court) 170 = .ok (.iconst 1, 1) := by decide +kernel
theorem DM_X8_court_171 : decode (mC M_X8_court) 171 = .ok (.goto 4, 3) := by decide +kernel
theorem DM_X8_court_174 : decode (mC M_X8_court) 174 = .ok (.iconst 0, 1) := by decide +kernel
theorem DM_X8_court_175 : decode (mC M_X8_court) 175 = .ok (.invokevirtual 137, 3) := by decide +kernel
theorem DM_X8_court_178 : decode (mC M_X8_court) 178 = .ok (.aload_n 0, 1) := by decide +kernel
theorem DM_X8_court_179 : decode (mC M_X8_court) 179 = .ok (.iconst 0, 1) := by decide +kernel
theorem DM_X8_court_180 : decode (mC M_X8_court) 180 = .ok (.putfield 91, 3) := by decide +kernel
theorem DM_X8_court_183 : decode (mC M_X8_court) 183 = .ok (.aload_n 0, 1) := by decide +kernel
theorem DM_X8_court_184 : decode (mC M_X8_court) 184 = .ok (.invokevirtual 113, 3) := by decide +kernel
theorem DM_X8_court_187 : decode (mC M_X8_court) 187 = .ok (.ifCond .ne 11, 3) := by decide +kernel
theorem DM_X8_court_190 : decode (mC M_X8_court) 190 = .ok (.ldc 150, 2) := by decide +kernel
theorem DM_X8_court_192 : decode (mC M_X8_court) 192 = .ok (.aload_n 0, 1) := by decide +kernel
theorem DM_X8_court_193 : decode (mC M_X8_court) 193 = .ok (.getfield 110, 3) := by decide +kernel
theorem DM_X8_court_196 : decode (mC M_X8_court) 196 = .ok (.isub, 1) := by decide +kernel
theorem DM_X8_court_197 : decode (mC M_X8_court) 197 = .ok (.ireturn, 1) := by decide +kernel
theorem DM_X8_court_198 : decode (mC M_X8_court) 198 = .ok (.aload_n 0, 1) := by decide +kernel
theorem DM_X8_court_199 : decode (mC M_X8_court) 199 = .ok (.getfield 28, 3) := by decide +kernel
theorem DM_X8_court_202 : decode (mC M_X8_court) 202 = .ok (.iconst 0, 1) := by decide +kernel
theorem DM_X8_court_203 : decode (mC M_X8_court) 203 = .ok (.aload_n 0, 1) := by decide +kernel
theorem DM_X8_court_204 : decode (mC M_X8_court) 204 = .ok (.getfield 25, 3) := by decide +kernel
theorem DM_X8_court_207 : decode (mC M_X8_court) 207 = .ok (.iconst 0, 1) := by decide +kernel
theorem DM_X8_court_208 : decode (mC M_X8_court) 208 = .ok (.invokestatic 151, 3) := by decide +kernel
theorem DM_X8_court_211 : decode (mC M_X8_court) 211 = .ok (.aload_n 0, 1) := by decide +kernel
theorem DM_X8_court_212 : decode (mC M_X8_court) 212 = .ok (.iconst 0, 1) := by decide +kernel
theorem DM_X8_court_213 : decode (mC M_X8_court) 213 = .ok (.putfield 155, 3) := by decide +kernel
theorem DM_X8_court_216 : decode (mC M_X8_court) 216 = .ok (.aload_n 0, 1) := by decide +kernel
theorem DM_X8_court_217 : decode (mC M_X8_court) 217 = .ok (.getfield 25, 3) := by decide +kernel
theorem DM_X8_court_220 : decode (mC M_X8_court) 220 = .ok (.iconst 2, 1) := by decide +kernel
theorem DM_X8_court_221 : decode (mC M_X8_court) 221 = .ok (.iaload, 1) := by decide +kernel
theorem DM_X8_court_222 : decode (mC M_X8_court) 222 = .ok (.ireturn, 1) := by decide +kernel
theorem DM_X8_fault_0 : decode (mC M_X8_fault) 0 = .ok (.aload_n 0, 1) := by decide +kernel
theorem DM_X8_fault_1 : decode (mC M_X8_fault) 1 = .ok (.getfield 117, 3) := by decide +kernel
theorem DM_X8_fault_4 : decode (mC M_X8_fault) 4 = .ok (.ireturn, 1) := by decide +kernel
theorem DM_X8_isCourt_0 : decode (mC M_X8_isCourt) 0 = .ok (.aload_n 0, 1) := by decide +kernel
theorem DM_X8_isCourt_1 : decode (mC M_X8_isCourt) 1 = .ok (.getfield 25, 3) := by decide +kernel
theorem DM_X8_isCourt_4 : decode (mC M_X8_isCourt) 4 = .ok (.iconst 0, 1) := by decide +kernel
theorem DM_X8_isCourt_5 : decode (mC M_X8_isCourt) 5 = .ok (.iaload, 1) := by decide +kernel
theorem DM_X8_isCourt_6 : decode (mC M_X8_isCourt) 6 = .ok (.ifCond .le 7, 3) := by decide +kernel
theorem DM_X8_isCourt_9 : decode (mC M_X8_isCourt) 9 = .ok (.iconst 1, 1) := by decide +kernel
theorem DM_X8_isCourt_10 : decode (mC M_X8_isCourt) 10 = .ok (.goto 4, 3) := by decide +kernel
theorem DM_X8_isCourt_13 : decode (mC M_X8_isCourt) 13 = .ok (.iconst 0, 1) := by decide +kernel
theorem DM_X8_isCourt_14 : decode (mC M_X8_isCourt) 14 = .ok (.ireturn, 1) := by decide +kernel
theorem DM_X8_isPerson_0 : decode (mC M_X8_isPerson) 0 = .ok (.iload_n 1, 1) := by decide +kernel
theorem DM_X8_isPerson_1 : decode (mC M_X8_isPerson) 1 = .ok (.iconst 0, 1) := by decide +kernel
theorem DM_X8_isPerson_2 : decode (mC M_X8_isPerson) 2 = .ok (.aload_n 0, 1) := by decide +kernel
theorem DM_X8_isPerson_3 : decode (mC M_X8_isPerson) 3 = .ok (.getfield 25, 3) := by decide +kernel
theorem DM_X8_isPerson_6 : decode (mC M_X8_isPerson) 6 = .ok (.iconst 2, 1) := by decide +kernel
theorem DM_X8_isPerson_7 : decode (mC M_X8_isPerson) 7 = .ok (.iaload, 1) := by decide +kernel
theorem DM_X8_isPerson_8 : decode (mC M_X8_isPerson) 8 = .ok (.iconst 1, 1) := by decide +kernel
theorem DM_X8_isPerson_9 : decode (mC M_X8_isPerson) 9 = .ok (.isub, 1) := by decide +kernel
theorem DM_X8_isPerson_10 : decode (mC M_X8_isPerson) 10 = .ok (.invokestatic 65, 3) := by decide +kernel
theorem DM_X8_isPerson_13 : decode (mC M_X8_isPerson) 13 = .ok (.ireturn, 1) := by decide +kernel
theorem DM_X8_of_0 : decode (mC M_X8_of) 0 = .ok (.aload_n 0, 1) := by decide +kernel
theorem DM_X8_of_1 : decode (mC M_X8_of) 1 = .ok (.bipush 13, 2) := by decide +kernel
theorem DM_X8_of_3 : decode (mC M_X8_of) 3 = .ok (.bipush 13, 2) := by decide +kernel
theorem DM_X8_of_5 : decode (mC M_X8_of) 5 = .ok (.iload_n 1, 1) := by decide +kernel
theorem DM_X8_of_6 : decode (mC M_X8_of) 6 = .ok (.imul, 1) := by decide +kernel
theorem DM_X8_of_7 : decode (mC M_X8_of) 7 = .ok (.iadd, 1) := by decide +kernel
theorem DM_X8_of_8 : decode (mC M_X8_of) 8 = .ok (.iload_n 2, 1) := by decide +kernel
theorem DM_X8_of_9 : decode (mC M_X8_of) 9 = .ok (.iadd, 1) := by decide +kernel
theorem DM_X8_of_10 : decode (mC M_X8_of) 10 = .ok (.iaload, 1) := by decide +kernel
theorem DM_X8_of_11 : decode (mC M_X8_of) 11 = .ok (.ireturn, 1) := by decide +kernel
theorem DM_X8_rank_0 : decode (mC M_X8_rank) 0 = .ok (.aload_n 0, 1) := by decide +kernel
theorem DM_X8_rank_1 : decode (mC M_X8_rank) 1 = .ok (.iconst 1, 1) := by decide +kernel
theorem DM_X8_rank_2 : decode (mC M_X8_rank) 2 = .ok (.iaload, 1) := by decide +kernel
theorem DM_X8_rank_3 : decode (mC M_X8_rank) 3 = .ok (.ifCond .ne 7, 3) := by decide +kernel
theorem DM_X8_rank_6 : decode (mC M_X8_rank) 6 = .ok (.iconst 0, 1) := by decide +kernel
theorem DM_X8_rank_7 : decode (mC M_X8_rank) 7 = .ok (.goto 10, 3) := by decide +kernel
theorem DM_X8_rank_10 : decode (mC M_X8_rank) 10 = .ok (.aload_n 0, 1) := by decide +kernel
theorem DM_X8_rank_11 : decode (mC M_X8_rank) 11 = .ok (.iconst 3, 1) := by decide +kernel
theorem DM_X8_rank_12 : decode (mC M_X8_rank) 12 = .ok (.iaload, 1) := by decide +kernel
theorem DM_X8_rank_13 : decode (mC M_X8_rank) 13 = .ok (.aload_n 0, 1) := by decide +kernel
theorem DM_X8_rank_14 : decode (mC M_X8_rank) 14 = .ok (.iconst 1, 1) := by decide +kernel
theorem DM_X8_rank_15 : decode (mC M_X8_rank) 15 = .ok (.iaload, 1) := by decide +kernel
theorem DM_X8_rank_16 : decode (mC M_X8_rank) 16 = .ok (.idiv, 1) := by decide +kernel
theorem DM_X8_rank_17 : decode (mC M_X8_rank) 17 = .ok (.iload_n 2, 1) := by decide +kernel
theorem DM_X8_rank_18 : decode (mC M_X8_rank) 18 = .ok (.iadd, 1) := by decide +kernel
theorem DM_X8_rank_19 : decode (mC M_X8_rank) 19 = .ok (.istore_n 3, 1) := by decide +kernel
theorem DM_X8_rank_20 : decode (mC M_X8_rank) 20 = .ok (.iconst 0, 1) := by decide +kernel
theorem DM_X8_rank_21 : decode (mC M_X8_rank) 21 = .ok (.istore 4, 2) := by decide +kernel
theorem DM_X8_rank_23 : decode (mC M_X8_rank) 23 = .ok (.iload 4, 2) := by decide +kernel
theorem DM_X8_rank_25 : decode (mC M_X8_rank) 25 = .ok (.bipush 8, 2) := by decide +kernel
theorem DM_X8_rank_27 : decode (mC M_X8_rank) 27 = .ok (.if_icmp .ge 27, 3) := by decide +kernel
theorem DM_X8_rank_30 : decode (mC M_X8_rank) 30 = .ok (.aload_n 0, 1) := by decide +kernel
theorem DM_X8_rank_31 : decode (mC M_X8_rank) 31 = .ok (.iconst 5, 1) := by decide +kernel
theorem DM_X8_rank_32 : decode (mC M_X8_rank) 32 = .ok (.iload 4, 2) := by decide +kernel
theorem DM_X8_rank_34 : decode (mC M_X8_rank) 34 = .ok (.iload_n 3, 1) := by decide +kernel
theorem DM_X8_rank_35 : decode (mC M_X8_rank) 35 = .ok (.iadd, 1) := by decide +kernel
theorem DM_X8_rank_36 : decode (mC M_X8_rank) 36 = .ok (.bipush 8, 2) := by decide +kernel
theorem DM_X8_rank_38 : decode (mC M_X8_rank) 38 = .ok (.irem, 1) := by decide +kernel
theorem DM_X8_rank_39 : decode (mC M_X8_rank) 39 = .ok (.iadd, 1) := by decide +kernel
theorem DM_X8_rank_40 : decode (mC M_X8_rank) 40 = .ok (.iaload, 1) := by decide +kernel
theorem DM_X8_rank_41 : decode (mC M_X8_rank) 41 = .ok (.iload_n 1, 1) := by decide +kernel
theorem DM_X8_rank_42 : decode (mC M_X8_rank) 42 = .ok (.if_icmp .ne 6, 3) := by decide +kernel
theorem DM_X8_rank_45 : decode (mC M_X8_rank) 45 = .ok (.iload 4, 2) := by decide +kernel
theorem DM_X8_rank_47 : decode (mC M_X8_rank) 47 = .ok (.ireturn, 1) := by decide +kernel
theorem DM_X8_rank_48 : decode (mC M_X8_rank) 48 = .ok (.iinc 4 1, 3) := by decide +kernel
theorem DM_X8_rank_51 : decode (mC M_X8_rank) 51 = .ok (.goto (-28), 3) := by decide +kernel
theorem DM_X8_rank_54 : decode (mC M_X8_rank) 54 = .ok (.bipush 8, 2) := by decide +kernel
theorem DM_X8_rank_56 : decode (mC M_X8_rank) 56 = .ok (.ireturn, 1) := by decide +kernel
theorem DM_X8_letterOf_0 : decode (mC M_X8_letterOf) 0 = .ok (.aload_n 0, 1) := by decide +kernel
theorem DM_X8_letterOf_1 : decode (mC M_X8_letterOf) 1 = .ok (.iload_n 1, 1) := by decide +kernel
theorem DM_X8_letterOf_2 : decode (mC M_X8_letterOf) 2 = .ok (.iconst 3, 1) := by decide +kernel
theorem DM_X8_letterOf_3 : decode (mC M_X8_letterOf) 3 = .ok (.invokestatic 158, 3) := by decide +kernel
theorem DM_X8_letterOf_6 : decode (mC M_X8_letterOf) 6 = .ok (.istore_n 3, 1) := by decide +kernel
theorem DM_X8_letterOf_7 : decode (mC M_X8_letterOf) 7 = .ok (.iload_n 2, 1) := by decide +kernel
theorem DM_X8_letterOf_8 : decode (mC M_X8_letterOf) 8 = .ok (.iload_n 3, 1) := by decide +kernel
theorem DM_X8_letterOf_9 : decode (mC M_X8_letterOf) 9 = .ok (.if_icmp .lt 5, 3) := by decide +kernel
theorem DM_X8_letterOf_12 : decode (mC M_X8_letterOf) 12 = .ok (.iconst (-1), 1) := by decide +kernel
theorem DM_X8_letterOf_13 : decode (mC M_X8_letterOf) 13 = .ok (.ireturn, 1) := by decide +kernel
theorem DM_X8_letterOf_14 : decode (mC M_X8_letterOf) 14 = .ok (.aload_n 0, 1) := by decide +kernel
theorem DM_X8_letterOf_15 : decode (mC M_X8_letterOf) 15 = .ok (.iload_n 1, 1) := by decide +kernel
theorem DM_X8_letterOf_16 : decode (mC M_X8_letterOf) 16 = .ok (.iconst 4, 1) := by decide +kernel
theorem DM_X8_letterOf_17 : decode (mC M_X8_letterOf) 17 = .ok (.aload_n 0, 1) := by decide +kernel
theorem DM_X8_letterOf_18 : decode (mC M_X8_letterOf) 18 = .ok (.iload_n 1, 1) := by decide +kernel
theorem DM_X8_letterOf_19 : decode (mC M_X8_letterOf) 19 = .ok (.iconst 0, 1) := by decide +kernel
theorem DM_X8_letterOf_20 : decode (mC M_X8_letterOf) 20 = .ok (.invokestatic 158, 3) := by decide +kernel
theorem DM_X8_letterOf_23 : decode (mC M_X8_letterOf) 23 = .ok (.iconst 2, 1) := by decide +kernel
theorem DM_X8_letterOf_24 : decode (mC M_X8_letterOf) 24 = .ok (.if_icmp .ne 11, 3) := by decide +kernel
theorem DM_X8_letterOf_27 : decode (mC M_X8_letterOf) 27 = .ok (.iload_n 3, 1) := by decide +kernel
theorem DM_X8_letterOf_28 : decode (mC M_X8_letterOf) 28 = .ok (.iconst 1, 1) := by decide +kernel
theorem DM_X8_letterOf_29 : decode (mC M_X8_letterOf) 29 = .ok (.isub, 1) := by decide +kernel
theorem DM_X8_letterOf_30 : decode (mC M_X8_letterOf) 30 = .ok (.iload_n 2, 1) := by decide +kernel
theorem DM_X8_letterOf_31 : decode (mC M_X8_letterOf) 31 = .ok (.isub, 1) := by decide +kernel
theorem DM_X8_letterOf_32 : decode (mC M_X8_letterOf) 32 = .ok (.goto 4, 3) := by decide +kernel
theorem DM_X8_letterOf_35 : decode (mC M_X8_letterOf) 35 = .ok (.iload_n 2, 1) := by decide +kernel
theorem DM_X8_letterOf_36 : decode (mC M_X8_letterOf) 36 = .ok (.iadd, 1) := by decide +kernel
theorem DM_X8_letterOf_37 : decode (mC M_X8_letterOf) 37 = .ok (.invokestatic 158, 3) := by decide +kernel
theorem DM_X8_letterOf_40 : decode (mC M_X8_letterOf) 40 = .ok (.ireturn, 1) := by decide +kernel
theorem DM_X8_classOf_0 : decode (mC M_X8_classOf) 0 = .ok (.aload_n 0, 1) := by decide +kernel
theorem DM_X8_classOf_1 : decode (mC M_X8_classOf) 1 = .ok (.iload_n 1, 1) := by decide +kernel
theorem DM_X8_classOf_2 : decode (mC M_X8_classOf) 2 = .ok (.iconst 0, 1) := by decide +kernel
theorem DM_X8_classOf_3 : decode (mC M_X8_classOf) 3 = .ok (.invokestatic 158, 3) := by decide +kernel
theorem DM_X8_classOf_6 : decode (mC M_X8_classOf) 6 = .ok (.istore_n 2, 1) := by decide +kernel
theorem DM_X8_classOf_7 : decode (mC M_X8_classOf) 7 = .ok (.iload_n 2, 1) := by decide +kernel
theorem DM_X8_classOf_8 : decode (mC M_X8_classOf) 8 = .ok (.iconst 5, 1) := by decide +kernel
theorem DM_X8_classOf_9 : decode (mC M_X8_classOf) 9 = .ok (.if_icmp .ne 7, 3) := by decide +kernel
theorem DM_X8_classOf_12 : decode (mC M_X8_classOf) 12 = .ok (.iconst 0, 1) := by decide +kernel
theorem DM_X8_classOf_13 : decode (mC M_X8_classOf) 13 = .ok (.goto 13, 3) := by decide +kernel
theorem DM_X8_classOf_16 : decode (mC M_X8_classOf) 16 = .ok (.iload_n 2, 1) := by decide +kernel
theorem DM_X8_classOf_17 : decode (mC M_X8_classOf) 17 = .ok (.iconst 4, 1) := by decide +kernel
theorem DM_X8_classOf_18 : decode (mC M_X8_classOf) 18 = .ok (.if_icmp .ne 7, 3) := by decide +kernel
theorem DM_X8_classOf_21 : decode (mC M_X8_classOf) 21 = .ok (.iconst 2, 1) := by decide +kernel
theorem DM_X8_classOf_22 : decode (mC M_X8_classOf) 22 = .ok (.goto 4, 3) := by decide +kernel
theorem DM_X8_classOf_25 : decode (mC M_X8_classOf) 25 = .ok (.iconst 1, 1) := by decide +kernel
theorem DM_X8_classOf_26 : decode (mC M_X8_classOf) 26 = .ok (.ireturn, 1) := by decide +kernel
theorem DM_X8_isBefore_0 : decode (mC M_X8_isBefore) 0 = .ok (.aload_n 0, 1) := by decide +kernel
theorem DM_X8_isBefore_1 : decode (mC M_X8_isBefore) 1 = .ok (.iload_n 1, 1) := by decide +kernel
theorem DM_X8_isBefore_2 : decode (mC M_X8_isBefore) 2 = .ok (.invokestatic 162, 3) := by decide +kernel
theorem DM_X8_isBefore_5 : decode (mC M_X8_isBefore) 5 = .ok (.aload_n 0, 1) := by decide +kernel
theorem DM_X8_isBefore_6 : decode (mC M_X8_isBefore) 6 = .ok (.iload_n 2, 1) := by decide +kernel
theorem DM_X8_isBefore_7 : decode (mC M_X8_isBefore) 7 = .ok (.invokestatic 162, 3) := by decide +kernel
theorem DM_X8_isBefore_10 : decode (mC M_X8_isBefore) 10 = .ok (.if_icmp .eq 22, 3) := by decide +kernel
theorem DM_X8_isBefore_13 : decode (mC M_X8_isBefore) 13 = .ok (.aload_n 0, 1) := by decide +kernel
theorem DM_X8_isBefore_14 : decode (mC M_X8_isBefore) 14 = .ok (.iload_n 1, 1) := by decide +kernel
theorem DM_X8_isBefore_15 : decode (mC M_X8_isBefore) 15 = .ok (.invokestatic 162, 3) := by decide +kernel
theorem DM_X8_isBefore_18 : decode (mC M_X8_isBefore) 18 = .ok (.aload_n 0, 1) := by decide +kernel
theorem DM_X8_isBefore_19 : decode (mC M_X8_isBefore) 19 = .ok (.iload_n 2, 1) := by decide +kernel
theorem DM_X8_isBefore_20 : decode (mC M_X8_isBefore) 20 = .ok (.invokestatic 162, 3) := by decide +kernel
theorem DM_X8_isBefore_23 : decode (mC M_X8_isBefore) 23 = .ok (.if_icmp .ge 7, 3) := by decide +kernel
theorem DM_X8_isBefore_26 : decode (mC M_X8_isBefore) 26 = .ok (.iconst 1, 1) := by decide +kernel
theorem DM_X8_isBefore_27 : decode (mC M_X8_isBefore) 27 = .ok (.goto 4, 3) := by decide +kernel
theorem DM_X8_isBefore_30 : decode (mC M_X8_isBefore) 30 = .ok (.iconst 0, 1) := by decide +kernel
theorem DM_X8_isBefore_31 : decode (mC M_X8_isBefore) 31 = .ok (.ireturn, 1) := by decide +kernel
theorem DM_X8_isBefore_32 : decode (mC M_X8_isBefore) 32 = .ok (.iconst 0, 1) := by decide +kernel
theorem DM_X8_isBefore_33 : decode (mC M_X8_isBefore) 33 = .ok (.istore 4, 2) := by decide +kernel
theorem DM_X8_isBefore_35 : decode (mC M_X8_isBefore) 35 = .ok (.iload 4, 2) := by decide +kernel
theorem DM_X8_isBefore_37 : decode (mC M_X8_isBefore) 37 = .ok (.iconst 4, 1) := by decide +kernel
theorem DM_X8_isBefore_38 : decode (mC M_X8_isBefore) 38 = .ok (.if_icmp .ge 67, 3) := by decide +kernel
theorem DM_X8_isBefore_41 : decode (mC M_X8_isBefore) 41 = .ok (.aload_n 0, 1) := by decide +kernel
theorem DM_X8_isBefore_42 : decode (mC M_X8_isBefore) 42 = .ok (.iload_n 1, 1) := by decide +kernel
theorem DM_X8_isBefore_43 : decode (mC M_X8_isBefore) 43 = .ok (.iload 4, 2) := by decide +kernel
theorem DM_X8_isBefore_45 : decode (mC M_X8_isBefore) 45 = .ok (.invokestatic 166, 3) := by decide +kernel
theorem DM_X8_isBefore_48 : decode (mC M_X8_isBefore) 48 = .ok (.istore 5, 2) := by decide +kernel
theorem DM_X8_isBefore_50 : decode (mC M_X8_isBefore) 50 = .ok (.aload_n 0, 1) := by decide +kernel
theorem DM_X8_isBefore_51 : decode (mC M_X8_isBefore) 51 = .ok (.iload_n 2, 1) := by decide +kernel
theorem DM_X8_isBefore_52 : decode (mC M_X8_isBefore) 52 = .ok (.iload 4, 2) := by decide +kernel
theorem DM_X8_isBefore_54 : decode (mC M_X8_isBefore) 54 = .ok (.invokestatic 166, 3) := by decide +kernel
theorem DM_X8_isBefore_57 : decode (mC M_X8_isBefore) 57 = .ok (.istore 6, 2) := by decide +kernel
theorem DM_X8_isBefore_59 : decode (mC M_X8_isBefore) 59 = .ok (.iload 5, 2) := by decide +kernel
theorem DM_X8_isBefore_61 : decode (mC M_X8_isBefore) 61 = .ok (.iload 6, 2) := by decide +kernel
theorem DM_X8_isBefore_63 : decode (mC M_X8_isBefore) 63 = .ok (.if_icmp .eq 36, 3) := by decide +kernel
theorem DM_X8_isBefore_66 : decode (mC M_X8_isBefore) 66 = .ok (.iload 5, 2) := by decide +kernel
theorem DM_X8_isBefore_68 : decode (mC M_X8_isBefore) 68 = .ok (.ifCond .lt 25, 3) := by decide +kernel
theorem DM_X8_isBefore_71 : decode (mC M_X8_isBefore) 71 = .ok (.iload 6, 2) := by decide +kernel
theorem DM_X8_isBefore_73 : decode (mC M_X8_isBefore) 73 = .ok (.ifCond .lt 24, 3) := by decide +kernel
theorem DM_X8_isBefore_76 : decode (mC M_X8_isBefore) 76 = .ok (.aload_n 0, 1) := by decide +kernel
theorem DM_X8_isBefore_77 : decode (mC M_X8_isBefore) 77 = .ok (.iload 5, 2) := by decide +kernel
theorem DM_X8_isBefore_79 : decode (mC M_X8_isBefore) 79 = .ok (.iload_n 3, 1) := by decide +kernel
theorem DM_X8_isBefore_80 : decode (mC M_X8_isBefore) 80 = .ok (.invokestatic 169, 3) := by decide +kernel
theorem DM_X8_isBefore_83 : decode (mC M_X8_isBefore) 83 = .ok (.aload_n 0, 1) := by decide +kernel
theorem DM_X8_isBefore_84 : decode (mC M_X8_isBefore) 84 = .ok (.iload 6, 2) := by decide +kernel
theorem DM_X8_isBefore_86 : decode (mC M_X8_isBefore) 86 = .ok (.iload_n 3, 1) := by decide +kernel
theorem DM_X8_isBefore_87 : decode (mC M_X8_isBefore) 87 = .ok (.invokestatic 169, 3) := by decide +kernel
theorem DM_X8_isBefore_90 : decode (mC M_X8_isBefore) 90 = .ok (.if_icmp .ge 7, 3) := by decide +kernel
theorem DM_X8_isBefore_93 : decode (mC M_X8_isBefore) 93 = .ok (.iconst 1, 1) := by decide +kernel
theorem DM_X8_isBefore_94 : decode (mC M_X8_isBefore) 94 = .ok (.goto 4, 3) := by decide +kernel
theorem DM_X8_isBefore_97 : decode (mC M_X8_isBefore) 97 = .ok (.iconst 0, 1) := by decide +kernel
theorem DM_X8_isBefore_98 : decode (mC M_X8_isBefore) 98 = .ok (.ireturn, 1) := by decide +kernel
theorem DM_X8_isBefore_99 : decode (mC M_X8_isBefore) 99 = .ok (.iinc 4 1, 3) := by decide +kernel
theorem DM_X8_isBefore_102 : decode (mC M_X8_isBefore) 102 = .ok (.goto (-67), 3) := by decide +kernel
theorem DM_X8_isBefore_105 : decode (mC M_X8_isBefore) 105 = .ok (.iload_n 1, 1) := by decide +kernel
theorem DM_X8_isBefore_106 : decode (mC M_X8_isBefore) 106 = .ok (.iload_n 2, 1) := by decide +kernel
theorem DM_X8_isBefore_107 : decode (mC M_X8_isBefore) 107 = .ok (.if_icmp .ge 7, 3) := by decide +kernel
theorem DM_X8_isBefore_110 : decode (mC M_X8_isBefore) 110 = .ok (.iconst 1, 1) := by decide +kernel
theorem DM_X8_isBefore_111 : decode (mC M_X8_isBefore) 111 = .ok (.goto 4, 3) := by decide +kernel
theorem DM_X8_isBefore_114 : decode (mC M_X8_isBefore) 114 = .ok (.iconst 0, 1) := by decide +kernel
theorem DM_X8_isBefore_115 : decode (mC M_X8_isBefore) 115 = .ok (.ireturn, 1) := by decide +kernel
theorem DM_X8_waits_0 : decode (mC M_X8_waits) 0 = .ok (.aload_n 0, 1) := by decide +kernel
theorem DM_X8_waits_1 : decode (mC M_X8_waits) 1 = .ok (.iload_n 1, 1) := by decide +kernel
theorem DM_X8_waits_2 : decode (mC M_X8_waits) 2 = .ok (.bipush 8, 2) := by decide +kernel
theorem DM_X8_waits_4 : decode (mC M_X8_waits) 4 = .ok (.invokestatic 158, 3) := by decide +kernel
theorem DM_X8_waits_7 : decode (mC M_X8_waits) 7 = .ok (.ifCond .ne 7, 3) := by decide +kernel
theorem DM_X8_waits_10 : decode (mC M_X8_waits) 10 = .ok (.iconst 1, 1) := by decide +kernel
theorem DM_X8_waits_11 : decode (mC M_X8_waits) 11 = .ok (.goto 4, 3) := by decide +kernel
theorem DM_X8_waits_14 : decode (mC M_X8_waits) 14 = .ok (.iconst 0, 1) := by decide +kernel
theorem DM_X8_waits_15 : decode (mC M_X8_waits) 15 = .ok (.ireturn, 1) := by decide +kernel
theorem DM_X8_manySo_0 : decode (mC M_X8_manySo) 0 = .ok (.iconst 0, 1) := by decide +kernel
theorem DM_X8_manySo_1 : decode (mC M_X8_manySo) 1 = .ok (.istore_n 2, 1) := by decide +kernel
theorem DM_X8_manySo_2 : decode (mC M_X8_manySo) 2 = .ok (.iconst 0, 1) := by decide +kernel
theorem DM_X8_manySo_3 : decode (mC M_X8_manySo) 3 = .ok (.istore_n 3, 1) := by decide +kernel
theorem DM_X8_manySo_4 : decode (mC M_X8_manySo) 4 = .ok (.iload_n 3, 1) := by decide +kernel
theorem DM_X8_manySo_5 : decode (mC M_X8_manySo) 5 = .ok (.aload_n 0, 1) := by decide +kernel
theorem DM_X8_manySo_6 : decode (mC M_X8_manySo) 6 = .ok (.iconst 2, 1) := by decide +kernel
theorem DM_X8_manySo_7 : decode (mC M_X8_manySo) 7 = .ok (.iaload, 1) := by decide +kernel
theorem DM_X8_manySo_8 : decode (mC M_X8_manySo) 8 = .ok (.if_icmp .ge 28, 3) := by decide +kernel
theorem DM_X8_manySo_11 : decode (mC M_X8_manySo) 11 = .ok (.iload_n 2, 1) := by decide +kernel
theorem DM_X8_manySo_12 : decode (mC M_X8_manySo) 12 = .ok (.aload_n 0, 1) := by decide +kernel
theorem DM_X8_manySo_13 : decode (mC M_X8_manySo) 13 = .ok (.iload_n 3, 1) := by decide +kernel
theorem DM_X8_manySo_14 : decode (mC M_X8_manySo) 14 = .ok (.bipush 8, 2) := by decide +kernel
theorem DM_X8_manySo_16 : decode (mC M_X8_manySo) 16 = .ok (.invokestatic 158, 3) := by decide +kernel
theorem DM_X8_manySo_19 : decode (mC M_X8_manySo) 19 = .ok (.iload_n 1, 1) := by decide +kernel
theorem DM_X8_manySo_20 : decode (mC M_X8_manySo) 20 = .ok (.if_icmp .ne 7, 3) := by decide +kernel
theorem DM_X8_manySo_23 : decode (mC M_X8_manySo) 23 = .ok (.iconst 1, 1) := by decide +kernel
theorem DM_X8_manySo_24 : decode (mC M_X8_manySo) 24 = .ok (.goto 4, 3) := by decide +kernel
theorem DM_X8_manySo_27 : decode (mC M_X8_manySo) 27 = .ok (.iconst 0, 1) := by decide +kernel
theorem DM_X8_manySo_28 : decode (mC M_X8_manySo) 28 = .ok (.iadd, 1) := by decide +kernel
theorem DM_X8_manySo_29 : decode (mC M_X8_manySo) 29 = .ok (.istore_n 2, 1) := by decide +kernel
theorem DM_X8_manySo_30 : decode (mC M_X8_manySo) 30 = .ok (.iinc 3 1, 3) := by decide +kernel
theorem DM_X8_manySo_33 : decode (mC M_X8_manySo) 33 = .ok (.goto (-29), 3) := by decide +kernel
theorem DM_X8_manySo_36 : decode (mC M_X8_manySo) 36 = .ok (.iload_n 2, 1) := by decide +kernel
theorem DM_X8_manySo_37 : decode (mC M_X8_manySo) 37 = .ok (.ireturn, 1) := by decide +kernel
theorem DM_X8_isLost_0 : decode (mC M_X8_isLost) 0 = .ok (.iconst 0, 1) := by decide +kernel
theorem DM_X8_isLost_1 : decode (mC M_X8_isLost) 1 = .ok (.istore_n 2, 1) := by decide +kernel
theorem DM_X8_isLost_2 : decode (mC M_X8_isLost) 2 = .ok (.iconst 0, 1) := by decide +kernel
theorem DM_X8_isLost_3 : decode (mC M_X8_isLost) 3 = .ok (.istore_n 3, 1) := by decide +kernel
theorem DM_X8_isLost_4 : decode (mC M_X8_isLost) 4 = .ok (.iload_n 3, 1) := by decide +kernel
theorem DM_X8_isLost_5 : decode (mC M_X8_isLost) 5 = .ok (.aload_n 0, 1) := by decide +kernel
theorem DM_X8_isLost_6 : decode (mC M_X8_isLost) 6 = .ok (.iload_n 1, 1) := by decide +kernel
theorem DM_X8_isLost_7 : decode (mC M_X8_isLost) 7 = .ok (.iconst 3, 1) := by decide +kernel
theorem DM_X8_isLost_8 : decode (mC M_X8_isLost) 8 = .ok (.invokestatic 158, 3) := by decide +kernel
theorem DM_X8_isLost_11 : decode (mC M_X8_isLost) 11 = .ok (.if_icmp .ge 36, 3) := by decide +kernel
theorem DM_X8_isLost_14 : decode (mC M_X8_isLost) 14 = .ok (.iload_n 2, 1) := by decide +kernel
theorem DM_X8_isLost_15 : decode (mC M_X8_isLost) 15 = .ok (.ifCond .ne 20, 3) := by decide +kernel
theorem DM_X8_isLost_18 : decode (mC M_X8_isLost) 18 = .ok (.aload_n 0, 1) := by decide +kernel
theorem DM_X8_isLost_19 : decode (mC M_X8_isLost) 19 = .ok (.iconst 4, 1) := by decide +kernel
theorem DM_X8_isLost_20 : decode (mC M_X8_isLost) 20 = .ok (.iaload, 1) := by decide +kernel
theorem DM_X8_isLost_21 : decode (mC M_X8_isLost) 21 = .ok (.aload_n 0, 1) := by decide +kernel
theorem DM_X8_isLost_22 : decode (mC M_X8_isLost) 22 = .ok (.iload_n 1, 1) := by decide +kernel
theorem DM_X8_isLost_23 : decode (mC M_X8_isLost) 23 = .ok (.iconst 4, 1) := by decide +kernel
theorem DM_X8_isLost_24 : decode (mC M_X8_isLost) 24 = .ok (.iload_n 3, 1) := by decide +kernel
theorem DM_X8_isLost_25 : decode (mC M_X8_isLost) 25 = .ok (.iadd, 1) := by decide +kernel
theorem DM_X8_isLost_26 : decode (mC M_X8_isLost) 26 = .ok (.invokestatic 158, 3) := by decide +kernel
theorem DM_X8_isLost_29 : decode (mC M_X8_isLost) 29 = .ok (.invokestatic 130, 3) := by decide +kernel
theorem DM_X8_isLost_32 : decode (mC M_X8_isLost) 32 = .ok (.ifCond .eq 7, 3) := by decide +kernel
theorem DM_X8_isLost_35 : decode (mC M_X8_isLost) 35 = .ok (.iconst 1, 1) := by decide +kernel
theorem DM_X8_isLost_36 : decode (mC M_X8_isLost) 36 = .ok (.goto 4, 3) := by decide +kernel
theorem DM_X8_isLost_39 : decode (mC M_X8_isLost) 39 = .ok (.iconst 0, 1) := by decide +kernel
theorem DM_X8_isLost_40 : decode (mC M_X8_isLost) 40 = .ok (.istore_n 2, 1) := by decide +kernel
theorem DM_X8_isLost_41 : decode (mC M_X8_isLost) 41 = .ok (.iinc 3 1, 3) := by decide +kernel
theorem DM_X8_isLost_44 : decode (mC M_X8_isLost) 44 = .ok (.goto (-40), 3) := by decide +kernel
theorem DM_X8_isLost_47 : decode (mC M_X8_isLost) 47 = .ok (.iload_n 2, 1) := by decide +kernel
theorem DM_X8_isLost_48 : decode (mC M_X8_isLost) 48 = .ok (.ireturn, 1) := by decide +kernel
theorem DM_X8_nextBy_0 : decode (mC M_X8_nextBy) 0 = .ok (.ldc 59, 2) := by decide +kernel
theorem DM_X8_nextBy_2 : decode (mC M_X8_nextBy) 2 = .ok (.istore_n 2, 1) := by decide +kernel
theorem DM_X8_nextBy_3 : decode (mC M_X8_nextBy) 3 = .ok (.iconst 0, 1) := by decide +kernel
theorem DM_X8_nextBy_4 : decode (mC M_X8_nextBy) 4 = .ok (.istore_n 3, 1) := by decide +kernel
theorem DM_X8_nextBy_5 : decode (mC M_X8_nextBy) 5 = .ok (.iload_n 3, 1) := by decide +kernel
theorem DM_X8_nextBy_6 : decode (mC M_X8_nextBy) 6 = .ok (.aload_n 0, 1) := by decide +kernel
theorem DM_X8_nextBy_7 : decode (mC M_X8_nextBy) 7 = .ok (.iconst 2, 1) := by decide +kernel
theorem DM_X8_nextBy_8 : decode (mC M_X8_nextBy) 8 = .ok (.iaload, 1) := by decide +kernel
theorem DM_X8_nextBy_9 : decode (mC M_X8_nextBy) 9 = .ok (.if_icmp .ge 43, 3) := by decide +kernel
theorem DM_X8_nextBy_12 : decode (mC M_X8_nextBy) 12 = .ok (.aload_n 0, 1) := by decide +kernel
theorem DM_X8_nextBy_13 : decode (mC M_X8_nextBy) 13 = .ok (.iload_n 3, 1) := by decide +kernel
theorem DM_X8_nextBy_14 : decode (mC M_X8_nextBy) 14 = .ok (.invokestatic 172, 3) := by decide +kernel
theorem DM_X8_nextBy_17 : decode (mC M_X8_nextBy) 17 = .ok (.ifCond .eq 29, 3) := by decide +kernel
theorem DM_X8_nextBy_20 : decode (mC M_X8_nextBy) 20 = .ok (.aload_n 0, 1) := by decide +kernel
theorem DM_X8_nextBy_21 : decode (mC M_X8_nextBy) 21 = .ok (.iload_n 3, 1) := by decide +kernel
theorem DM_X8_nextBy_22 : decode (mC M_X8_nextBy) 22 = .ok (.invokestatic 176, 3) := by decide +kernel
theorem DM_X8_nextBy_25 : decode (mC M_X8_nextBy) 25 = .ok (.ifCond .ne 21, 3) := by decide +kernel
theorem DM_X8_nextBy_28 : decode (mC M_X8_nextBy) 28 = .ok (.iload_n 2, 1) := by decide +kernel
theorem DM_X8_nextBy_29 : decode (mC M_X8_nextBy) 29 = .ok (.ldc 59, 2) := by decide +kernel
theorem DM_X8_nextBy_31 : decode (mC M_X8_nextBy) 31 = .ok (.if_icmp .eq 13, 3) := by decide +kernel
theorem DM_X8_nextBy_34 : decode (mC M_X8_nextBy) 34 = .ok (.aload_n 0, 1) := by decide +kernel
theorem DM_X8_nextBy_35 : decode (mC M_X8_nextBy) 35 = .ok (.iload_n 3, 1) := by decide +kernel
theorem DM_X8_nextBy_36 : decode (mC M_X8_nextBy) 36 = .ok (.iload_n 2, 1) := by decide +kernel
theorem DM_X8_nextBy_37 : decode (mC M_X8_nextBy) 37 = .ok (.iload_n 1, 1) := by decide +kernel
theorem DM_X8_nextBy_38 : decode (mC M_X8_nextBy) 38 = .ok (.invokestatic 179, 3) := by decide +kernel
theorem DM_X8_nextBy_41 : decode (mC M_X8_nextBy) 41 = .ok (.ifCond .eq 5, 3) := by decide +kernel
theorem DM_X8_nextBy_44 : decode (mC M_X8_nextBy) 44 = .ok (.iload_n 3, 1) := by decide +kernel
theorem DM_X8_nextBy_45 : decode (mC M_X8_nextBy) 45 = .ok (.istore_n 2, 1) := by decide +kernel
theorem DM_X8_nextBy_46 : decode (mC M_X8_nextBy) 46 = .ok (.iinc 3 1, 3) := by decide +kernel
theorem DM_X8_nextBy_49 : decode (mC M_X8_nextBy) 49 = .ok (.goto (-44), 3) := by decide +kernel
theorem DM_X8_nextBy_52 : decode (mC M_X8_nextBy) 52 = .ok (.iload_n 2, 1) := by decide +kernel
theorem DM_X8_nextBy_53 : decode (mC M_X8_nextBy) 53 = .ok (.ireturn, 1) := by decide +kernel
theorem DM_X8_ages_0 : decode (mC M_X8_ages) 0 = .ok (.aload_n 0, 1) := by decide +kernel
theorem DM_X8_ages_1 : decode (mC M_X8_ages) 1 = .ok (.iconst 3, 1) := by decide +kernel
theorem DM_X8_ages_2 : decode (mC M_X8_ages) 2 = .ok (.dup2, 1) := by decide +kernel
theorem DM_X8_ages_3 : decode (mC M_X8_ages) 3 = .ok (.iaload, 1) := by decide +kernel
theorem DM_X8_ages_4 : decode (mC M_X8_ages) 4 = .ok (.iconst 1, 1) := by decide +kernel
theorem DM_X8_ages_5 : decode (mC M_X8_ages) 5 = .ok (.iadd, 1) := by decide +kernel
theorem DM_X8_ages_6 : decode (mC M_X8_ages) 6 = .ok (.iastore, 1) := by decide +kernel
theorem DM_X8_ages_7 : decode (mC M_X8_ages) 7 = .ok (.iconst 0, 1) := by decide +kernel
theorem DM_X8_ages_8 : decode (mC M_X8_ages) 8 = .ok (.istore_n 1, 1) := by decide +kernel
theorem DM_X8_ages_9 : decode (mC M_X8_ages) 9 = .ok (.iload_n 1, 1) := by decide +kernel
theorem DM_X8_ages_10 : decode (mC M_X8_ages) 10 = .ok (.aload_n 0, 1) := by decide +kernel
theorem DM_X8_ages_11 : decode (mC M_X8_ages) 11 = .ok (.iconst 2, 1) := by decide +kernel
theorem DM_X8_ages_12 : decode (mC M_X8_ages) 12 = .ok (.iaload, 1) := by decide +kernel
theorem DM_X8_ages_13 : decode (mC M_X8_ages) 13 = .ok (.if_icmp .ge 101, 3) := by decide +kernel
theorem DM_X8_ages_16 : decode (mC M_X8_ages) 16 = .ok (.bipush 13, 2) := by decide +kernel
theorem DM_X8_ages_18 : decode (mC M_X8_ages) 18 = .ok (.bipush 13, 2) := by decide +kernel
theorem DM_X8_ages_20 : decode (mC M_X8_ages) 20 = .ok (.iload_n 1, 1) := by decide +kernel
theorem DM_X8_ages_21 : decode (mC M_X8_ages) 21 = .ok (.imul, 1) := by decide +kernel
theorem DM_X8_ages_22 : decode (mC M_X8_ages) 22 = .ok (.iadd, 1) := by decide +kernel
theorem DM_X8_ages_23 : decode (mC M_X8_ages) 23 = .ok (.istore_n 2, 1) := by decide +kernel
theorem DM_X8_ages_24 : decode (mC M_X8_ages) 24 = .ok (.aload_n 0, 1) := by decide +kernel
theorem DM_X8_ages_25 : decode (mC M_X8_ages) 25 = .ok (.iload_n 2, 1) := by decide +kernel
theorem DM_X8_ages_26 : decode (mC M_X8_ages) 26 = .ok (.bipush 8, 2) := by decide +kernel
theorem DM_X8_ages_28 : decode (mC M_X8_ages) 28 = .ok (.iadd, 1) := by decide +kernel
theorem DM_X8_ages_29 : decode (mC M_X8_ages) 29 = .ok (.iaload, 1) := by decide +kernel
theorem DM_X8_ages_30 : decode (mC M_X8_ages) 30 = .ok (.iconst 1, 1) := by decide +kernel
theorem DM_X8_ages_31 : decode (mC M_X8_ages) 31 = .ok (.if_icmp .ne 41, 3) := by decide +kernel
theorem DM_X8_ages_34 : decode (mC M_X8_ages) 34 = .ok (.aload_n 0, 1) := by decide +kernel
theorem DM_X8_ages_35 : decode (mC M_X8_ages) 35 = .ok (.iload_n 2, 1) := by decide +kernel
theorem DM_X8_ages_36 : decode (mC M_X8_ages) 36 = .ok (.bipush 9, 2) := by decide +kernel
theorem DM_X8_ages_38 : decode (mC M_X8_ages) 38 = .ok (.iadd, 1) := by decide +kernel
theorem DM_X8_ages_39 : decode (mC M_X8_ages) 39 = .ok (.dup2, 1) := by decide +kernel
theorem DM_X8_ages_40 : decode (mC M_X8_ages) 40 = .ok (.iaload, 1) := by decide +kernel
theorem DM_X8_ages_41 : decode (mC M_X8_ages) 41 = .ok (.iconst 1, 1) := by decide +kernel
theorem DM_X8_ages_42 : decode (mC M_X8_ages) 42 = .ok (.isub, 1) := by decide +kernel
theorem DM_X8_ages_43 : decode (mC M_X8_ages) 43 = .ok (.iastore, 1) := by decide +kernel
theorem DM_X8_ages_44 : decode (mC M_X8_ages) 44 = .ok (.aload_n 0, 1) := by decide +kernel
theorem DM_X8_ages_45 : decode (mC M_X8_ages) 45 = .ok (.iload_n 2, 1) := by decide +kernel
theorem DM_X8_ages_46 : decode (mC M_X8_ages) 46 = .ok (.bipush 9, 2) := by decide +kernel
theorem DM_X8_ages_48 : decode (mC M_X8_ages) 48 = .ok (.iadd, 1) := by decide +kernel
theorem DM_X8_ages_49 : decode (mC M_X8_ages) 49 = .ok (.iaload, 1) := by decide +kernel
theorem DM_X8_ages_50 : decode (mC M_X8_ages) 50 = .ok (.ifCond .ne 58, 3) := by decide +kernel
theorem DM_X8_ages_53 : decode (mC M_X8_ages) 53 = .ok (.aload_n 0, 1) := by decide +kernel
theorem DM_X8_ages_54 : decode (mC M_X8_ages) 54 = .ok (.iload_n 2, 1) := by decide +kernel
theorem DM_X8_ages_55 : decode (mC M_X8_ages) 55 = .ok (.bipush 8, 2) := by decide +kernel
theorem DM_X8_ages_57 : decode (mC M_X8_ages) 57 = .ok (.iadd, 1) := by decide +kernel
theorem DM_X8_ages_58 : decode (mC M_X8_ages) 58 = .ok (.iconst 2, 1) := by decide +kernel
theorem DM_X8_ages_59 : decode (mC M_X8_ages) 59 = .ok (.iastore, 1) := by decide +kernel
theorem DM_X8_ages_60 : decode (mC M_X8_ages) 60 = .ok (.aload_n 0, 1) := by decide +kernel
theorem DM_X8_ages_61 : decode (mC M_X8_ages) 61 = .ok (.iload_n 2, 1) := by decide +kernel
theorem DM_X8_ages_62 : decode (mC M_X8_ages) 62 = .ok (.bipush 11, 2) := by decide +kernel
theorem DM_X8_ages_64 : decode (mC M_X8_ages) 64 = .ok (.iadd, 1) := by decide +kernel
theorem DM_X8_ages_65 : decode (mC M_X8_ages) 65 = .ok (.aload_n 0, 1) := by decide +kernel
theorem DM_X8_ages_66 : decode (mC M_X8_ages) 66 = .ok (.iconst 3, 1) := by decide +kernel
theorem DM_X8_ages_67 : decode (mC M_X8_ages) 67 = .ok (.iaload, 1) := by decide +kernel
theorem DM_X8_ages_68 : decode (mC M_X8_ages) 68 = .ok (.iastore, 1) := by decide +kernel
theorem DM_X8_ages_69 : decode (mC M_X8_ages) 69 = .ok (.goto 39, 3) := by decide +kernel
theorem DM_X8_ages_72 : decode (mC M_X8_ages) 72 = .ok (.aload_n 0, 1) := by decide +kernel
theorem DM_X8_ages_73 : decode (mC M_X8_ages) 73 = .ok (.iload_n 2, 1) := by decide +kernel
theorem DM_X8_ages_74 : decode (mC M_X8_ages) 74 = .ok (.bipush 8, 2) := by decide +kernel
theorem DM_X8_ages_76 : decode (mC M_X8_ages) 76 = .ok (.iadd, 1) := by decide +kernel
theorem DM_X8_ages_77 : decode (mC M_X8_ages) 77 = .ok (.iaload, 1) := by decide +kernel
theorem DM_X8_ages_78 : decode (mC M_X8_ages) 78 = .ok (.ifCond .ne 30, 3) := by decide +kernel
theorem DM_X8_ages_81 : decode (mC M_X8_ages) 81 = .ok (.aload_n 0, 1) := by decide +kernel
theorem DM_X8_ages_82 : decode (mC M_X8_ages) 82 = .ok (.iconst 3, 1) := by decide +kernel
theorem DM_X8_ages_83 : decode (mC M_X8_ages) 83 = .ok (.iaload, 1) := by decide +kernel
theorem DM_X8_ages_84 : decode (mC M_X8_ages) 84 = .ok (.aload_n 0, 1) := by decide +kernel
theorem DM_X8_ages_85 : decode (mC M_X8_ages) 85 = .ok (.iload_n 2, 1) := by decide +kernel
theorem DM_X8_ages_86 : decode (mC M_X8_ages) 86 = .ok (.iconst 2, 1) := by decide +kernel
theorem DM_X8_ages_87 : decode (mC M_X8_ages) 87 = .ok (.iadd, 1) := by decide +kernel
theorem DM_X8_ages_88 : decode (mC M_X8_ages) 88 = .ok (.iaload, 1) := by decide +kernel
theorem DM_X8_ages_89 : decode (mC M_X8_ages) 89 = .ok (.if_icmp .lt 19, 3) := by decide +kernel
theorem DM_X8_ages_92 : decode (mC M_X8_ages) 92 = .ok (.aload_n 0, 1) := by decide +kernel
theorem DM_X8_ages_93 : decode (mC M_X8_ages) 93 = .ok (.iload_n 2, 1) := by decide +kernel
theorem DM_X8_ages_94 : decode (mC M_X8_ages) 94 = .ok (.bipush 8, 2) := by decide +kernel
theorem DM_X8_ages_96 : decode (mC M_X8_ages) 96 = .ok (.iadd, 1) := by decide +kernel
theorem DM_X8_ages_97 : decode (mC M_X8_ages) 97 = .ok (.iconst 3, 1) := by decide +kernel
theorem DM_X8_ages_98 : decode (mC M_X8_ages) 98 = .ok (.iastore, 1) := by decide +kernel
theorem DM_X8_ages_99 : decode (mC M_X8_ages) 99 = .ok (.aload_n 0, 1) := by decide +kernel
theorem DM_X8_ages_100 : decode (mC M_X8_ages) 100 = .ok (.iload_n 2, 1) := by decide +kernel
theorem DM_X8_ages_101 : decode (mC M_X8_ages) 101 = .ok (.bipush 12, 2) := by decide +kernel
theorem DM_X8_ages_103 : decode (mC M_X8_ages) 103 = .ok (.iadd, 1) := by decide +kernel
theorem DM_X8_ages_104 : decode (mC M_X8_ages) 104 = .ok (.aload_n 0, 1) := by decide +kernel
theorem DM_X8_ages_105 : decode (mC M_X8_ages) 105 = .ok (.iconst 3, 1) := by decide +kernel
theorem DM_X8_ages_106 : decode (mC M_X8_ages) 106 = .ok (.iaload, 1) := by decide +kernel
theorem DM_X8_ages_107 : decode (mC M_X8_ages) 107 = .ok (.iastore, 1) := by decide +kernel
theorem DM_X8_ages_108 : decode (mC M_X8_ages) 108 = .ok (.iinc 1 1, 3) := by decide +kernel
theorem DM_X8_ages_111 : decode (mC M_X8_ages) 111 = .ok (.goto (-102), 3) := by decide +kernel
theorem DM_X8_ages_114 : decode (mC M_X8_ages) 114 = .ok (.return_, 1) := by decide +kernel
theorem DM_X8_seats_0 : decode (mC M_X8_seats) 0 = .ok (.bipush 13, 2) := by decide +kernel
theorem DM_X8_seats_2 : decode (mC M_X8_seats) 2 = .ok (.bipush 13, 2) := by decide +kernel
theorem DM_X8_seats_4 : decode (mC M_X8_seats) 4 = .ok (.iload_n 1, 1) := by decide +kernel
theorem DM_X8_seats_5 : decode (mC M_X8_seats) 5 = .ok (.imul, 1) := by decide +kernel
theorem DM_X8_seats_6 : decode (mC M_X8_seats) 6 = .ok (.iadd, 1) := by decide +kernel
theorem DM_X8_seats_7 : decode (mC M_X8_seats) 7 = .ok (.istore_n 2, 1) := by decide +kernel
theorem DM_X8_seats_8 : decode (mC M_X8_seats) 8 = .ok (.aload_n 0, 1) := by decide +kernel
theorem DM_X8_seats_9 : decode (mC M_X8_seats) 9 = .ok (.iload_n 2, 1) := by decide +kernel
theorem DM_X8_seats_10 : decode (mC M_X8_seats) 10 = .ok (.bipush 8, 2) := by decide +kernel
theorem DM_X8_seats_12 : decode (mC M_X8_seats) 12 = .ok (.iadd, 1) := by decide +kernel
theorem DM_X8_seats_13 : decode (mC M_X8_seats) 13 = .ok (.iconst 1, 1) := by decide +kernel
theorem DM_X8_seats_14 : decode (mC M_X8_seats) 14 = .ok (.iastore, 1) := by decide +kernel
theorem DM_X8_seats_15 : decode (mC M_X8_seats) 15 = .ok (.aload_n 0, 1) := by decide +kernel
theorem DM_X8_seats_16 : decode (mC M_X8_seats) 16 = .ok (.iload_n 2, 1) := by decide +kernel
theorem DM_X8_seats_17 : decode (mC M_X8_seats) 17 = .ok (.bipush 9, 2) := by decide +kernel
theorem DM_X8_seats_19 : decode (mC M_X8_seats) 19 = .ok (.iadd, 1) := by decide +kernel
theorem DM_X8_seats_20 : decode (mC M_X8_seats) 20 = .ok (.aload_n 0, 1) := by decide +kernel
theorem DM_X8_seats_21 : decode (mC M_X8_seats) 21 = .ok (.iload_n 2, 1) := by decide +kernel
theorem DM_X8_seats_22 : decode (mC M_X8_seats) 22 = .ok (.iconst 1, 1) := by decide +kernel
theorem DM_X8_seats_23 : decode (mC M_X8_seats) 23 = .ok (.iadd, 1) := by decide +kernel
end
section
theorem DM_X8_seats_24 : decode (mC M_X8_seats) 24 = .ok (.iaload, 1) := by decide +kernel
theorem DM_X8_seats_25 : decode (mC M_X8_seats) 25 = .ok (.iastore, 1) := by decide +kernel
theorem DM_X8_seats_26 : decode (mC M_X8_seats) 26 = .ok (.aload_n 0, 1) := by decide +kernel
theorem DM_X8_seats_27 : decode (mC M_X8_seats) 27 = .ok (.iload_n 2, 1) := by decide +kernel
theorem DM_X8_seats_28 : decode (mC M_X8_seats) 28 = .ok (.bipush 10, 2) := by decide +kernel
theorem DM_X8_seats_30 : decode (mC M_X8_seats) 30 = .ok (.iadd, 1) := by decide +kernel
theorem DM_X8_seats_31 : decode (mC M_X8_seats) 31 = .ok (.aload_n 0, 1) := by decide +kernel
theorem DM_X8_seats_32 : decode (mC M_X8_seats) 32 = .ok (.iconst 3, 1) := by decide +kernel
theorem DM_X8_seats_33 : decode (mC M_X8_seats) 33 = .ok (.iaload, 1) := by decide +kernel
theorem DM_X8_seats_34 : decode (mC M_X8_seats) 34 = .ok (.iastore, 1) := by decide +kernel
theorem DM_X8_seats_35 : decode (mC M_X8_seats) 35 = .ok (.return_, 1) := by decide +kernel
theorem DM_X8_passes_0 : decode (mC M_X8_passes) 0 = .ok (.aload_n 1, 1) := by decide +kernel
theorem DM_X8_passes_1 : decode (mC M_X8_passes) 1 = .ok (.invokestatic 183, 3) := by decide +kernel
theorem DM_X8_passes_4 : decode (mC M_X8_passes) 4 = .ok (.aload_n 0, 1) := by decide +kernel
theorem DM_X8_passes_5 : decode (mC M_X8_passes) 5 = .ok (.iconst 0, 1) := by decide +kernel
theorem DM_X8_passes_6 : decode (mC M_X8_passes) 6 = .ok (.putfield 187, 3) := by decide +kernel
theorem DM_X8_passes_9 : decode (mC M_X8_passes) 9 = .ok (.aload_n 1, 1) := by decide +kernel
theorem DM_X8_passes_10 : decode (mC M_X8_passes) 10 = .ok (.iload_n 2, 1) := by decide +kernel
theorem DM_X8_passes_11 : decode (mC M_X8_passes) 11 = .ok (.invokestatic 190, 3) := by decide +kernel
theorem DM_X8_passes_14 : decode (mC M_X8_passes) 14 = .ok (.istore_n 3, 1) := by decide +kernel
theorem DM_X8_passes_15 : decode (mC M_X8_passes) 15 = .ok (.iload_n 3, 1) := by decide +kernel
theorem DM_X8_passes_16 : decode (mC M_X8_passes) 16 = .ok (.ldc 59, 2) := by decide +kernel
theorem DM_X8_passes_18 : decode (mC M_X8_passes) 18 = .ok (.if_icmp .eq 48, 3) := by decide +kernel
theorem DM_X8_passes_21 : decode (mC M_X8_passes) 21 = .ok (.aload_n 1, 1) := by decide +kernel
theorem DM_X8_passes_22 : decode (mC M_X8_passes) 22 = .ok (.iconst 1, 1) := by decide +kernel
theorem DM_X8_passes_23 : decode (mC M_X8_passes) 23 = .ok (.invokestatic 193, 3) := by decide +kernel
theorem DM_X8_passes_26 : decode (mC M_X8_passes) 26 = .ok (.aload_n 1, 1) := by decide +kernel
theorem DM_X8_passes_27 : decode (mC M_X8_passes) 27 = .ok (.iconst 0, 1) := by decide +kernel
theorem DM_X8_passes_28 : decode (mC M_X8_passes) 28 = .ok (.iaload, 1) := by decide +kernel
theorem DM_X8_passes_29 : decode (mC M_X8_passes) 29 = .ok (.if_icmp .ge 37, 3) := by decide +kernel
theorem DM_X8_passes_32 : decode (mC M_X8_passes) 32 = .ok (.aload_n 1, 1) := by decide +kernel
theorem DM_X8_passes_33 : decode (mC M_X8_passes) 33 = .ok (.iload_n 3, 1) := by decide +kernel
theorem DM_X8_passes_34 : decode (mC M_X8_passes) 34 = .ok (.invokestatic 196, 3) := by decide +kernel
theorem DM_X8_passes_37 : decode (mC M_X8_passes) 37 = .ok (.aload_n 0, 1) := by decide +kernel
theorem DM_X8_passes_38 : decode (mC M_X8_passes) 38 = .ok (.getfield 47, 3) := by decide +kernel
theorem DM_X8_passes_41 : decode (mC M_X8_passes) 41 = .ok (.aload_n 0, 1) := by decide +kernel
theorem DM_X8_passes_42 : decode (mC M_X8_passes) 42 = .ok (.getfield 187, 3) := by decide +kernel
theorem DM_X8_passes_45 : decode (mC M_X8_passes) 45 = .ok (.iload_n 3, 1) := by decide +kernel
theorem DM_X8_passes_46 : decode (mC M_X8_passes) 46 = .ok (.iastore, 1) := by decide +kernel
theorem DM_X8_passes_47 : decode (mC M_X8_passes) 47 = .ok (.aload_n 0, 1) := by decide +kernel
theorem DM_X8_passes_48 : decode (mC M_X8_passes) 48 = .ok (.dup, 1) := by decide +kernel
theorem DM_X8_passes_49 : decode (mC M_X8_passes) 49 = .ok (.getfield 187, 3) := by decide +kernel
theorem DM_X8_passes_52 : decode (mC M_X8_passes) 52 = .ok (.iconst 1, 1) := by decide +kernel
theorem DM_X8_passes_53 : decode (mC M_X8_passes) 53 = .ok (.iadd, 1) := by decide +kernel
theorem DM_X8_passes_54 : decode (mC M_X8_passes) 54 = .ok (.putfield 187, 3) := by decide +kernel
theorem DM_X8_passes_57 : decode (mC M_X8_passes) 57 = .ok (.aload_n 1, 1) := by decide +kernel
theorem DM_X8_passes_58 : decode (mC M_X8_passes) 58 = .ok (.iload_n 2, 1) := by decide +kernel
theorem DM_X8_passes_59 : decode (mC M_X8_passes) 59 = .ok (.invokestatic 190, 3) := by decide +kernel
theorem DM_X8_passes_62 : decode (mC M_X8_passes) 62 = .ok (.istore_n 3, 1) := by decide +kernel
theorem DM_X8_passes_63 : decode (mC M_X8_passes) 63 = .ok (.goto (-48), 3) := by decide +kernel
theorem DM_X8_passes_66 : decode (mC M_X8_passes) 66 = .ok (.return_, 1) := by decide +kernel
theorem DM_X8_notes_0 : decode (mC M_X8_notes) 0 = .ok (.aload_n 0, 1) := by decide +kernel
theorem DM_X8_notes_1 : decode (mC M_X8_notes) 1 = .ok (.getfield 155, 3) := by decide +kernel
theorem DM_X8_notes_4 : decode (mC M_X8_notes) 4 = .ok (.bipush 24, 2) := by decide +kernel
theorem DM_X8_notes_6 : decode (mC M_X8_notes) 6 = .ok (.if_icmp .ne 43, 3) := by decide +kernel
theorem DM_X8_notes_9 : decode (mC M_X8_notes) 9 = .ok (.iconst 0, 1) := by decide +kernel
theorem DM_X8_notes_10 : decode (mC M_X8_notes) 10 = .ok (.istore_n 1, 1) := by decide +kernel
theorem DM_X8_notes_11 : decode (mC M_X8_notes) 11 = .ok (.iload_n 1, 1) := by decide +kernel
theorem DM_X8_notes_12 : decode (mC M_X8_notes) 12 = .ok (.sipush 2093, 3) := by decide +kernel
theorem DM_X8_notes_15 : decode (mC M_X8_notes) 15 = .ok (.if_icmp .ge 24, 3) := by decide +kernel
theorem DM_X8_notes_18 : decode (mC M_X8_notes) 18 = .ok (.aload_n 0, 1) := by decide +kernel
theorem DM_X8_notes_19 : decode (mC M_X8_notes) 19 = .ok (.getfield 34, 3) := by decide +kernel
theorem DM_X8_notes_22 : decode (mC M_X8_notes) 22 = .ok (.iload_n 1, 1) := by decide +kernel
theorem DM_X8_notes_23 : decode (mC M_X8_notes) 23 = .ok (.aload_n 0, 1) := by decide +kernel
theorem DM_X8_notes_24 : decode (mC M_X8_notes) 24 = .ok (.getfield 34, 3) := by decide +kernel
theorem DM_X8_notes_27 : decode (mC M_X8_notes) 27 = .ok (.iload_n 1, 1) := by decide +kernel
theorem DM_X8_notes_28 : decode (mC M_X8_notes) 28 = .ok (.bipush 91, 2) := by decide +kernel
theorem DM_X8_notes_30 : decode (mC M_X8_notes) 30 = .ok (.iadd, 1) := by decide +kernel
theorem DM_X8_notes_31 : decode (mC M_X8_notes) 31 = .ok (.iaload, 1) := by decide +kernel
theorem DM_X8_notes_32 : decode (mC M_X8_notes) 32 = .ok (.iastore, 1) := by decide +kernel
theorem DM_X8_notes_33 : decode (mC M_X8_notes) 33 = .ok (.iinc 1 1, 3) := by decide +kernel
theorem DM_X8_notes_36 : decode (mC M_X8_notes) 36 = .ok (.goto (-25), 3) := by decide +kernel
theorem DM_X8_notes_39 : decode (mC M_X8_notes) 39 = .ok (.aload_n 0, 1) := by decide +kernel
theorem DM_X8_notes_40 : decode (mC M_X8_notes) 40 = .ok (.dup, 1) := by decide +kernel
theorem DM_X8_notes_41 : decode (mC M_X8_notes) 41 = .ok (.getfield 155, 3) := by decide +kernel
theorem DM_X8_notes_44 : decode (mC M_X8_notes) 44 = .ok (.iconst 1, 1) := by decide +kernel
theorem DM_X8_notes_45 : decode (mC M_X8_notes) 45 = .ok (.isub, 1) := by decide +kernel
theorem DM_X8_notes_46 : decode (mC M_X8_notes) 46 = .ok (.putfield 155, 3) := by decide +kernel
theorem DM_X8_notes_49 : decode (mC M_X8_notes) 49 = .ok (.aload_n 0, 1) := by decide +kernel
theorem DM_X8_notes_50 : decode (mC M_X8_notes) 50 = .ok (.getfield 25, 3) := by decide +kernel
theorem DM_X8_notes_53 : decode (mC M_X8_notes) 53 = .ok (.iconst 0, 1) := by decide +kernel
theorem DM_X8_notes_54 : decode (mC M_X8_notes) 54 = .ok (.aload_n 0, 1) := by decide +kernel
theorem DM_X8_notes_55 : decode (mC M_X8_notes) 55 = .ok (.getfield 34, 3) := by decide +kernel
theorem DM_X8_notes_58 : decode (mC M_X8_notes) 58 = .ok (.bipush 91, 2) := by decide +kernel
theorem DM_X8_notes_60 : decode (mC M_X8_notes) 60 = .ok (.aload_n 0, 1) := by decide +kernel
theorem DM_X8_notes_61 : decode (mC M_X8_notes) 61 = .ok (.getfield 155, 3) := by decide +kernel
theorem DM_X8_notes_64 : decode (mC M_X8_notes) 64 = .ok (.imul, 1) := by decide +kernel
theorem DM_X8_notes_65 : decode (mC M_X8_notes) 65 = .ok (.invokestatic 151, 3) := by decide +kernel
theorem DM_X8_notes_68 : decode (mC M_X8_notes) 68 = .ok (.aload_n 0, 1) := by decide +kernel
theorem DM_X8_notes_69 : decode (mC M_X8_notes) 69 = .ok (.dup, 1) := by decide +kernel
theorem DM_X8_notes_70 : decode (mC M_X8_notes) 70 = .ok (.getfield 155, 3) := by decide +kernel
theorem DM_X8_notes_73 : decode (mC M_X8_notes) 73 = .ok (.iconst 1, 1) := by decide +kernel
theorem DM_X8_notes_74 : decode (mC M_X8_notes) 74 = .ok (.iadd, 1) := by decide +kernel
theorem DM_X8_notes_75 : decode (mC M_X8_notes) 75 = .ok (.putfield 155, 3) := by decide +kernel
theorem DM_X8_notes_78 : decode (mC M_X8_notes) 78 = .ok (.return_, 1) := by decide +kernel
theorem DM_X8_days_0 : decode (mC M_X8_days) 0 = .ok (.aload_n 0, 1) := by decide +kernel
theorem DM_X8_days_1 : decode (mC M_X8_days) 1 = .ok (.invokevirtual 200, 3) := by decide +kernel
theorem DM_X8_days_4 : decode (mC M_X8_days) 4 = .ok (.ifCond .ne 6, 3) := by decide +kernel
theorem DM_X8_days_7 : decode (mC M_X8_days) 7 = .ok (.ldc 203, 2) := by decide +kernel
theorem DM_X8_days_9 : decode (mC M_X8_days) 9 = .ok (.ireturn, 1) := by decide +kernel
theorem DM_X8_days_10 : decode (mC M_X8_days) 10 = .ok (.iload_n 1, 1) := by decide +kernel
theorem DM_X8_days_11 : decode (mC M_X8_days) 11 = .ok (.iconst 1, 1) := by decide +kernel
theorem DM_X8_days_12 : decode (mC M_X8_days) 12 = .ok (.bipush 20, 2) := by decide +kernel
theorem DM_X8_days_14 : decode (mC M_X8_days) 14 = .ok (.invokestatic 65, 3) := by decide +kernel
theorem DM_X8_days_17 : decode (mC M_X8_days) 17 = .ok (.ifCond .ne 6, 3) := by decide +kernel
theorem DM_X8_days_20 : decode (mC M_X8_days) 20 = .ok (.ldc 73, 2) := by decide +kernel
theorem DM_X8_days_22 : decode (mC M_X8_days) 22 = .ok (.ireturn, 1) := by decide +kernel
theorem DM_X8_days_23 : decode (mC M_X8_days) 23 = .ok (.aload_n 0, 1) := by decide +kernel
theorem DM_X8_days_24 : decode (mC M_X8_days) 24 = .ok (.getfield 25, 3) := by decide +kernel
theorem DM_X8_days_27 : decode (mC M_X8_days) 27 = .ok (.iconst 3, 1) := by decide +kernel
theorem DM_X8_days_28 : decode (mC M_X8_days) 28 = .ok (.iaload, 1) := by decide +kernel
theorem DM_X8_days_29 : decode (mC M_X8_days) 29 = .ok (.iload_n 1, 1) := by decide +kernel
theorem DM_X8_days_30 : decode (mC M_X8_days) 30 = .ok (.iadd, 1) := by decide +kernel
theorem DM_X8_days_31 : decode (mC M_X8_days) 31 = .ok (.sipush 999, 3) := by decide +kernel
theorem DM_X8_days_34 : decode (mC M_X8_days) 34 = .ok (.if_icmp .le 6, 3) := by decide +kernel
theorem DM_X8_days_37 : decode (mC M_X8_days) 37 = .ok (.ldc 94, 2) := by decide +kernel
theorem DM_X8_days_39 : decode (mC M_X8_days) 39 = .ok (.ireturn, 1) := by decide +kernel
theorem DM_X8_days_40 : decode (mC M_X8_days) 40 = .ok (.iconst 0, 1) := by decide +kernel
theorem DM_X8_days_41 : decode (mC M_X8_days) 41 = .ok (.istore_n 2, 1) := by decide +kernel
theorem DM_X8_days_42 : decode (mC M_X8_days) 42 = .ok (.iload_n 2, 1) := by decide +kernel
theorem DM_X8_days_43 : decode (mC M_X8_days) 43 = .ok (.iload_n 1, 1) := by decide +kernel
theorem DM_X8_days_44 : decode (mC M_X8_days) 44 = .ok (.if_icmp .ge 22, 3) := by decide +kernel
theorem DM_X8_days_47 : decode (mC M_X8_days) 47 = .ok (.aload_n 0, 1) := by decide +kernel
theorem DM_X8_days_48 : decode (mC M_X8_days) 48 = .ok (.invokevirtual 204, 3) := by decide +kernel
theorem DM_X8_days_51 : decode (mC M_X8_days) 51 = .ok (.aload_n 0, 1) := by decide +kernel
theorem DM_X8_days_52 : decode (mC M_X8_days) 52 = .ok (.aload_n 0, 1) := by decide +kernel
theorem DM_X8_days_53 : decode (mC M_X8_days) 53 = .ok (.getfield 25, 3) := by decide +kernel
theorem DM_X8_days_56 : decode (mC M_X8_days) 56 = .ok (.iconst 0, 1) := by decide +kernel
theorem DM_X8_days_57 : decode (mC M_X8_days) 57 = .ok (.invokevirtual 207, 3) := by decide +kernel
theorem DM_X8_days_60 : decode (mC M_X8_days) 60 = .ok (.iinc 2 1, 3) := by decide +kernel
theorem DM_X8_days_63 : decode (mC M_X8_days) 63 = .ok (.goto (-21), 3) := by decide +kernel
theorem DM_X8_days_66 : decode (mC M_X8_days) 66 = .ok (.aload_n 0, 1) := by decide +kernel
theorem DM_X8_days_67 : decode (mC M_X8_days) 67 = .ok (.getfield 25, 3) := by decide +kernel
theorem DM_X8_days_70 : decode (mC M_X8_days) 70 = .ok (.iconst 0, 1) := by decide +kernel
theorem DM_X8_days_71 : decode (mC M_X8_days) 71 = .ok (.invokestatic 193, 3) := by decide +kernel
theorem DM_X8_days_74 : decode (mC M_X8_days) 74 = .ok (.ireturn, 1) := by decide +kernel
theorem DM_X8_isPlaceOf_0 : decode (mC M_X8_isPlaceOf) 0 = .ok (.aload_n 0, 1) := by decide +kernel
theorem DM_X8_isPlaceOf_1 : decode (mC M_X8_isPlaceOf) 1 = .ok (.iload_n 1, 1) := by decide +kernel
theorem DM_X8_isPlaceOf_2 : decode (mC M_X8_isPlaceOf) 2 = .ok (.invokevirtual 210, 3) := by decide +kernel
theorem DM_X8_isPlaceOf_5 : decode (mC M_X8_isPlaceOf) 5 = .ok (.ifCond .eq 26, 3) := by decide +kernel
theorem DM_X8_isPlaceOf_8 : decode (mC M_X8_isPlaceOf) 8 = .ok (.iload_n 2, 1) := by decide +kernel
theorem DM_X8_isPlaceOf_9 : decode (mC M_X8_isPlaceOf) 9 = .ok (.iconst 0, 1) := by decide +kernel
theorem DM_X8_isPlaceOf_10 : decode (mC M_X8_isPlaceOf) 10 = .ok (.aload_n 0, 1) := by decide +kernel
theorem DM_X8_isPlaceOf_11 : decode (mC M_X8_isPlaceOf) 11 = .ok (.getfield 25, 3) := by decide +kernel
theorem DM_X8_isPlaceOf_14 : decode (mC M_X8_isPlaceOf) 14 = .ok (.iload_n 1, 1) := by decide +kernel
theorem DM_X8_isPlaceOf_15 : decode (mC M_X8_isPlaceOf) 15 = .ok (.iconst 3, 1) := by decide +kernel
theorem DM_X8_isPlaceOf_16 : decode (mC M_X8_isPlaceOf) 16 = .ok (.invokestatic 158, 3) := by decide +kernel
theorem DM_X8_isPlaceOf_19 : decode (mC M_X8_isPlaceOf) 19 = .ok (.iconst 1, 1) := by decide +kernel
theorem DM_X8_isPlaceOf_20 : decode (mC M_X8_isPlaceOf) 20 = .ok (.isub, 1) := by decide +kernel
theorem DM_X8_isPlaceOf_21 : decode (mC M_X8_isPlaceOf) 21 = .ok (.invokestatic 65, 3) := by decide +kernel
theorem DM_X8_isPlaceOf_24 : decode (mC M_X8_isPlaceOf) 24 = .ok (.ifCond .eq 7, 3) := by decide +kernel
theorem DM_X8_isPlaceOf_27 : decode (mC M_X8_isPlaceOf) 27 = .ok (.iconst 1, 1) := by decide +kernel
theorem DM_X8_isPlaceOf_28 : decode (mC M_X8_isPlaceOf) 28 = .ok (.goto 4, 3) := by decide +kernel
theorem DM_X8_isPlaceOf_31 : decode (mC M_X8_isPlaceOf) 31 = .ok (.iconst 0, 1) := by decide +kernel
theorem DM_X8_isPlaceOf_32 : decode (mC M_X8_isPlaceOf) 32 = .ok (.ireturn, 1) := by decide +kernel
theorem DM_X8_forge_0 : decode (mC M_X8_forge) 0 = .ok (.aload_n 0, 1) := by decide +kernel
theorem DM_X8_forge_1 : decode (mC M_X8_forge) 1 = .ok (.iload_n 1, 1) := by decide +kernel
theorem DM_X8_forge_2 : decode (mC M_X8_forge) 2 = .ok (.iload_n 2, 1) := by decide +kernel
theorem DM_X8_forge_3 : decode (mC M_X8_forge) 3 = .ok (.invokevirtual 213, 3) := by decide +kernel
theorem DM_X8_forge_6 : decode (mC M_X8_forge) 6 = .ok (.ifCond .eq 13, 3) := by decide +kernel
theorem DM_X8_forge_9 : decode (mC M_X8_forge) 9 = .ok (.iload_n 3, 1) := by decide +kernel
theorem DM_X8_forge_10 : decode (mC M_X8_forge) 10 = .ok (.iconst 0, 1) := by decide +kernel
theorem DM_X8_forge_11 : decode (mC M_X8_forge) 11 = .ok (.bipush 7, 2) := by decide +kernel
theorem DM_X8_forge_13 : decode (mC M_X8_forge) 13 = .ok (.invokestatic 65, 3) := by decide +kernel
theorem DM_X8_forge_16 : decode (mC M_X8_forge) 16 = .ok (.ifCond .ne 6, 3) := by decide +kernel
theorem DM_X8_forge_19 : decode (mC M_X8_forge) 19 = .ok (.ldc 73, 2) := by decide +kernel
theorem DM_X8_forge_21 : decode (mC M_X8_forge) 21 = .ok (.ireturn, 1) := by decide +kernel
theorem DM_X8_forge_22 : decode (mC M_X8_forge) 22 = .ok (.aload_n 0, 1) := by decide +kernel
theorem DM_X8_forge_23 : decode (mC M_X8_forge) 23 = .ok (.getfield 25, 3) := by decide +kernel
theorem DM_X8_forge_26 : decode (mC M_X8_forge) 26 = .ok (.iload_n 1, 1) := by decide +kernel
theorem DM_X8_forge_27 : decode (mC M_X8_forge) 27 = .ok (.iconst 4, 1) := by decide +kernel
theorem DM_X8_forge_28 : decode (mC M_X8_forge) 28 = .ok (.iload_n 2, 1) := by decide +kernel
theorem DM_X8_forge_29 : decode (mC M_X8_forge) 29 = .ok (.iadd, 1) := by decide +kernel
theorem DM_X8_forge_30 : decode (mC M_X8_forge) 30 = .ok (.invokestatic 158, 3) := by decide +kernel
theorem DM_X8_forge_33 : decode (mC M_X8_forge) 33 = .ok (.istore 4, 2) := by decide +kernel
theorem DM_X8_forge_35 : decode (mC M_X8_forge) 35 = .ok (.aload_n 0, 1) := by decide +kernel
theorem DM_X8_forge_36 : decode (mC M_X8_forge) 36 = .ok (.getfield 25, 3) := by decide +kernel
theorem DM_X8_forge_39 : decode (mC M_X8_forge) 39 = .ok (.iload_n 1, 1) := by decide +kernel
theorem DM_X8_forge_40 : decode (mC M_X8_forge) 40 = .ok (.iconst 0, 1) := by decide +kernel
theorem DM_X8_forge_41 : decode (mC M_X8_forge) 41 = .ok (.invokestatic 158, 3) := by decide +kernel
theorem DM_X8_forge_44 : decode (mC M_X8_forge) 44 = .ok (.iconst 3, 1) := by decide +kernel
theorem DM_X8_forge_45 : decode (mC M_X8_forge) 45 = .ok (.if_icmp .ne 20, 3) := by decide +kernel
theorem DM_X8_forge_48 : decode (mC M_X8_forge) 48 = .ok (.aload_n 0, 1) := by decide +kernel
theorem DM_X8_forge_49 : decode (mC M_X8_forge) 49 = .ok (.getfield 25, 3) := by decide +kernel
theorem DM_X8_forge_52 : decode (mC M_X8_forge) 52 = .ok (.iload_n 1, 1) := by decide +kernel
theorem DM_X8_forge_53 : decode (mC M_X8_forge) 53 = .ok (.invokestatic 172, 3) := by decide +kernel
theorem DM_X8_forge_56 : decode (mC M_X8_forge) 56 = .ok (.ifCond .eq 9, 3) := by decide +kernel
theorem DM_X8_forge_59 : decode (mC M_X8_forge) 59 = .ok (.iload 4, 2) := by decide +kernel
theorem DM_X8_forge_61 : decode (mC M_X8_forge) 61 = .ok (.iload_n 3, 1) := by decide +kernel
theorem DM_X8_forge_62 : decode (mC M_X8_forge) 62 = .ok (.if_icmp .ne 6, 3) := by decide +kernel
theorem DM_X8_forge_65 : decode (mC M_X8_forge) 65 = .ok (.ldc 203, 2) := by decide +kernel
theorem DM_X8_forge_67 : decode (mC M_X8_forge) 67 = .ok (.ireturn, 1) := by decide +kernel
theorem DM_X8_forge_68 : decode (mC M_X8_forge) 68 = .ok (.aload_n 0, 1) := by decide +kernel
theorem DM_X8_forge_69 : decode (mC M_X8_forge) 69 = .ok (.invokevirtual 204, 3) := by decide +kernel
theorem DM_X8_forge_72 : decode (mC M_X8_forge) 72 = .ok (.aload_n 0, 1) := by decide +kernel
theorem DM_X8_forge_73 : decode (mC M_X8_forge) 73 = .ok (.getfield 25, 3) := by decide +kernel
theorem DM_X8_forge_76 : decode (mC M_X8_forge) 76 = .ok (.bipush 13, 2) := by decide +kernel
theorem DM_X8_forge_78 : decode (mC M_X8_forge) 78 = .ok (.bipush 13, 2) := by decide +kernel
theorem DM_X8_forge_80 : decode (mC M_X8_forge) 80 = .ok (.iload_n 1, 1) := by decide +kernel
theorem DM_X8_forge_81 : decode (mC M_X8_forge) 81 = .ok (.imul, 1) := by decide +kernel
theorem DM_X8_forge_82 : decode (mC M_X8_forge) 82 = .ok (.iadd, 1) := by decide +kernel
theorem DM_X8_forge_83 : decode (mC M_X8_forge) 83 = .ok (.iconst 4, 1) := by decide +kernel
theorem DM_X8_forge_84 : decode (mC M_X8_forge) 84 = .ok (.iadd, 1) := by decide +kernel
theorem DM_X8_forge_85 : decode (mC M_X8_forge) 85 = .ok (.iload_n 2, 1) := by decide +kernel
theorem DM_X8_forge_86 : decode (mC M_X8_forge) 86 = .ok (.iadd, 1) := by decide +kernel
theorem DM_X8_forge_87 : decode (mC M_X8_forge) 87 = .ok (.iload_n 3, 1) := by decide +kernel
theorem DM_X8_forge_88 : decode (mC M_X8_forge) 88 = .ok (.iastore, 1) := by decide +kernel
theorem DM_X8_forge_89 : decode (mC M_X8_forge) 89 = .ok (.iload 4, 2) := by decide +kernel
theorem DM_X8_forge_91 : decode (mC M_X8_forge) 91 = .ok (.ireturn, 1) := by decide +kernel
theorem DM_X8_lose_0 : decode (mC M_X8_lose) 0 = .ok (.aload_n 0, 1) := by decide +kernel
theorem DM_X8_lose_1 : decode (mC M_X8_lose) 1 = .ok (.invokevirtual 200, 3) := by decide +kernel
theorem DM_X8_lose_4 : decode (mC M_X8_lose) 4 = .ok (.ifCond .ne 6, 3) := by decide +kernel
theorem DM_X8_lose_7 : decode (mC M_X8_lose) 7 = .ok (.ldc 203, 2) := by decide +kernel
theorem DM_X8_lose_9 : decode (mC M_X8_lose) 9 = .ok (.ireturn, 1) := by decide +kernel
theorem DM_X8_lose_10 : decode (mC M_X8_lose) 10 = .ok (.iload_n 1, 1) := by decide +kernel
theorem DM_X8_lose_11 : decode (mC M_X8_lose) 11 = .ok (.iconst 0, 1) := by decide +kernel
theorem DM_X8_lose_12 : decode (mC M_X8_lose) 12 = .ok (.bipush 7, 2) := by decide +kernel
theorem DM_X8_lose_14 : decode (mC M_X8_lose) 14 = .ok (.invokestatic 65, 3) := by decide +kernel
theorem DM_X8_lose_17 : decode (mC M_X8_lose) 17 = .ok (.ifCond .eq 12, 3) := by decide +kernel
theorem DM_X8_lose_20 : decode (mC M_X8_lose) 20 = .ok (.iload_n 2, 1) := by decide +kernel
theorem DM_X8_lose_21 : decode (mC M_X8_lose) 21 = .ok (.iconst 0, 1) := by decide +kernel
theorem DM_X8_lose_22 : decode (mC M_X8_lose) 22 = .ok (.iconst 1, 1) := by decide +kernel
theorem DM_X8_lose_23 : decode (mC M_X8_lose) 23 = .ok (.invokestatic 65, 3) := by decide +kernel
theorem DM_X8_lose_26 : decode (mC M_X8_lose) 26 = .ok (.ifCond .ne 6, 3) := by decide +kernel
theorem DM_X8_lose_29 : decode (mC M_X8_lose) 29 = .ok (.ldc 73, 2) := by decide +kernel
theorem DM_X8_lose_31 : decode (mC M_X8_lose) 31 = .ok (.ireturn, 1) := by decide +kernel
theorem DM_X8_lose_32 : decode (mC M_X8_lose) 32 = .ok (.aload_n 0, 1) := by decide +kernel
theorem DM_X8_lose_33 : decode (mC M_X8_lose) 33 = .ok (.getfield 25, 3) := by decide +kernel
theorem DM_X8_lose_36 : decode (mC M_X8_lose) 36 = .ok (.iconst 4, 1) := by decide +kernel
theorem DM_X8_lose_37 : decode (mC M_X8_lose) 37 = .ok (.iaload, 1) := by decide +kernel
theorem DM_X8_lose_38 : decode (mC M_X8_lose) 38 = .ok (.iload_n 1, 1) := by decide +kernel
theorem DM_X8_lose_39 : decode (mC M_X8_lose) 39 = .ok (.ishr, 1) := by decide +kernel
theorem DM_X8_lose_40 : decode (mC M_X8_lose) 40 = .ok (.iconst 1, 1) := by decide +kernel
theorem DM_X8_lose_41 : decode (mC M_X8_lose) 41 = .ok (.iand, 1) := by decide +kernel
theorem DM_X8_lose_42 : decode (mC M_X8_lose) 42 = .ok (.iload_n 2, 1) := by decide +kernel
theorem DM_X8_lose_43 : decode (mC M_X8_lose) 43 = .ok (.if_icmp .ne 6, 3) := by decide +kernel
theorem DM_X8_lose_46 : decode (mC M_X8_lose) 46 = .ok (.ldc 203, 2) := by decide +kernel
theorem DM_X8_lose_48 : decode (mC M_X8_lose) 48 = .ok (.ireturn, 1) := by decide +kernel
theorem DM_X8_lose_49 : decode (mC M_X8_lose) 49 = .ok (.aload_n 0, 1) := by decide +kernel
theorem DM_X8_lose_50 : decode (mC M_X8_lose) 50 = .ok (.invokevirtual 204, 3) := by decide +kernel
theorem DM_X8_lose_53 : decode (mC M_X8_lose) 53 = .ok (.aload_n 0, 1) := by decide +kernel
theorem DM_X8_lose_54 : decode (mC M_X8_lose) 54 = .ok (.getfield 25, 3) := by decide +kernel
theorem DM_X8_lose_57 : decode (mC M_X8_lose) 57 = .ok (.iconst 4, 1) := by decide +kernel
theorem DM_X8_lose_58 : decode (mC M_X8_lose) 58 = .ok (.dup2, 1) := by decide +kernel
theorem DM_X8_lose_59 : decode (mC M_X8_lose) 59 = .ok (.iaload, 1) := by decide +kernel
theorem DM_X8_lose_60 : decode (mC M_X8_lose) 60 = .ok (.iconst 1, 1) := by decide +kernel
theorem DM_X8_lose_61 : decode (mC M_X8_lose) 61 = .ok (.iload_n 1, 1) := by decide +kernel
theorem DM_X8_lose_62 : decode (mC M_X8_lose) 62 = .ok (.ishl, 1) := by decide +kernel
theorem DM_X8_lose_63 : decode (mC M_X8_lose) 63 = .ok (.ixor, 1) := by decide +kernel
theorem DM_X8_lose_64 : decode (mC M_X8_lose) 64 = .ok (.iastore, 1) := by decide +kernel
theorem DM_X8_lose_65 : decode (mC M_X8_lose) 65 = .ok (.iconst 1, 1) := by decide +kernel
theorem DM_X8_lose_66 : decode (mC M_X8_lose) 66 = .ok (.ireturn, 1) := by decide +kernel
theorem DM_X8_undo_0 : decode (mC M_X8_undo) 0 = .ok (.aload_n 0, 1) := by decide +kernel
theorem DM_X8_undo_1 : decode (mC M_X8_undo) 1 = .ok (.getfield 155, 3) := by decide +kernel
theorem DM_X8_undo_4 : decode (mC M_X8_undo) 4 = .ok (.ifCond .ne 6, 3) := by decide +kernel
theorem DM_X8_undo_7 : decode (mC M_X8_undo) 7 = .ok (.ldc 203, 2) := by decide +kernel
theorem DM_X8_undo_9 : decode (mC M_X8_undo) 9 = .ok (.ireturn, 1) := by decide +kernel
theorem DM_X8_undo_10 : decode (mC M_X8_undo) 10 = .ok (.aload_n 0, 1) := by decide +kernel
theorem DM_X8_undo_11 : decode (mC M_X8_undo) 11 = .ok (.dup, 1) := by decide +kernel
theorem DM_X8_undo_12 : decode (mC M_X8_undo) 12 = .ok (.getfield 155, 3) := by decide +kernel
theorem DM_X8_undo_15 : decode (mC M_X8_undo) 15 = .ok (.iconst 1, 1) := by decide +kernel
theorem DM_X8_undo_16 : decode (mC M_X8_undo) 16 = .ok (.isub, 1) := by decide +kernel
theorem DM_X8_undo_17 : decode (mC M_X8_undo) 17 = .ok (.putfield 155, 3) := by decide +kernel
theorem DM_X8_undo_20 : decode (mC M_X8_undo) 20 = .ok (.aload_n 0, 1) := by decide +kernel
theorem DM_X8_undo_21 : decode (mC M_X8_undo) 21 = .ok (.getfield 34, 3) := by decide +kernel
theorem DM_X8_undo_24 : decode (mC M_X8_undo) 24 = .ok (.bipush 91, 2) := by decide +kernel
theorem DM_X8_undo_26 : decode (mC M_X8_undo) 26 = .ok (.aload_n 0, 1) := by decide +kernel
theorem DM_X8_undo_27 : decode (mC M_X8_undo) 27 = .ok (.getfield 155, 3) := by decide +kernel
theorem DM_X8_undo_30 : decode (mC M_X8_undo) 30 = .ok (.imul, 1) := by decide +kernel
theorem DM_X8_undo_31 : decode (mC M_X8_undo) 31 = .ok (.aload_n 0, 1) := by decide +kernel
theorem DM_X8_undo_32 : decode (mC M_X8_undo) 32 = .ok (.getfield 25, 3) := by decide +kernel
theorem DM_X8_undo_35 : decode (mC M_X8_undo) 35 = .ok (.iconst 0, 1) := by decide +kernel
theorem DM_X8_undo_36 : decode (mC M_X8_undo) 36 = .ok (.invokestatic 151, 3) := by decide +kernel
theorem DM_X8_undo_39 : decode (mC M_X8_undo) 39 = .ok (.aload_n 0, 1) := by decide +kernel
theorem DM_X8_undo_40 : decode (mC M_X8_undo) 40 = .ok (.getfield 155, 3) := by decide +kernel
theorem DM_X8_undo_43 : decode (mC M_X8_undo) 43 = .ok (.ireturn, 1) := by decide +kernel
theorem DM_X8_beforeIt_0 : decode (mC M_X8_beforeIt) 0 = .ok (.iconst 0, 1) := by decide +kernel
theorem DM_X8_beforeIt_1 : decode (mC M_X8_beforeIt) 1 = .ok (.istore_n 2, 1) := by decide +kernel
theorem DM_X8_beforeIt_2 : decode (mC M_X8_beforeIt) 2 = .ok (.iconst 0, 1) := by decide +kernel
theorem DM_X8_beforeIt_3 : decode (mC M_X8_beforeIt) 3 = .ok (.istore_n 3, 1) := by decide +kernel
theorem DM_X8_beforeIt_4 : decode (mC M_X8_beforeIt) 4 = .ok (.iload_n 3, 1) := by decide +kernel
theorem DM_X8_beforeIt_5 : decode (mC M_X8_beforeIt) 5 = .ok (.aload_n 0, 1) := by decide +kernel
theorem DM_X8_beforeIt_6 : decode (mC M_X8_beforeIt) 6 = .ok (.getfield 25, 3) := by decide +kernel
theorem DM_X8_beforeIt_9 : decode (mC M_X8_beforeIt) 9 = .ok (.iconst 2, 1) := by decide +kernel
theorem DM_X8_beforeIt_10 : decode (mC M_X8_beforeIt) 10 = .ok (.iaload, 1) := by decide +kernel
theorem DM_X8_beforeIt_11 : decode (mC M_X8_beforeIt) 11 = .ok (.if_icmp .ge 46, 3) := by decide +kernel
theorem DM_X8_beforeIt_14 : decode (mC M_X8_beforeIt) 14 = .ok (.iload_n 2, 1) := by decide +kernel
theorem DM_X8_beforeIt_15 : decode (mC M_X8_beforeIt) 15 = .ok (.iload_n 3, 1) := by decide +kernel
theorem DM_X8_beforeIt_16 : decode (mC M_X8_beforeIt) 16 = .ok (.iload_n 1, 1) := by decide +kernel
theorem DM_X8_beforeIt_17 : decode (mC M_X8_beforeIt) 17 = .ok (.if_icmp .eq 31, 3) := by decide +kernel
theorem DM_X8_beforeIt_20 : decode (mC M_X8_beforeIt) 20 = .ok (.aload_n 0, 1) := by decide +kernel
theorem DM_X8_beforeIt_21 : decode (mC M_X8_beforeIt) 21 = .ok (.getfield 25, 3) := by decide +kernel
theorem DM_X8_beforeIt_24 : decode (mC M_X8_beforeIt) 24 = .ok (.iload_n 3, 1) := by decide +kernel
theorem DM_X8_beforeIt_25 : decode (mC M_X8_beforeIt) 25 = .ok (.invokestatic 172, 3) := by decide +kernel
theorem DM_X8_beforeIt_28 : decode (mC M_X8_beforeIt) 28 = .ok (.ifCond .eq 20, 3) := by decide +kernel
theorem DM_X8_beforeIt_31 : decode (mC M_X8_beforeIt) 31 = .ok (.aload_n 0, 1) := by decide +kernel
theorem DM_X8_beforeIt_32 : decode (mC M_X8_beforeIt) 32 = .ok (.getfield 25, 3) := by decide +kernel
theorem DM_X8_beforeIt_35 : decode (mC M_X8_beforeIt) 35 = .ok (.iload_n 3, 1) := by decide +kernel
theorem DM_X8_beforeIt_36 : decode (mC M_X8_beforeIt) 36 = .ok (.iload_n 1, 1) := by decide +kernel
theorem DM_X8_beforeIt_37 : decode (mC M_X8_beforeIt) 37 = .ok (.iconst 0, 1) := by decide +kernel
theorem DM_X8_beforeIt_38 : decode (mC M_X8_beforeIt) 38 = .ok (.invokestatic 179, 3) := by decide +kernel
theorem DM_X8_beforeIt_41 : decode (mC M_X8_beforeIt) 41 = .ok (.ifCond .eq 7, 3) := by decide +kernel
theorem DM_X8_beforeIt_44 : decode (mC M_X8_beforeIt) 44 = .ok (.iconst 1, 1) := by decide +kernel
theorem DM_X8_beforeIt_45 : decode (mC M_X8_beforeIt) 45 = .ok (.goto 4, 3) := by decide +kernel
theorem DM_X8_beforeIt_48 : decode (mC M_X8_beforeIt) 48 = .ok (.iconst 0, 1) := by decide +kernel
theorem DM_X8_beforeIt_49 : decode (mC M_X8_beforeIt) 49 = .ok (.iadd, 1) := by decide +kernel
theorem DM_X8_beforeIt_50 : decode (mC M_X8_beforeIt) 50 = .ok (.istore_n 2, 1) := by decide +kernel
theorem DM_X8_beforeIt_51 : decode (mC M_X8_beforeIt) 51 = .ok (.iinc 3 1, 3) := by decide +kernel
theorem DM_X8_beforeIt_54 : decode (mC M_X8_beforeIt) 54 = .ok (.goto (-50), 3) := by decide +kernel
theorem DM_X8_beforeIt_57 : decode (mC M_X8_beforeIt) 57 = .ok (.iload_n 2, 1) := by decide +kernel
theorem DM_X8_beforeIt_58 : decode (mC M_X8_beforeIt) 58 = .ok (.ireturn, 1) := by decide +kernel
theorem DM_X8_person_0 : decode (mC M_X8_person) 0 = .ok (.aload_n 0, 1) := by decide +kernel
theorem DM_X8_person_1 : decode (mC M_X8_person) 1 = .ok (.iload_n 1, 1) := by decide +kernel
theorem DM_X8_person_2 : decode (mC M_X8_person) 2 = .ok (.invokevirtual 210, 3) := by decide +kernel
theorem DM_X8_person_5 : decode (mC M_X8_person) 5 = .ok (.ifCond .ne 6, 3) := by decide +kernel
theorem DM_X8_person_8 : decode (mC M_X8_person) 8 = .ok (.ldc 73, 2) := by decide +kernel
theorem DM_X8_person_10 : decode (mC M_X8_person) 10 = .ok (.ireturn, 1) := by decide +kernel
theorem DM_X8_person_11 : decode (mC M_X8_person) 11 = .ok (.iload_n 2, 1) := by decide +kernel
theorem DM_X8_person_12 : decode (mC M_X8_person) 12 = .ok (.tableswitch 132 0 5 #[40, 50, 60, 70, 81, 110], 40) := by decide +kernel
theorem DM_X8_person_52 : decode (mC M_X8_person) 52 = .ok (.aload_n 0, 1) := by decide +kernel
theorem DM_X8_person_53 : decode (mC M_X8_person) 53 = .ok (.getfield 25, 3) := by decide +kernel
theorem DM_X8_person_56 : decode (mC M_X8_person) 56 = .ok (.iload_n 1, 1) := by decide +kernel
theorem DM_X8_person_57 : decode (mC M_X8_person) 57 = .ok (.iconst 1, 1) := by decide +kernel
theorem DM_X8_person_58 : decode (mC M_X8_person) 58 = .ok (.invokestatic 158, 3) := by decide +kernel
theorem DM_X8_person_61 : decode (mC M_X8_person) 61 = .ok (.ireturn, 1) := by decide +kernel
theorem DM_X8_person_62 : decode (mC M_X8_person) 62 = .ok (.aload_n 0, 1) := by decide +kernel
theorem DM_X8_person_63 : decode (mC M_X8_person) 63 = .ok (.getfield 25, 3) := by decide +kernel
theorem DM_X8_person_66 : decode (mC M_X8_person) 66 = .ok (.iload_n 1, 1) := by decide +kernel
theorem DM_X8_person_67 : decode (mC M_X8_person) 67 = .ok (.iconst 2, 1) := by decide +kernel
theorem DM_X8_person_68 : decode (mC M_X8_person) 68 = .ok (.invokestatic 158, 3) := by decide +kernel
theorem DM_X8_person_71 : decode (mC M_X8_person) 71 = .ok (.ireturn, 1) := by decide +kernel
theorem DM_X8_person_72 : decode (mC M_X8_person) 72 = .ok (.aload_n 0, 1) := by decide +kernel
theorem DM_X8_person_73 : decode (mC M_X8_person) 73 = .ok (.getfield 25, 3) := by decide +kernel
theorem DM_X8_person_76 : decode (mC M_X8_person) 76 = .ok (.iload_n 1, 1) := by decide +kernel
theorem DM_X8_person_77 : decode (mC M_X8_person) 77 = .ok (.iconst 3, 1) := by decide +kernel
theorem DM_X8_person_78 : decode (mC M_X8_person) 78 = .ok (.invokestatic 158, 3) := by decide +kernel
theorem DM_X8_person_81 : decode (mC M_X8_person) 81 = .ok (.ireturn, 1) := by decide +kernel
theorem DM_X8_person_82 : decode (mC M_X8_person) 82 = .ok (.aload_n 0, 1) := by decide +kernel
theorem DM_X8_person_83 : decode (mC M_X8_person) 83 = .ok (.getfield 25, 3) := by decide +kernel
theorem DM_X8_person_86 : decode (mC M_X8_person) 86 = .ok (.iload_n 1, 1) := by decide +kernel
theorem DM_X8_person_87 : decode (mC M_X8_person) 87 = .ok (.bipush 8, 2) := by decide +kernel
theorem DM_X8_person_89 : decode (mC M_X8_person) 89 = .ok (.invokestatic 158, 3) := by decide +kernel
theorem DM_X8_person_92 : decode (mC M_X8_person) 92 = .ok (.ireturn, 1) := by decide +kernel
theorem DM_X8_person_93 : decode (mC M_X8_person) 93 = .ok (.aload_n 0, 1) := by decide +kernel
theorem DM_X8_person_94 : decode (mC M_X8_person) 94 = .ok (.getfield 25, 3) := by decide +kernel
theorem DM_X8_person_97 : decode (mC M_X8_person) 97 = .ok (.iload_n 1, 1) := by decide +kernel
theorem DM_X8_person_98 : decode (mC M_X8_person) 98 = .ok (.bipush 8, 2) := by decide +kernel
theorem DM_X8_person_100 : decode (mC M_X8_person) 100 = .ok (.invokestatic 158, 3) := by decide +kernel
theorem DM_X8_person_103 : decode (mC M_X8_person) 103 = .ok (.iconst 1, 1) := by decide +kernel
theorem DM_X8_person_104 : decode (mC M_X8_person) 104 = .ok (.if_icmp .ne 16, 3) := by decide +kernel
theorem DM_X8_person_107 : decode (mC M_X8_person) 107 = .ok (.aload_n 0, 1) := by decide +kernel
theorem DM_X8_person_108 : decode (mC M_X8_person) 108 = .ok (.getfield 25, 3) := by decide +kernel
theorem DM_X8_person_111 : decode (mC M_X8_person) 111 = .ok (.iload_n 1, 1) := by decide +kernel
theorem DM_X8_person_112 : decode (mC M_X8_person) 112 = .ok (.bipush 9, 2) := by decide +kernel
theorem DM_X8_person_114 : decode (mC M_X8_person) 114 = .ok (.invokestatic 158, 3) := by decide +kernel
theorem DM_X8_person_117 : decode (mC M_X8_person) 117 = .ok (.goto 4, 3) := by decide +kernel
theorem DM_X8_person_120 : decode (mC M_X8_person) 120 = .ok (.iconst 0, 1) := by decide +kernel
theorem DM_X8_person_121 : decode (mC M_X8_person) 121 = .ok (.ireturn, 1) := by decide +kernel
theorem DM_X8_person_122 : decode (mC M_X8_person) 122 = .ok (.aload_n 0, 1) := by decide +kernel
theorem DM_X8_person_123 : decode (mC M_X8_person) 123 = .ok (.getfield 25, 3) := by decide +kernel
theorem DM_X8_person_126 : decode (mC M_X8_person) 126 = .ok (.iload_n 1, 1) := by decide +kernel
theorem DM_X8_person_127 : decode (mC M_X8_person) 127 = .ok (.invokestatic 172, 3) := by decide +kernel
theorem DM_X8_person_130 : decode (mC M_X8_person) 130 = .ok (.ifCond .eq 11, 3) := by decide +kernel
theorem DM_X8_person_133 : decode (mC M_X8_person) 133 = .ok (.aload_n 0, 1) := by decide +kernel
theorem DM_X8_person_134 : decode (mC M_X8_person) 134 = .ok (.iload_n 1, 1) := by decide +kernel
theorem DM_X8_person_135 : decode (mC M_X8_person) 135 = .ok (.invokevirtual 216, 3) := by decide +kernel
theorem DM_X8_person_138 : decode (mC M_X8_person) 138 = .ok (.goto 5, 3) := by decide +kernel
theorem DM_X8_person_141 : decode (mC M_X8_person) 141 = .ok (.ldc 59, 2) := by decide +kernel
theorem DM_X8_person_143 : decode (mC M_X8_person) 143 = .ok (.ireturn, 1) := by decide +kernel
theorem DM_X8_person_144 : decode (mC M_X8_person) 144 = .ok (.ldc 73, 2) := by decide +kernel
theorem DM_X8_person_146 : decode (mC M_X8_person) 146 = .ok (.ireturn, 1) := by decide +kernel
theorem DM_X8_name_0 : decode (mC M_X8_name) 0 = .ok (.aload_n 0, 1) := by decide +kernel
theorem DM_X8_name_1 : decode (mC M_X8_name) 1 = .ok (.iload_n 1, 1) := by decide +kernel
theorem DM_X8_name_2 : decode (mC M_X8_name) 2 = .ok (.iload_n 2, 1) := by decide +kernel
theorem DM_X8_name_3 : decode (mC M_X8_name) 3 = .ok (.invokevirtual 213, 3) := by decide +kernel
theorem DM_X8_name_6 : decode (mC M_X8_name) 6 = .ok (.ifCond .eq 17, 3) := by decide +kernel
theorem DM_X8_name_9 : decode (mC M_X8_name) 9 = .ok (.aload_n 0, 1) := by decide +kernel
theorem DM_X8_name_10 : decode (mC M_X8_name) 10 = .ok (.getfield 25, 3) := by decide +kernel
theorem DM_X8_name_13 : decode (mC M_X8_name) 13 = .ok (.iload_n 1, 1) := by decide +kernel
theorem DM_X8_name_14 : decode (mC M_X8_name) 14 = .ok (.iconst 4, 1) := by decide +kernel
theorem DM_X8_name_15 : decode (mC M_X8_name) 15 = .ok (.iload_n 2, 1) := by decide +kernel
theorem DM_X8_name_16 : decode (mC M_X8_name) 16 = .ok (.iadd, 1) := by decide +kernel
theorem DM_X8_name_17 : decode (mC M_X8_name) 17 = .ok (.invokestatic 158, 3) := by decide +kernel
theorem DM_X8_name_20 : decode (mC M_X8_name) 20 = .ok (.goto 5, 3) := by decide +kernel
theorem DM_X8_name_23 : decode (mC M_X8_name) 23 = .ok (.ldc 73, 2) := by decide +kernel
theorem DM_X8_name_25 : decode (mC M_X8_name) 25 = .ok (.ireturn, 1) := by decide +kernel
theorem DM_X8_order_0 : decode (mC M_X8_order) 0 = .ok (.aload_n 0, 1) := by decide +kernel
theorem DM_X8_order_1 : decode (mC M_X8_order) 1 = .ok (.invokevirtual 200, 3) := by decide +kernel
theorem DM_X8_order_4 : decode (mC M_X8_order) 4 = .ok (.ifCond .ne 6, 3) := by decide +kernel
theorem DM_X8_order_7 : decode (mC M_X8_order) 7 = .ok (.ldc 203, 2) := by decide +kernel
theorem DM_X8_order_9 : decode (mC M_X8_order) 9 = .ok (.ireturn, 1) := by decide +kernel
theorem DM_X8_order_10 : decode (mC M_X8_order) 10 = .ok (.iload_n 1, 1) := by decide +kernel
theorem DM_X8_order_11 : decode (mC M_X8_order) 11 = .ok (.iconst 0, 1) := by decide +kernel
theorem DM_X8_order_12 : decode (mC M_X8_order) 12 = .ok (.bipush 7, 2) := by decide +kernel
theorem DM_X8_order_14 : decode (mC M_X8_order) 14 = .ok (.invokestatic 65, 3) := by decide +kernel
theorem DM_X8_order_17 : decode (mC M_X8_order) 17 = .ok (.ifCond .ne 6, 3) := by decide +kernel
theorem DM_X8_order_20 : decode (mC M_X8_order) 20 = .ok (.ldc 73, 2) := by decide +kernel
theorem DM_X8_order_22 : decode (mC M_X8_order) 22 = .ok (.ireturn, 1) := by decide +kernel
theorem DM_X8_order_23 : decode (mC M_X8_order) 23 = .ok (.aload_n 0, 1) := by decide +kernel
theorem DM_X8_order_24 : decode (mC M_X8_order) 24 = .ok (.getfield 25, 3) := by decide +kernel
theorem DM_X8_order_27 : decode (mC M_X8_order) 27 = .ok (.iconst 1, 1) := by decide +kernel
theorem DM_X8_order_28 : decode (mC M_X8_order) 28 = .ok (.iaload, 1) := by decide +kernel
theorem DM_X8_order_29 : decode (mC M_X8_order) 29 = .ok (.ifCond .ne 7, 3) := by decide +kernel
theorem DM_X8_order_32 : decode (mC M_X8_order) 32 = .ok (.iconst 0, 1) := by decide +kernel
theorem DM_X8_order_33 : decode (mC M_X8_order) 33 = .ok (.goto 16, 3) := by decide +kernel
theorem DM_X8_order_36 : decode (mC M_X8_order) 36 = .ok (.aload_n 0, 1) := by decide +kernel
theorem DM_X8_order_37 : decode (mC M_X8_order) 37 = .ok (.getfield 25, 3) := by decide +kernel
theorem DM_X8_order_40 : decode (mC M_X8_order) 40 = .ok (.iconst 3, 1) := by decide +kernel
theorem DM_X8_order_41 : decode (mC M_X8_order) 41 = .ok (.iaload, 1) := by decide +kernel
theorem DM_X8_order_42 : decode (mC M_X8_order) 42 = .ok (.aload_n 0, 1) := by decide +kernel
theorem DM_X8_order_43 : decode (mC M_X8_order) 43 = .ok (.getfield 25, 3) := by decide +kernel
theorem DM_X8_order_46 : decode (mC M_X8_order) 46 = .ok (.iconst 1, 1) := by decide +kernel
theorem DM_X8_order_47 : decode (mC M_X8_order) 47 = .ok (.iaload, 1) := by decide +kernel
theorem DM_X8_order_48 : decode (mC M_X8_order) 48 = .ok (.idiv, 1) := by decide +kernel
theorem DM_X8_order_49 : decode (mC M_X8_order) 49 = .ok (.istore_n 2, 1) := by decide +kernel
theorem DM_X8_order_50 : decode (mC M_X8_order) 50 = .ok (.aload_n 0, 1) := by decide +kernel
theorem DM_X8_order_51 : decode (mC M_X8_order) 51 = .ok (.getfield 25, 3) := by decide +kernel
theorem DM_X8_order_54 : decode (mC M_X8_order) 54 = .ok (.iconst 5, 1) := by decide +kernel
theorem DM_X8_order_55 : decode (mC M_X8_order) 55 = .ok (.iload_n 1, 1) := by decide +kernel
theorem DM_X8_order_56 : decode (mC M_X8_order) 56 = .ok (.iload_n 2, 1) := by decide +kernel
theorem DM_X8_order_57 : decode (mC M_X8_order) 57 = .ok (.iadd, 1) := by decide +kernel
theorem DM_X8_order_58 : decode (mC M_X8_order) 58 = .ok (.bipush 8, 2) := by decide +kernel
theorem DM_X8_order_60 : decode (mC M_X8_order) 60 = .ok (.irem, 1) := by decide +kernel
theorem DM_X8_order_61 : decode (mC M_X8_order) 61 = .ok (.iadd, 1) := by decide +kernel
theorem DM_X8_order_62 : decode (mC M_X8_order) 62 = .ok (.iaload, 1) := by decide +kernel
theorem DM_X8_order_63 : decode (mC M_X8_order) 63 = .ok (.ireturn, 1) := by decide +kernel
theorem DM_X8_goes_0 : decode (mC M_X8_goes) 0 = .ok (.aload_n 0, 1) := by decide +kernel
theorem DM_X8_goes_1 : decode (mC M_X8_goes) 1 = .ok (.getfield 25, 3) := by decide +kernel
theorem DM_X8_goes_4 : decode (mC M_X8_goes) 4 = .ok (.iconst 0, 1) := by decide +kernel
theorem DM_X8_goes_5 : decode (mC M_X8_goes) 5 = .ok (.aload_n 0, 1) := by decide +kernel
theorem DM_X8_goes_6 : decode (mC M_X8_goes) 6 = .ok (.getfield 31, 3) := by decide +kernel
theorem DM_X8_goes_9 : decode (mC M_X8_goes) 9 = .ok (.iconst 0, 1) := by decide +kernel
theorem DM_X8_goes_10 : decode (mC M_X8_goes) 10 = .ok (.invokestatic 151, 3) := by decide +kernel
theorem DM_X8_goes_13 : decode (mC M_X8_goes) 13 = .ok (.iconst 0, 1) := by decide +kernel
theorem DM_X8_goes_14 : decode (mC M_X8_goes) 14 = .ok (.istore_n 2, 1) := by decide +kernel
theorem DM_X8_goes_15 : decode (mC M_X8_goes) 15 = .ok (.iload_n 2, 1) := by decide +kernel
theorem DM_X8_goes_16 : decode (mC M_X8_goes) 16 = .ok (.sipush 300, 3) := by decide +kernel
theorem DM_X8_goes_19 : decode (mC M_X8_goes) 19 = .ok (.if_icmp .ge 18, 3) := by decide +kernel
theorem DM_X8_goes_22 : decode (mC M_X8_goes) 22 = .ok (.aload_n 0, 1) := by decide +kernel
theorem DM_X8_goes_23 : decode (mC M_X8_goes) 23 = .ok (.aload_n 0, 1) := by decide +kernel
theorem DM_X8_goes_24 : decode (mC M_X8_goes) 24 = .ok (.getfield 31, 3) := by decide +kernel
theorem DM_X8_goes_27 : decode (mC M_X8_goes) 27 = .ok (.iload_n 1, 1) := by decide +kernel
theorem DM_X8_goes_28 : decode (mC M_X8_goes) 28 = .ok (.invokevirtual 207, 3) := by decide +kernel
theorem DM_X8_goes_31 : decode (mC M_X8_goes) 31 = .ok (.iinc 2 1, 3) := by decide +kernel
theorem DM_X8_goes_34 : decode (mC M_X8_goes) 34 = .ok (.goto (-19), 3) := by decide +kernel
theorem DM_X8_goes_37 : decode (mC M_X8_goes) 37 = .ok (.return_, 1) := by decide +kernel
theorem DM_X8_when_0 : decode (mC M_X8_when) 0 = .ok (.aload_n 0, 1) := by decide +kernel
theorem DM_X8_when_1 : decode (mC M_X8_when) 1 = .ok (.iload_n 1, 1) := by decide +kernel
theorem DM_X8_when_2 : decode (mC M_X8_when) 2 = .ok (.invokevirtual 210, 3) := by decide +kernel
theorem DM_X8_when_5 : decode (mC M_X8_when) 5 = .ok (.ifCond .eq 12, 3) := by decide +kernel
theorem DM_X8_when_8 : decode (mC M_X8_when) 8 = .ok (.iload_n 2, 1) := by decide +kernel
theorem DM_X8_when_9 : decode (mC M_X8_when) 9 = .ok (.iconst 0, 1) := by decide +kernel
theorem DM_X8_when_10 : decode (mC M_X8_when) 10 = .ok (.iconst 2, 1) := by decide +kernel
theorem DM_X8_when_11 : decode (mC M_X8_when) 11 = .ok (.invokestatic 65, 3) := by decide +kernel
theorem DM_X8_when_14 : decode (mC M_X8_when) 14 = .ok (.ifCond .ne 6, 3) := by decide +kernel
theorem DM_X8_when_17 : decode (mC M_X8_when) 17 = .ok (.ldc 73, 2) := by decide +kernel
theorem DM_X8_when_19 : decode (mC M_X8_when) 19 = .ok (.ireturn, 1) := by decide +kernel
theorem DM_X8_when_20 : decode (mC M_X8_when) 20 = .ok (.aload_n 0, 1) := by decide +kernel
theorem DM_X8_when_21 : decode (mC M_X8_when) 21 = .ok (.iconst 0, 1) := by decide +kernel
theorem DM_X8_when_22 : decode (mC M_X8_when) 22 = .ok (.invokevirtual 219, 3) := by decide +kernel
theorem DM_X8_when_25 : decode (mC M_X8_when) 25 = .ok (.aload_n 0, 1) := by decide +kernel
theorem DM_X8_when_26 : decode (mC M_X8_when) 26 = .ok (.getfield 31, 3) := by decide +kernel
theorem DM_X8_when_29 : decode (mC M_X8_when) 29 = .ok (.iload_n 1, 1) := by decide +kernel
theorem DM_X8_when_30 : decode (mC M_X8_when) 30 = .ok (.bipush 10, 2) := by decide +kernel
theorem DM_X8_when_32 : decode (mC M_X8_when) 32 = .ok (.iload_n 2, 1) := by decide +kernel
theorem DM_X8_when_33 : decode (mC M_X8_when) 33 = .ok (.iadd, 1) := by decide +kernel
theorem DM_X8_when_34 : decode (mC M_X8_when) 34 = .ok (.invokestatic 158, 3) := by decide +kernel
theorem DM_X8_when_37 : decode (mC M_X8_when) 37 = .ok (.ireturn, 1) := by decide +kernel
theorem DM_X8_waitedTried_0 : decode (mC M_X8_waitedTried) 0 = .ok (.iconst 0, 1) := by decide +kernel
theorem DM_X8_waitedTried_1 : decode (mC M_X8_waitedTried) 1 = .ok (.istore_n 1, 1) := by decide +kernel
theorem DM_X8_waitedTried_2 : decode (mC M_X8_waitedTried) 2 = .ok (.iconst 0, 1) := by decide +kernel
theorem DM_X8_waitedTried_3 : decode (mC M_X8_waitedTried) 3 = .ok (.istore_n 2, 1) := by decide +kernel
theorem DM_X8_waitedTried_4 : decode (mC M_X8_waitedTried) 4 = .ok (.iload_n 2, 1) := by decide +kernel
theorem DM_X8_waitedTried_5 : decode (mC M_X8_waitedTried) 5 = .ok (.aload_n 0, 1) := by decide +kernel
theorem DM_X8_waitedTried_6 : decode (mC M_X8_waitedTried) 6 = .ok (.getfield 31, 3) := by decide +kernel
theorem DM_X8_waitedTried_9 : decode (mC M_X8_waitedTried) 9 = .ok (.iconst 2, 1) := by decide +kernel
theorem DM_X8_waitedTried_10 : decode (mC M_X8_waitedTried) 10 = .ok (.iaload, 1) := by decide +kernel
theorem DM_X8_waitedTried_11 : decode (mC M_X8_waitedTried) 11 = .ok (.if_icmp .ge 67, 3) := by decide +kernel
theorem DM_X8_waitedTried_14 : decode (mC M_X8_waitedTried) 14 = .ok (.aload_n 0, 1) := by decide +kernel
theorem DM_X8_waitedTried_15 : decode (mC M_X8_waitedTried) 15 = .ok (.getfield 31, 3) := by decide +kernel
theorem DM_X8_waitedTried_18 : decode (mC M_X8_waitedTried) 18 = .ok (.iload_n 2, 1) := by decide +kernel
theorem DM_X8_waitedTried_19 : decode (mC M_X8_waitedTried) 19 = .ok (.bipush 10, 2) := by decide +kernel
theorem DM_X8_waitedTried_21 : decode (mC M_X8_waitedTried) 21 = .ok (.invokestatic 158, 3) := by decide +kernel
theorem DM_X8_waitedTried_24 : decode (mC M_X8_waitedTried) 24 = .ok (.istore_n 3, 1) := by decide +kernel
theorem DM_X8_waitedTried_25 : decode (mC M_X8_waitedTried) 25 = .ok (.aload_n 0, 1) := by decide +kernel
theorem DM_X8_waitedTried_26 : decode (mC M_X8_waitedTried) 26 = .ok (.getfield 31, 3) := by decide +kernel
theorem DM_X8_waitedTried_29 : decode (mC M_X8_waitedTried) 29 = .ok (.iload_n 2, 1) := by decide +kernel
theorem DM_X8_waitedTried_30 : decode (mC M_X8_waitedTried) 30 = .ok (.bipush 12, 2) := by decide +kernel
theorem DM_X8_waitedTried_32 : decode (mC M_X8_waitedTried) 32 = .ok (.invokestatic 158, 3) := by decide +kernel
theorem DM_X8_waitedTried_35 : decode (mC M_X8_waitedTried) 35 = .ok (.istore 4, 2) := by decide +kernel
theorem DM_X8_waitedTried_37 : decode (mC M_X8_waitedTried) 37 = .ok (.iload_n 1, 1) := by decide +kernel
theorem DM_X8_waitedTried_38 : decode (mC M_X8_waitedTried) 38 = .ok (.iload_n 3, 1) := by decide +kernel
theorem DM_X8_waitedTried_39 : decode (mC M_X8_waitedTried) 39 = .ok (.ldc 59, 2) := by decide +kernel
theorem DM_X8_waitedTried_41 : decode (mC M_X8_waitedTried) 41 = .ok (.if_icmp .eq 7, 3) := by decide +kernel
theorem DM_X8_waitedTried_44 : decode (mC M_X8_waitedTried) 44 = .ok (.iload_n 3, 1) := by decide +kernel
theorem DM_X8_waitedTried_45 : decode (mC M_X8_waitedTried) 45 = .ok (.goto 25, 3) := by decide +kernel
theorem DM_X8_waitedTried_48 : decode (mC M_X8_waitedTried) 48 = .ok (.iload 4, 2) := by decide +kernel
theorem DM_X8_waitedTried_50 : decode (mC M_X8_waitedTried) 50 = .ok (.ldc 59, 2) := by decide +kernel
theorem DM_X8_waitedTried_52 : decode (mC M_X8_waitedTried) 52 = .ok (.if_icmp .eq 8, 3) := by decide +kernel
theorem DM_X8_waitedTried_55 : decode (mC M_X8_waitedTried) 55 = .ok (.iload 4, 2) := by decide +kernel
theorem DM_X8_waitedTried_57 : decode (mC M_X8_waitedTried) 57 = .ok (.goto 13, 3) := by decide +kernel
theorem DM_X8_waitedTried_60 : decode (mC M_X8_waitedTried) 60 = .ok (.aload_n 0, 1) := by decide +kernel
theorem DM_X8_waitedTried_61 : decode (mC M_X8_waitedTried) 61 = .ok (.getfield 25, 3) := by decide +kernel
theorem DM_X8_waitedTried_64 : decode (mC M_X8_waitedTried) 64 = .ok (.iconst 3, 1) := by decide +kernel
theorem DM_X8_waitedTried_65 : decode (mC M_X8_waitedTried) 65 = .ok (.iaload, 1) := by decide +kernel
theorem DM_X8_waitedTried_66 : decode (mC M_X8_waitedTried) 66 = .ok (.sipush 300, 3) := by decide +kernel
theorem DM_X8_waitedTried_69 : decode (mC M_X8_waitedTried) 69 = .ok (.iadd, 1) := by decide +kernel
theorem DM_X8_waitedTried_70 : decode (mC M_X8_waitedTried) 70 = .ok (.iadd, 1) := by decide +kernel
theorem DM_X8_waitedTried_71 : decode (mC M_X8_waitedTried) 71 = .ok (.istore_n 1, 1) := by decide +kernel
theorem DM_X8_waitedTried_72 : decode (mC M_X8_waitedTried) 72 = .ok (.iinc 2 1, 3) := by decide +kernel
theorem DM_X8_waitedTried_75 : decode (mC M_X8_waitedTried) 75 = .ok (.goto (-71), 3) := by decide +kernel
theorem DM_X8_waitedTried_78 : decode (mC M_X8_waitedTried) 78 = .ok (.iload_n 1, 1) := by decide +kernel
theorem DM_X8_waitedTried_79 : decode (mC M_X8_waitedTried) 79 = .ok (.ireturn, 1) := by decide +kernel
theorem DM_X8_waited_0 : decode (mC M_X8_waited) 0 = .ok (.aload_n 0, 1) := by decide +kernel
theorem DM_X8_waited_1 : decode (mC M_X8_waited) 1 = .ok (.invokevirtual 200, 3) := by decide +kernel
theorem DM_X8_waited_4 : decode (mC M_X8_waited) 4 = .ok (.ifCond .ne 6, 3) := by decide +kernel
theorem DM_X8_waited_7 : decode (mC M_X8_waited) 7 = .ok (.ldc 203, 2) := by decide +kernel
theorem DM_X8_waited_9 : decode (mC M_X8_waited) 9 = .ok (.ireturn, 1) := by decide +kernel
theorem DM_X8_waited_10 : decode (mC M_X8_waited) 10 = .ok (.aload_n 0, 1) := by decide +kernel
theorem DM_X8_waited_11 : decode (mC M_X8_waited) 11 = .ok (.iconst 0, 1) := by decide +kernel
theorem DM_X8_waited_12 : decode (mC M_X8_waited) 12 = .ok (.invokevirtual 219, 3) := by decide +kernel
theorem DM_X8_waited_15 : decode (mC M_X8_waited) 15 = .ok (.aload_n 0, 1) := by decide +kernel
theorem DM_X8_waited_16 : decode (mC M_X8_waited) 16 = .ok (.invokevirtual 223, 3) := by decide +kernel
theorem DM_X8_waited_19 : decode (mC M_X8_waited) 19 = .ok (.ireturn, 1) := by decide +kernel
theorem DM_X8_isLast_0 : decode (mC M_X8_isLast) 0 = .ok (.iconst 1, 1) := by decide +kernel
theorem DM_X8_isLast_1 : decode (mC M_X8_isLast) 1 = .ok (.istore_n 3, 1) := by decide +kernel
theorem DM_X8_isLast_2 : decode (mC M_X8_isLast) 2 = .ok (.iconst 0, 1) := by decide +kernel
theorem DM_X8_isLast_3 : decode (mC M_X8_isLast) 3 = .ok (.istore 4, 2) := by decide +kernel
theorem DM_X8_isLast_5 : decode (mC M_X8_isLast) 5 = .ok (.iload 4, 2) := by decide +kernel
theorem DM_X8_isLast_7 : decode (mC M_X8_isLast) 7 = .ok (.aload_n 1, 1) := by decide +kernel
theorem DM_X8_isLast_8 : decode (mC M_X8_isLast) 8 = .ok (.iconst 2, 1) := by decide +kernel
theorem DM_X8_isLast_9 : decode (mC M_X8_isLast) 9 = .ok (.iaload, 1) := by decide +kernel
theorem DM_X8_isLast_10 : decode (mC M_X8_isLast) 10 = .ok (.if_icmp .ge 45, 3) := by decide +kernel
theorem DM_X8_isLast_13 : decode (mC M_X8_isLast) 13 = .ok (.iload_n 3, 1) := by decide +kernel
theorem DM_X8_isLast_14 : decode (mC M_X8_isLast) 14 = .ok (.ifCond .eq 33, 3) := by decide +kernel
theorem DM_X8_isLast_17 : decode (mC M_X8_isLast) 17 = .ok (.iload 4, 2) := by decide +kernel
theorem DM_X8_isLast_19 : decode (mC M_X8_isLast) 19 = .ok (.iload_n 2, 1) := by decide +kernel
theorem DM_X8_isLast_20 : decode (mC M_X8_isLast) 20 = .ok (.if_icmp .eq 23, 3) := by decide +kernel
theorem DM_X8_isLast_23 : decode (mC M_X8_isLast) 23 = .ok (.aload_n 1, 1) := by decide +kernel
theorem DM_X8_isLast_24 : decode (mC M_X8_isLast) 24 = .ok (.iload 4, 2) := by decide +kernel
theorem DM_X8_isLast_26 : decode (mC M_X8_isLast) 26 = .ok (.invokestatic 172, 3) := by decide +kernel
theorem DM_X8_isLast_29 : decode (mC M_X8_isLast) 29 = .ok (.ifCond .eq 14, 3) := by decide +kernel
theorem DM_X8_isLast_32 : decode (mC M_X8_isLast) 32 = .ok (.aload_n 1, 1) := by decide +kernel
theorem DM_X8_isLast_33 : decode (mC M_X8_isLast) 33 = .ok (.iload 4, 2) := by decide +kernel
theorem DM_X8_isLast_35 : decode (mC M_X8_isLast) 35 = .ok (.iload_n 2, 1) := by decide +kernel
theorem DM_X8_isLast_36 : decode (mC M_X8_isLast) 36 = .ok (.iconst 0, 1) := by decide +kernel
theorem DM_X8_isLast_37 : decode (mC M_X8_isLast) 37 = .ok (.invokestatic 179, 3) := by decide +kernel
theorem DM_X8_isLast_40 : decode (mC M_X8_isLast) 40 = .ok (.ifCond .eq 7, 3) := by decide +kernel
theorem DM_X8_isLast_43 : decode (mC M_X8_isLast) 43 = .ok (.iconst 1, 1) := by decide +kernel
theorem DM_X8_isLast_44 : decode (mC M_X8_isLast) 44 = .ok (.goto 4, 3) := by decide +kernel
theorem DM_X8_isLast_47 : decode (mC M_X8_isLast) 47 = .ok (.iconst 0, 1) := by decide +kernel
theorem DM_X8_isLast_48 : decode (mC M_X8_isLast) 48 = .ok (.istore_n 3, 1) := by decide +kernel
theorem DM_X8_isLast_49 : decode (mC M_X8_isLast) 49 = .ok (.iinc 4 1, 3) := by decide +kernel
theorem DM_X8_isLast_52 : decode (mC M_X8_isLast) 52 = .ok (.goto (-47), 3) := by decide +kernel
theorem DM_X8_isLast_55 : decode (mC M_X8_isLast) 55 = .ok (.iload_n 3, 1) := by decide +kernel
theorem DM_X8_isLast_56 : decode (mC M_X8_isLast) 56 = .ok (.ireturn, 1) := by decide +kernel
theorem DM_X8_power_0 : decode (mC M_X8_power) 0 = .ok (.iconst 1, 1) := by decide +kernel
theorem DM_X8_power_1 : decode (mC M_X8_power) 1 = .ok (.istore_n 2, 1) := by decide +kernel
theorem DM_X8_power_2 : decode (mC M_X8_power) 2 = .ok (.iconst 0, 1) := by decide +kernel
theorem DM_X8_power_3 : decode (mC M_X8_power) 3 = .ok (.istore_n 3, 1) := by decide +kernel
theorem DM_X8_power_4 : decode (mC M_X8_power) 4 = .ok (.iload_n 3, 1) := by decide +kernel
theorem DM_X8_power_5 : decode (mC M_X8_power) 5 = .ok (.iload_n 1, 1) := by decide +kernel
theorem DM_X8_power_6 : decode (mC M_X8_power) 6 = .ok (.if_icmp .ge 13, 3) := by decide +kernel
theorem DM_X8_power_9 : decode (mC M_X8_power) 9 = .ok (.iload_n 2, 1) := by decide +kernel
theorem DM_X8_power_10 : decode (mC M_X8_power) 10 = .ok (.iload_n 0, 1) := by decide +kernel
theorem DM_X8_power_11 : decode (mC M_X8_power) 11 = .ok (.imul, 1) := by decide +kernel
theorem DM_X8_power_12 : decode (mC M_X8_power) 12 = .ok (.istore_n 2, 1) := by decide +kernel
theorem DM_X8_power_13 : decode (mC M_X8_power) 13 = .ok (.iinc 3 1, 3) := by decide +kernel
theorem DM_X8_power_16 : decode (mC M_X8_power) 16 = .ok (.goto (-12), 3) := by decide +kernel
theorem DM_X8_power_19 : decode (mC M_X8_power) 19 = .ok (.iload_n 2, 1) := by decide +kernel
theorem DM_X8_power_20 : decode (mC M_X8_power) 20 = .ok (.ireturn, 1) := by decide +kernel
theorem DM_X8_lays_0 : decode (mC M_X8_lays) 0 = .ok (.aload_n 0, 1) := by decide +kernel
theorem DM_X8_lays_1 : decode (mC M_X8_lays) 1 = .ok (.getfield 25, 3) := by decide +kernel
theorem DM_X8_lays_4 : decode (mC M_X8_lays) 4 = .ok (.iload_n 1, 1) := by decide +kernel
theorem DM_X8_lays_5 : decode (mC M_X8_lays) 5 = .ok (.iconst 3, 1) := by decide +kernel
theorem DM_X8_lays_6 : decode (mC M_X8_lays) 6 = .ok (.invokestatic 158, 3) := by decide +kernel
theorem DM_X8_lays_9 : decode (mC M_X8_lays) 9 = .ok (.istore_n 3, 1) := by decide +kernel
theorem DM_X8_lays_10 : decode (mC M_X8_lays) 10 = .ok (.iconst 0, 1) := by decide +kernel
theorem DM_X8_lays_11 : decode (mC M_X8_lays) 11 = .ok (.istore 4, 2) := by decide +kernel
theorem DM_X8_lays_13 : decode (mC M_X8_lays) 13 = .ok (.iconst 0, 1) := by decide +kernel
theorem DM_X8_lays_14 : decode (mC M_X8_lays) 14 = .ok (.istore 5, 2) := by decide +kernel
theorem DM_X8_lays_16 : decode (mC M_X8_lays) 16 = .ok (.iload 5, 2) := by decide +kernel
theorem DM_X8_lays_18 : decode (mC M_X8_lays) 18 = .ok (.iload_n 3, 1) := by decide +kernel
theorem DM_X8_lays_19 : decode (mC M_X8_lays) 19 = .ok (.if_icmp .ge 73, 3) := by decide +kernel
theorem DM_X8_lays_22 : decode (mC M_X8_lays) 22 = .ok (.iload_n 2, 1) := by decide +kernel
theorem DM_X8_lays_23 : decode (mC M_X8_lays) 23 = .ok (.bipush 8, 2) := by decide +kernel
theorem DM_X8_lays_25 : decode (mC M_X8_lays) 25 = .ok (.iload_n 3, 1) := by decide +kernel
theorem DM_X8_lays_26 : decode (mC M_X8_lays) 26 = .ok (.iconst 1, 1) := by decide +kernel
theorem DM_X8_lays_27 : decode (mC M_X8_lays) 27 = .ok (.isub, 1) := by decide +kernel
theorem DM_X8_lays_28 : decode (mC M_X8_lays) 28 = .ok (.iload 5, 2) := by decide +kernel
theorem DM_X8_lays_30 : decode (mC M_X8_lays) 30 = .ok (.isub, 1) := by decide +kernel
theorem DM_X8_lays_31 : decode (mC M_X8_lays) 31 = .ok (.invokestatic 227, 3) := by decide +kernel
theorem DM_X8_lays_34 : decode (mC M_X8_lays) 34 = .ok (.idiv, 1) := by decide +kernel
theorem DM_X8_lays_35 : decode (mC M_X8_lays) 35 = .ok (.bipush 8, 2) := by decide +kernel
theorem DM_X8_lays_37 : decode (mC M_X8_lays) 37 = .ok (.irem, 1) := by decide +kernel
theorem DM_X8_lays_38 : decode (mC M_X8_lays) 38 = .ok (.istore 6, 2) := by decide +kernel
theorem DM_X8_lays_40 : decode (mC M_X8_lays) 40 = .ok (.aload_n 0, 1) := by decide +kernel
theorem DM_X8_lays_41 : decode (mC M_X8_lays) 41 = .ok (.getfield 31, 3) := by decide +kernel
theorem DM_X8_lays_44 : decode (mC M_X8_lays) 44 = .ok (.bipush 13, 2) := by decide +kernel
theorem DM_X8_lays_46 : decode (mC M_X8_lays) 46 = .ok (.bipush 13, 2) := by decide +kernel
theorem DM_X8_lays_48 : decode (mC M_X8_lays) 48 = .ok (.iload_n 1, 1) := by decide +kernel
theorem DM_X8_lays_49 : decode (mC M_X8_lays) 49 = .ok (.imul, 1) := by decide +kernel
theorem DM_X8_lays_50 : decode (mC M_X8_lays) 50 = .ok (.iadd, 1) := by decide +kernel
theorem DM_X8_lays_51 : decode (mC M_X8_lays) 51 = .ok (.iconst 4, 1) := by decide +kernel
theorem DM_X8_lays_52 : decode (mC M_X8_lays) 52 = .ok (.iadd, 1) := by decide +kernel
theorem DM_X8_lays_53 : decode (mC M_X8_lays) 53 = .ok (.iload 5, 2) := by decide +kernel
theorem DM_X8_lays_55 : decode (mC M_X8_lays) 55 = .ok (.iadd, 1) := by decide +kernel
theorem DM_X8_lays_56 : decode (mC M_X8_lays) 56 = .ok (.iload 6, 2) := by decide +kernel
theorem DM_X8_lays_58 : decode (mC M_X8_lays) 58 = .ok (.iastore, 1) := by decide +kernel
theorem DM_X8_lays_59 : decode (mC M_X8_lays) 59 = .ok (.iload 4, 2) := by decide +kernel
theorem DM_X8_lays_61 : decode (mC M_X8_lays) 61 = .ok (.iload 6, 2) := by decide +kernel
theorem DM_X8_lays_63 : decode (mC M_X8_lays) 63 = .ok (.aload_n 0, 1) := by decide +kernel
theorem DM_X8_lays_64 : decode (mC M_X8_lays) 64 = .ok (.getfield 25, 3) := by decide +kernel
theorem DM_X8_lays_67 : decode (mC M_X8_lays) 67 = .ok (.iload_n 1, 1) := by decide +kernel
theorem DM_X8_lays_68 : decode (mC M_X8_lays) 68 = .ok (.iconst 4, 1) := by decide +kernel
theorem DM_X8_lays_69 : decode (mC M_X8_lays) 69 = .ok (.iload 5, 2) := by decide +kernel
theorem DM_X8_lays_71 : decode (mC M_X8_lays) 71 = .ok (.iadd, 1) := by decide +kernel
theorem DM_X8_lays_72 : decode (mC M_X8_lays) 72 = .ok (.invokestatic 158, 3) := by decide +kernel
theorem DM_X8_lays_75 : decode (mC M_X8_lays) 75 = .ok (.if_icmp .ne 7, 3) := by decide +kernel
theorem DM_X8_lays_78 : decode (mC M_X8_lays) 78 = .ok (.iconst 0, 1) := by decide +kernel
theorem DM_X8_lays_79 : decode (mC M_X8_lays) 79 = .ok (.goto 4, 3) := by decide +kernel
theorem DM_X8_lays_82 : decode (mC M_X8_lays) 82 = .ok (.iconst 1, 1) := by decide +kernel
theorem DM_X8_lays_83 : decode (mC M_X8_lays) 83 = .ok (.iadd, 1) := by decide +kernel
theorem DM_X8_lays_84 : decode (mC M_X8_lays) 84 = .ok (.istore 4, 2) := by decide +kernel
theorem DM_X8_lays_86 : decode (mC M_X8_lays) 86 = .ok (.iinc 5 1, 3) := by decide +kernel
theorem DM_X8_lays_89 : decode (mC M_X8_lays) 89 = .ok (.goto (-73), 3) := by decide +kernel
theorem DM_X8_lays_92 : decode (mC M_X8_lays) 92 = .ok (.iload 4, 2) := by decide +kernel
theorem DM_X8_lays_94 : decode (mC M_X8_lays) 94 = .ok (.ireturn, 1) := by decide +kernel
theorem DM_X8_last_0 : decode (mC M_X8_last) 0 = .ok (.aload_n 0, 1) := by decide +kernel
theorem DM_X8_last_1 : decode (mC M_X8_last) 1 = .ok (.iload_n 1, 1) := by decide +kernel
theorem DM_X8_last_2 : decode (mC M_X8_last) 2 = .ok (.invokevirtual 210, 3) := by decide +kernel
theorem DM_X8_last_5 : decode (mC M_X8_last) 5 = .ok (.ifCond .eq 17, 3) := by decide +kernel
theorem DM_X8_last_8 : decode (mC M_X8_last) 8 = .ok (.iload_n 2, 1) := by decide +kernel
theorem DM_X8_last_9 : decode (mC M_X8_last) 9 = .ok (.iconst (-1), 1) := by decide +kernel
theorem DM_X8_last_10 : decode (mC M_X8_last) 10 = .ok (.if_icmp .eq 15, 3) := by decide +kernel
theorem DM_X8_last_13 : decode (mC M_X8_last) 13 = .ok (.aload_n 0, 1) := by decide +kernel
theorem DM_X8_last_14 : decode (mC M_X8_last) 14 = .ok (.iload_n 1, 1) := by decide +kernel
theorem DM_X8_last_15 : decode (mC M_X8_last) 15 = .ok (.iload_n 2, 1) := by decide +kernel
theorem DM_X8_last_16 : decode (mC M_X8_last) 16 = .ok (.invokevirtual 213, 3) := by decide +kernel
theorem DM_X8_last_19 : decode (mC M_X8_last) 19 = .ok (.ifCond .ne 6, 3) := by decide +kernel
theorem DM_X8_last_22 : decode (mC M_X8_last) 22 = .ok (.ldc 73, 2) := by decide +kernel
theorem DM_X8_last_24 : decode (mC M_X8_last) 24 = .ok (.ireturn, 1) := by decide +kernel
theorem DM_X8_last_25 : decode (mC M_X8_last) 25 = .ok (.aload_n 0, 1) := by decide +kernel
theorem DM_X8_last_26 : decode (mC M_X8_last) 26 = .ok (.getfield 25, 3) := by decide +kernel
theorem DM_X8_last_29 : decode (mC M_X8_last) 29 = .ok (.iload_n 1, 1) := by decide +kernel
theorem DM_X8_last_30 : decode (mC M_X8_last) 30 = .ok (.invokestatic 172, 3) := by decide +kernel
theorem DM_X8_last_33 : decode (mC M_X8_last) 33 = .ok (.ifCond .ne 6, 3) := by decide +kernel
theorem DM_X8_last_36 : decode (mC M_X8_last) 36 = .ok (.ldc 59, 2) := by decide +kernel
theorem DM_X8_last_38 : decode (mC M_X8_last) 38 = .ok (.ireturn, 1) := by decide +kernel
theorem DM_X8_last_39 : decode (mC M_X8_last) 39 = .ok (.aload_n 0, 1) := by decide +kernel
theorem DM_X8_last_40 : decode (mC M_X8_last) 40 = .ok (.getfield 25, 3) := by decide +kernel
theorem DM_X8_last_43 : decode (mC M_X8_last) 43 = .ok (.iconst 0, 1) := by decide +kernel
theorem DM_X8_last_44 : decode (mC M_X8_last) 44 = .ok (.aload_n 0, 1) := by decide +kernel
theorem DM_X8_last_45 : decode (mC M_X8_last) 45 = .ok (.getfield 31, 3) := by decide +kernel
theorem DM_X8_last_48 : decode (mC M_X8_last) 48 = .ok (.iconst 0, 1) := by decide +kernel
theorem DM_X8_last_49 : decode (mC M_X8_last) 49 = .ok (.invokestatic 151, 3) := by decide +kernel
theorem DM_X8_last_52 : decode (mC M_X8_last) 52 = .ok (.ldc 59, 2) := by decide +kernel
theorem DM_X8_last_54 : decode (mC M_X8_last) 54 = .ok (.istore_n 3, 1) := by decide +kernel
theorem DM_X8_last_55 : decode (mC M_X8_last) 55 = .ok (.iconst 5, 1) := by decide +kernel
theorem DM_X8_last_56 : decode (mC M_X8_last) 56 = .ok (.istore 4, 2) := by decide +kernel
theorem DM_X8_last_58 : decode (mC M_X8_last) 58 = .ok (.iconst 0, 1) := by decide +kernel
theorem DM_X8_last_59 : decode (mC M_X8_last) 59 = .ok (.istore 5, 2) := by decide +kernel
theorem DM_X8_last_61 : decode (mC M_X8_last) 61 = .ok (.iload 5, 2) := by decide +kernel
theorem DM_X8_last_63 : decode (mC M_X8_last) 63 = .ok (.bipush 8, 2) := by decide +kernel
theorem DM_X8_last_65 : decode (mC M_X8_last) 65 = .ok (.aload_n 0, 1) := by decide +kernel
theorem DM_X8_last_66 : decode (mC M_X8_last) 66 = .ok (.getfield 25, 3) := by decide +kernel
theorem DM_X8_last_69 : decode (mC M_X8_last) 69 = .ok (.iload_n 1, 1) := by decide +kernel
theorem DM_X8_last_70 : decode (mC M_X8_last) 70 = .ok (.iconst 3, 1) := by decide +kernel
theorem DM_X8_last_71 : decode (mC M_X8_last) 71 = .ok (.invokestatic 158, 3) := by decide +kernel
theorem DM_X8_last_74 : decode (mC M_X8_last) 74 = .ok (.invokestatic 227, 3) := by decide +kernel
theorem DM_X8_last_77 : decode (mC M_X8_last) 77 = .ok (.if_icmp .ge 44, 3) := by decide +kernel
theorem DM_X8_last_80 : decode (mC M_X8_last) 80 = .ok (.aload_n 0, 1) := by decide +kernel
theorem DM_X8_last_81 : decode (mC M_X8_last) 81 = .ok (.iload_n 1, 1) := by decide +kernel
theorem DM_X8_last_82 : decode (mC M_X8_last) 82 = .ok (.iload 5, 2) := by decide +kernel
theorem DM_X8_last_84 : decode (mC M_X8_last) 84 = .ok (.invokevirtual 230, 3) := by decide +kernel
theorem DM_X8_last_87 : decode (mC M_X8_last) 87 = .ok (.istore 6, 2) := by decide +kernel
theorem DM_X8_last_89 : decode (mC M_X8_last) 89 = .ok (.iload 6, 2) := by decide +kernel
theorem DM_X8_last_91 : decode (mC M_X8_last) 91 = .ok (.iload 4, 2) := by decide +kernel
theorem DM_X8_last_93 : decode (mC M_X8_last) 93 = .ok (.if_icmp .ge 22, 3) := by decide +kernel
theorem DM_X8_last_96 : decode (mC M_X8_last) 96 = .ok (.aload_n 0, 1) := by decide +kernel
theorem DM_X8_last_97 : decode (mC M_X8_last) 97 = .ok (.aload_n 0, 1) := by decide +kernel
theorem DM_X8_last_98 : decode (mC M_X8_last) 98 = .ok (.getfield 31, 3) := by decide +kernel
theorem DM_X8_last_101 : decode (mC M_X8_last) 101 = .ok (.iload_n 1, 1) := by decide +kernel
theorem DM_X8_last_102 : decode (mC M_X8_last) 102 = .ok (.invokevirtual 233, 3) := by decide +kernel
theorem DM_X8_last_105 : decode (mC M_X8_last) 105 = .ok (.ifCond .eq 10, 3) := by decide +kernel
theorem DM_X8_last_108 : decode (mC M_X8_last) 108 = .ok (.iload 5, 2) := by decide +kernel
theorem DM_X8_last_110 : decode (mC M_X8_last) 110 = .ok (.istore_n 3, 1) := by decide +kernel
theorem DM_X8_last_111 : decode (mC M_X8_last) 111 = .ok (.iload 6, 2) := by decide +kernel
theorem DM_X8_last_113 : decode (mC M_X8_last) 113 = .ok (.istore 4, 2) := by decide +kernel
theorem DM_X8_last_115 : decode (mC M_X8_last) 115 = .ok (.iinc 5 1, 3) := by decide +kernel
theorem DM_X8_last_118 : decode (mC M_X8_last) 118 = .ok (.goto (-57), 3) := by decide +kernel
theorem DM_X8_last_121 : decode (mC M_X8_last) 121 = .ok (.iload_n 3, 1) := by decide +kernel
theorem DM_X8_last_122 : decode (mC M_X8_last) 122 = .ok (.ldc 59, 2) := by decide +kernel
theorem DM_X8_last_124 : decode (mC M_X8_last) 124 = .ok (.if_icmp .ne 6, 3) := by decide +kernel
theorem DM_X8_last_127 : decode (mC M_X8_last) 127 = .ok (.ldc 59, 2) := by decide +kernel
theorem DM_X8_last_129 : decode (mC M_X8_last) 129 = .ok (.ireturn, 1) := by decide +kernel
theorem DM_X8_last_130 : decode (mC M_X8_last) 130 = .ok (.iload_n 2, 1) := by decide +kernel
theorem DM_X8_last_131 : decode (mC M_X8_last) 131 = .ok (.iconst (-1), 1) := by decide +kernel
theorem DM_X8_last_132 : decode (mC M_X8_last) 132 = .ok (.if_icmp .ne 8, 3) := by decide +kernel
theorem DM_X8_last_135 : decode (mC M_X8_last) 135 = .ok (.iload 4, 2) := by decide +kernel
theorem DM_X8_last_137 : decode (mC M_X8_last) 137 = .ok (.goto 26, 3) := by decide +kernel
theorem DM_X8_last_140 : decode (mC M_X8_last) 140 = .ok (.iload_n 3, 1) := by decide +kernel
theorem DM_X8_last_141 : decode (mC M_X8_last) 141 = .ok (.bipush 8, 2) := by decide +kernel
theorem DM_X8_last_143 : decode (mC M_X8_last) 143 = .ok (.aload_n 0, 1) := by decide +kernel
theorem DM_X8_last_144 : decode (mC M_X8_last) 144 = .ok (.getfield 25, 3) := by decide +kernel
theorem DM_X8_last_147 : decode (mC M_X8_last) 147 = .ok (.iload_n 1, 1) := by decide +kernel
theorem DM_X8_last_148 : decode (mC M_X8_last) 148 = .ok (.iconst 3, 1) := by decide +kernel
theorem DM_X8_last_149 : decode (mC M_X8_last) 149 = .ok (.invokestatic 158, 3) := by decide +kernel
theorem DM_X8_last_152 : decode (mC M_X8_last) 152 = .ok (.iconst 1, 1) := by decide +kernel
theorem DM_X8_last_153 : decode (mC M_X8_last) 153 = .ok (.isub, 1) := by decide +kernel
theorem DM_X8_last_154 : decode (mC M_X8_last) 154 = .ok (.iload_n 2, 1) := by decide +kernel
theorem DM_X8_last_155 : decode (mC M_X8_last) 155 = .ok (.isub, 1) := by decide +kernel
theorem DM_X8_last_156 : decode (mC M_X8_last) 156 = .ok (.invokestatic 227, 3) := by decide +kernel
theorem DM_X8_last_159 : decode (mC M_X8_last) 159 = .ok (.idiv, 1) := by decide +kernel
theorem DM_X8_last_160 : decode (mC M_X8_last) 160 = .ok (.bipush 8, 2) := by decide +kernel
theorem DM_X8_last_162 : decode (mC M_X8_last) 162 = .ok (.irem, 1) := by decide +kernel
theorem DM_X8_last_163 : decode (mC M_X8_last) 163 = .ok (.ireturn, 1) := by decide +kernel
theorem DM_X8_best_0 : decode (mC M_X8_best) 0 = .ok (.aload_n 0, 1) := by decide +kernel
theorem DM_X8_best_1 : decode (mC M_X8_best) 1 = .ok (.invokevirtual 200, 3) := by decide +kernel
theorem DM_X8_best_4 : decode (mC M_X8_best) 4 = .ok (.ifCond .ne 6, 3) := by decide +kernel
theorem DM_X8_best_7 : decode (mC M_X8_best) 7 = .ok (.ldc 203, 2) := by decide +kernel
theorem DM_X8_best_9 : decode (mC M_X8_best) 9 = .ok (.ireturn, 1) := by decide +kernel
theorem DM_X8_best_10 : decode (mC M_X8_best) 10 = .ok (.iload_n 1, 1) := by decide +kernel
theorem DM_X8_best_11 : decode (mC M_X8_best) 11 = .ok (.iconst 0, 1) := by decide +kernel
theorem DM_X8_best_12 : decode (mC M_X8_best) 12 = .ok (.iconst 1, 1) := by decide +kernel
theorem DM_X8_best_13 : decode (mC M_X8_best) 13 = .ok (.invokestatic 65, 3) := by decide +kernel
theorem DM_X8_best_16 : decode (mC M_X8_best) 16 = .ok (.ifCond .ne 6, 3) := by decide +kernel
theorem DM_X8_best_19 : decode (mC M_X8_best) 19 = .ok (.ldc 73, 2) := by decide +kernel
theorem DM_X8_best_21 : decode (mC M_X8_best) 21 = .ok (.ireturn, 1) := by decide +kernel
theorem DM_X8_best_22 : decode (mC M_X8_best) 22 = .ok (.iconst 0, 1) := by decide +kernel
theorem DM_X8_best_23 : decode (mC M_X8_best) 23 = .ok (.istore_n 2, 1) := by decide +kernel
theorem DM_X8_best_24 : decode (mC M_X8_best) 24 = .ok (.iconst 0, 1) := by decide +kernel
theorem DM_X8_best_25 : decode (mC M_X8_best) 25 = .ok (.istore_n 3, 1) := by decide +kernel
theorem DM_X8_best_26 : decode (mC M_X8_best) 26 = .ok (.iconst 0, 1) := by decide +kernel
theorem DM_X8_best_27 : decode (mC M_X8_best) 27 = .ok (.istore 4, 2) := by decide +kernel
theorem DM_X8_best_29 : decode (mC M_X8_best) 29 = .ok (.iload 4, 2) := by decide +kernel
theorem DM_X8_best_31 : decode (mC M_X8_best) 31 = .ok (.bipush 8, 2) := by decide +kernel
theorem DM_X8_best_33 : decode (mC M_X8_best) 33 = .ok (.if_icmp .ge 57, 3) := by decide +kernel
theorem DM_X8_best_36 : decode (mC M_X8_best) 36 = .ok (.aload_n 0, 1) := by decide +kernel
theorem DM_X8_best_37 : decode (mC M_X8_best) 37 = .ok (.iload 4, 2) := by decide +kernel
theorem DM_X8_best_39 : decode (mC M_X8_best) 39 = .ok (.invokevirtual 219, 3) := by decide +kernel
theorem DM_X8_best_42 : decode (mC M_X8_best) 42 = .ok (.aload_n 0, 1) := by decide +kernel
theorem DM_X8_best_43 : decode (mC M_X8_best) 43 = .ok (.invokevirtual 223, 3) := by decide +kernel
theorem DM_X8_best_46 : decode (mC M_X8_best) 46 = .ok (.istore 5, 2) := by decide +kernel
theorem DM_X8_best_48 : decode (mC M_X8_best) 48 = .ok (.iload 4, 2) := by decide +kernel
theorem DM_X8_best_50 : decode (mC M_X8_best) 50 = .ok (.ifCond .eq 9, 3) := by decide +kernel
theorem DM_X8_best_53 : decode (mC M_X8_best) 53 = .ok (.iload 5, 2) := by decide +kernel
theorem DM_X8_best_55 : decode (mC M_X8_best) 55 = .ok (.iload_n 3, 1) := by decide +kernel
theorem DM_X8_best_56 : decode (mC M_X8_best) 56 = .ok (.if_icmp .ge 8, 3) := by decide +kernel
theorem DM_X8_best_59 : decode (mC M_X8_best) 59 = .ok (.iload 4, 2) := by decide +kernel
theorem DM_X8_best_61 : decode (mC M_X8_best) 61 = .ok (.goto 4, 3) := by decide +kernel
theorem DM_X8_best_64 : decode (mC M_X8_best) 64 = .ok (.iload_n 2, 1) := by decide +kernel
theorem DM_X8_best_65 : decode (mC M_X8_best) 65 = .ok (.istore_n 2, 1) := by decide +kernel
theorem DM_X8_best_66 : decode (mC M_X8_best) 66 = .ok (.iload 4, 2) := by decide +kernel
theorem DM_X8_best_68 : decode (mC M_X8_best) 68 = .ok (.ifCond .eq 9, 3) := by decide +kernel
theorem DM_X8_best_71 : decode (mC M_X8_best) 71 = .ok (.iload 5, 2) := by decide +kernel
theorem DM_X8_best_73 : decode (mC M_X8_best) 73 = .ok (.iload_n 3, 1) := by decide +kernel
theorem DM_X8_best_74 : decode (mC M_X8_best) 74 = .ok (.if_icmp .ge 8, 3) := by decide +kernel
theorem DM_X8_best_77 : decode (mC M_X8_best) 77 = .ok (.iload 5, 2) := by decide +kernel
theorem DM_X8_best_79 : decode (mC M_X8_best) 79 = .ok (.goto 4, 3) := by decide +kernel
theorem DM_X8_best_82 : decode (mC M_X8_best) 82 = .ok (.iload_n 3, 1) := by decide +kernel
theorem DM_X8_best_83 : decode (mC M_X8_best) 83 = .ok (.istore_n 3, 1) := by decide +kernel
theorem DM_X8_best_84 : decode (mC M_X8_best) 84 = .ok (.iinc 4 1, 3) := by decide +kernel
theorem DM_X8_best_87 : decode (mC M_X8_best) 87 = .ok (.goto (-58), 3) := by decide +kernel
theorem DM_X8_best_90 : decode (mC M_X8_best) 90 = .ok (.iload_n 1, 1) := by decide +kernel
theorem DM_X8_best_91 : decode (mC M_X8_best) 91 = .ok (.ifCond .ne 7, 3) := by decide +kernel
theorem DM_X8_best_94 : decode (mC M_X8_best) 94 = .ok (.iload_n 2, 1) := by decide +kernel
theorem DM_X8_best_95 : decode (mC M_X8_best) 95 = .ok (.goto 4, 3) := by decide +kernel
theorem DM_X8_best_98 : decode (mC M_X8_best) 98 = .ok (.iload_n 3, 1) := by decide +kernel
theorem DM_X8_best_99 : decode (mC M_X8_best) 99 = .ok (.ireturn, 1) := by decide +kernel
theorem DM_X8_lines_0 : decode (mC M_X8_lines) 0 = .ok (.iconst 0, 1) := by decide +kernel
theorem DM_X8_lines_1 : decode (mC M_X8_lines) 1 = .ok (.istore_n 3, 1) := by decide +kernel
theorem DM_X8_lines_2 : decode (mC M_X8_lines) 2 = .ok (.iload_n 1, 1) := by decide +kernel
theorem DM_X8_lines_3 : decode (mC M_X8_lines) 3 = .ok (.istore 4, 2) := by decide +kernel
theorem DM_X8_lines_5 : decode (mC M_X8_lines) 5 = .ok (.iload_n 2, 1) := by decide +kernel
theorem DM_X8_lines_6 : decode (mC M_X8_lines) 6 = .ok (.iconst 1, 1) := by decide +kernel
theorem DM_X8_lines_7 : decode (mC M_X8_lines) 7 = .ok (.isub, 1) := by decide +kernel
theorem DM_X8_lines_8 : decode (mC M_X8_lines) 8 = .ok (.istore 5, 2) := by decide +kernel
theorem DM_X8_lines_10 : decode (mC M_X8_lines) 10 = .ok (.iload 5, 2) := by decide +kernel
theorem DM_X8_lines_12 : decode (mC M_X8_lines) 12 = .ok (.ifCond .lt 40, 3) := by decide +kernel
theorem DM_X8_lines_15 : decode (mC M_X8_lines) 15 = .ok (.aload_n 0, 1) := by decide +kernel
theorem DM_X8_lines_16 : decode (mC M_X8_lines) 16 = .ok (.getfield 53, 3) := by decide +kernel
theorem DM_X8_lines_19 : decode (mC M_X8_lines) 19 = .ok (.iload 5, 2) := by decide +kernel
theorem DM_X8_lines_21 : decode (mC M_X8_lines) 21 = .ok (.aload_n 0, 1) := by decide +kernel
theorem DM_X8_lines_22 : decode (mC M_X8_lines) 22 = .ok (.getfield 50, 3) := by decide +kernel
theorem DM_X8_lines_25 : decode (mC M_X8_lines) 25 = .ok (.iload 4, 2) := by decide +kernel
theorem DM_X8_lines_27 : decode (mC M_X8_lines) 27 = .ok (.iload_n 2, 1) := by decide +kernel
theorem DM_X8_lines_28 : decode (mC M_X8_lines) 28 = .ok (.irem, 1) := by decide +kernel
theorem DM_X8_lines_29 : decode (mC M_X8_lines) 29 = .ok (.iaload, 1) := by decide +kernel
theorem DM_X8_lines_30 : decode (mC M_X8_lines) 30 = .ok (.iastore, 1) := by decide +kernel
theorem DM_X8_lines_31 : decode (mC M_X8_lines) 31 = .ok (.iload_n 3, 1) := by decide +kernel
theorem DM_X8_lines_32 : decode (mC M_X8_lines) 32 = .ok (.iconst 1, 1) := by decide +kernel
theorem DM_X8_lines_33 : decode (mC M_X8_lines) 33 = .ok (.iload 4, 2) := by decide +kernel
theorem DM_X8_lines_35 : decode (mC M_X8_lines) 35 = .ok (.iload_n 2, 1) := by decide +kernel
theorem DM_X8_lines_36 : decode (mC M_X8_lines) 36 = .ok (.irem, 1) := by decide +kernel
theorem DM_X8_lines_37 : decode (mC M_X8_lines) 37 = .ok (.ishl, 1) := by decide +kernel
theorem DM_X8_lines_38 : decode (mC M_X8_lines) 38 = .ok (.ior, 1) := by decide +kernel
theorem DM_X8_lines_39 : decode (mC M_X8_lines) 39 = .ok (.istore_n 3, 1) := by decide +kernel
theorem DM_X8_lines_40 : decode (mC M_X8_lines) 40 = .ok (.iload 4, 2) := by decide +kernel
theorem DM_X8_lines_42 : decode (mC M_X8_lines) 42 = .ok (.iload_n 2, 1) := by decide +kernel
theorem DM_X8_lines_43 : decode (mC M_X8_lines) 43 = .ok (.idiv, 1) := by decide +kernel
theorem DM_X8_lines_44 : decode (mC M_X8_lines) 44 = .ok (.istore 4, 2) := by decide +kernel
theorem DM_X8_lines_46 : decode (mC M_X8_lines) 46 = .ok (.iinc 5 (-1), 3) := by decide +kernel
theorem DM_X8_lines_49 : decode (mC M_X8_lines) 49 = .ok (.goto (-39), 3) := by decide +kernel
theorem DM_X8_lines_52 : decode (mC M_X8_lines) 52 = .ok (.iload_n 3, 1) := by decide +kernel
theorem DM_X8_lines_53 : decode (mC M_X8_lines) 53 = .ok (.iconst 1, 1) := by decide +kernel
theorem DM_X8_lines_54 : decode (mC M_X8_lines) 54 = .ok (.iload_n 2, 1) := by decide +kernel
theorem DM_X8_lines_55 : decode (mC M_X8_lines) 55 = .ok (.ishl, 1) := by decide +kernel
theorem DM_X8_lines_56 : decode (mC M_X8_lines) 56 = .ok (.iconst 1, 1) := by decide +kernel
theorem DM_X8_lines_57 : decode (mC M_X8_lines) 57 = .ok (.isub, 1) := by decide +kernel
theorem DM_X8_lines_58 : decode (mC M_X8_lines) 58 = .ok (.if_icmp .ne 7, 3) := by decide +kernel
theorem DM_X8_lines_61 : decode (mC M_X8_lines) 61 = .ok (.iconst 1, 1) := by decide +kernel
theorem DM_X8_lines_62 : decode (mC M_X8_lines) 62 = .ok (.goto 4, 3) := by decide +kernel
theorem DM_X8_lines_65 : decode (mC M_X8_lines) 65 = .ok (.iconst 0, 1) := by decide +kernel
theorem DM_X8_lines_66 : decode (mC M_X8_lines) 66 = .ok (.ireturn, 1) := by decide +kernel
theorem DM_X8_waitedByLine_0 : decode (mC M_X8_waitedByLine) 0 = .ok (.aload_n 0, 1) := by decide +kernel
theorem DM_X8_waitedByLine_1 : decode (mC M_X8_waitedByLine) 1 = .ok (.getfield 25, 3) := by decide +kernel
theorem DM_X8_waitedByLine_4 : decode (mC M_X8_waitedByLine) 4 = .ok (.iconst 0, 1) := by decide +kernel
theorem DM_X8_waitedByLine_5 : decode (mC M_X8_waitedByLine) 5 = .ok (.aload_n 0, 1) := by decide +kernel
theorem DM_X8_waitedByLine_6 : decode (mC M_X8_waitedByLine) 6 = .ok (.getfield 31, 3) := by decide +kernel
theorem DM_X8_waitedByLine_9 : decode (mC M_X8_waitedByLine) 9 = .ok (.iconst 0, 1) := by decide +kernel
theorem DM_X8_waitedByLine_10 : decode (mC M_X8_waitedByLine) 10 = .ok (.invokestatic 151, 3) := by decide +kernel
theorem DM_X8_waitedByLine_13 : decode (mC M_X8_waitedByLine) 13 = .ok (.iconst 0, 1) := by decide +kernel
theorem DM_X8_waitedByLine_14 : decode (mC M_X8_waitedByLine) 14 = .ok (.istore_n 2, 1) := by decide +kernel
theorem DM_X8_waitedByLine_15 : decode (mC M_X8_waitedByLine) 15 = .ok (.iconst 0, 1) := by decide +kernel
theorem DM_X8_waitedByLine_16 : decode (mC M_X8_waitedByLine) 16 = .ok (.istore_n 3, 1) := by decide +kernel
theorem DM_X8_waitedByLine_17 : decode (mC M_X8_waitedByLine) 17 = .ok (.iload_n 3, 1) := by decide +kernel
theorem DM_X8_waitedByLine_18 : decode (mC M_X8_waitedByLine) 18 = .ok (.sipush 300, 3) := by decide +kernel
theorem DM_X8_waitedByLine_21 : decode (mC M_X8_waitedByLine) 21 = .ok (.if_icmp .ge 89, 3) := by decide +kernel
theorem DM_X8_waitedByLine_24 : decode (mC M_X8_waitedByLine) 24 = .ok (.aload_n 0, 1) := by decide +kernel
theorem DM_X8_waitedByLine_25 : decode (mC M_X8_waitedByLine) 25 = .ok (.getfield 31, 3) := by decide +kernel
theorem DM_X8_waitedByLine_28 : decode (mC M_X8_waitedByLine) 28 = .ok (.invokestatic 183, 3) := by decide +kernel
theorem DM_X8_waitedByLine_31 : decode (mC M_X8_waitedByLine) 31 = .ok (.iload_n 2, 1) := by decide +kernel
theorem DM_X8_waitedByLine_32 : decode (mC M_X8_waitedByLine) 32 = .ok (.iload_n 1, 1) := by decide +kernel
theorem DM_X8_waitedByLine_33 : decode (mC M_X8_waitedByLine) 33 = .ok (.if_icmp .ge 71, 3) := by decide +kernel
theorem DM_X8_waitedByLine_36 : decode (mC M_X8_waitedByLine) 36 = .ok (.aload_n 0, 1) := by decide +kernel
theorem DM_X8_waitedByLine_37 : decode (mC M_X8_waitedByLine) 37 = .ok (.getfield 31, 3) := by decide +kernel
theorem DM_X8_waitedByLine_40 : decode (mC M_X8_waitedByLine) 40 = .ok (.aload_n 0, 1) := by decide +kernel
theorem DM_X8_waitedByLine_41 : decode (mC M_X8_waitedByLine) 41 = .ok (.getfield 53, 3) := by decide +kernel
theorem DM_X8_waitedByLine_44 : decode (mC M_X8_waitedByLine) 44 = .ok (.iload_n 2, 1) := by decide +kernel
theorem DM_X8_waitedByLine_45 : decode (mC M_X8_waitedByLine) 45 = .ok (.iaload, 1) := by decide +kernel
theorem DM_X8_waitedByLine_46 : decode (mC M_X8_waitedByLine) 46 = .ok (.invokestatic 172, 3) := by decide +kernel
theorem DM_X8_waitedByLine_49 : decode (mC M_X8_waitedByLine) 49 = .ok (.ifCond .eq 20, 3) := by decide +kernel
theorem DM_X8_waitedByLine_52 : decode (mC M_X8_waitedByLine) 52 = .ok (.aload_n 0, 1) := by decide +kernel
theorem DM_X8_waitedByLine_53 : decode (mC M_X8_waitedByLine) 53 = .ok (.getfield 31, 3) := by decide +kernel
theorem DM_X8_waitedByLine_56 : decode (mC M_X8_waitedByLine) 56 = .ok (.iconst 1, 1) := by decide +kernel
theorem DM_X8_waitedByLine_57 : decode (mC M_X8_waitedByLine) 57 = .ok (.invokestatic 193, 3) := by decide +kernel
theorem DM_X8_waitedByLine_60 : decode (mC M_X8_waitedByLine) 60 = .ok (.aload_n 0, 1) := by decide +kernel
theorem DM_X8_waitedByLine_61 : decode (mC M_X8_waitedByLine) 61 = .ok (.getfield 31, 3) := by decide +kernel
theorem DM_X8_waitedByLine_64 : decode (mC M_X8_waitedByLine) 64 = .ok (.iconst 0, 1) := by decide +kernel
theorem DM_X8_waitedByLine_65 : decode (mC M_X8_waitedByLine) 65 = .ok (.iaload, 1) := by decide +kernel
theorem DM_X8_waitedByLine_66 : decode (mC M_X8_waitedByLine) 66 = .ok (.if_icmp .ge 38, 3) := by decide +kernel
theorem DM_X8_waitedByLine_69 : decode (mC M_X8_waitedByLine) 69 = .ok (.aload_n 0, 1) := by decide +kernel
theorem DM_X8_waitedByLine_70 : decode (mC M_X8_waitedByLine) 70 = .ok (.getfield 31, 3) := by decide +kernel
theorem DM_X8_waitedByLine_73 : decode (mC M_X8_waitedByLine) 73 = .ok (.aload_n 0, 1) := by decide +kernel
theorem DM_X8_waitedByLine_74 : decode (mC M_X8_waitedByLine) 74 = .ok (.getfield 53, 3) := by decide +kernel
theorem DM_X8_waitedByLine_77 : decode (mC M_X8_waitedByLine) 77 = .ok (.iload_n 2, 1) := by decide +kernel
theorem DM_X8_waitedByLine_78 : decode (mC M_X8_waitedByLine) 78 = .ok (.iaload, 1) := by decide +kernel
theorem DM_X8_waitedByLine_79 : decode (mC M_X8_waitedByLine) 79 = .ok (.invokestatic 172, 3) := by decide +kernel
theorem DM_X8_waitedByLine_82 : decode (mC M_X8_waitedByLine) 82 = .ok (.ifCond .eq 16, 3) := by decide +kernel
theorem DM_X8_waitedByLine_85 : decode (mC M_X8_waitedByLine) 85 = .ok (.aload_n 0, 1) := by decide +kernel
theorem DM_X8_waitedByLine_86 : decode (mC M_X8_waitedByLine) 86 = .ok (.getfield 31, 3) := by decide +kernel
theorem DM_X8_waitedByLine_89 : decode (mC M_X8_waitedByLine) 89 = .ok (.aload_n 0, 1) := by decide +kernel
theorem DM_X8_waitedByLine_90 : decode (mC M_X8_waitedByLine) 90 = .ok (.getfield 53, 3) := by decide +kernel
theorem DM_X8_waitedByLine_93 : decode (mC M_X8_waitedByLine) 93 = .ok (.iload_n 2, 1) := by decide +kernel
theorem DM_X8_waitedByLine_94 : decode (mC M_X8_waitedByLine) 94 = .ok (.iaload, 1) := by decide +kernel
theorem DM_X8_waitedByLine_95 : decode (mC M_X8_waitedByLine) 95 = .ok (.invokestatic 196, 3) := by decide +kernel
theorem DM_X8_waitedByLine_98 : decode (mC M_X8_waitedByLine) 98 = .ok (.iinc 2 1, 3) := by decide +kernel
theorem DM_X8_waitedByLine_101 : decode (mC M_X8_waitedByLine) 101 = .ok (.goto (-70), 3) := by decide +kernel
theorem DM_X8_waitedByLine_104 : decode (mC M_X8_waitedByLine) 104 = .ok (.iinc 3 1, 3) := by decide +kernel
theorem DM_X8_waitedByLine_107 : decode (mC M_X8_waitedByLine) 107 = .ok (.goto (-90), 3) := by decide +kernel
theorem DM_X8_waitedByLine_110 : decode (mC M_X8_waitedByLine) 110 = .ok (.aload_n 0, 1) := by decide +kernel
theorem DM_X8_waitedByLine_111 : decode (mC M_X8_waitedByLine) 111 = .ok (.invokevirtual 223, 3) := by decide +kernel
theorem DM_X8_waitedByLine_114 : decode (mC M_X8_waitedByLine) 114 = .ok (.ireturn, 1) := by decide +kernel
theorem DM_X8_warden_0 : decode (mC M_X8_warden) 0 = .ok (.aload_n 0, 1) := by decide +kernel
theorem DM_X8_warden_1 : decode (mC M_X8_warden) 1 = .ok (.invokevirtual 200, 3) := by decide +kernel
theorem DM_X8_warden_4 : decode (mC M_X8_warden) 4 = .ok (.ifCond .ne 6, 3) := by decide +kernel
theorem DM_X8_warden_7 : decode (mC M_X8_warden) 7 = .ok (.ldc 203, 2) := by decide +kernel
theorem DM_X8_warden_9 : decode (mC M_X8_warden) 9 = .ok (.ireturn, 1) := by decide +kernel
theorem DM_X8_warden_10 : decode (mC M_X8_warden) 10 = .ok (.iload_n 1, 1) := by decide +kernel
theorem DM_X8_warden_11 : decode (mC M_X8_warden) 11 = .ok (.bipush (-2), 2) := by decide +kernel
theorem DM_X8_warden_13 : decode (mC M_X8_warden) 13 = .ok (.iconst 5, 1) := by decide +kernel
theorem DM_X8_warden_14 : decode (mC M_X8_warden) 14 = .ok (.invokestatic 65, 3) := by decide +kernel
theorem DM_X8_warden_17 : decode (mC M_X8_warden) 17 = .ok (.ifCond .ne 6, 3) := by decide +kernel
theorem DM_X8_warden_20 : decode (mC M_X8_warden) 20 = .ok (.ldc 73, 2) := by decide +kernel
theorem DM_X8_warden_22 : decode (mC M_X8_warden) 22 = .ok (.ireturn, 1) := by decide +kernel
theorem DM_X8_warden_23 : decode (mC M_X8_warden) 23 = .ok (.iconst 0, 1) := by decide +kernel
theorem DM_X8_warden_24 : decode (mC M_X8_warden) 24 = .ok (.istore_n 2, 1) := by decide +kernel
theorem DM_X8_warden_25 : decode (mC M_X8_warden) 25 = .ok (.iconst 0, 1) := by decide +kernel
theorem DM_X8_warden_26 : decode (mC M_X8_warden) 26 = .ok (.istore_n 3, 1) := by decide +kernel
theorem DM_X8_warden_27 : decode (mC M_X8_warden) 27 = .ok (.iload_n 3, 1) := by decide +kernel
theorem DM_X8_warden_28 : decode (mC M_X8_warden) 28 = .ok (.aload_n 0, 1) := by decide +kernel
theorem DM_X8_warden_29 : decode (mC M_X8_warden) 29 = .ok (.getfield 25, 3) := by decide +kernel
theorem DM_X8_warden_32 : decode (mC M_X8_warden) 32 = .ok (.iconst 2, 1) := by decide +kernel
theorem DM_X8_warden_33 : decode (mC M_X8_warden) 33 = .ok (.iaload, 1) := by decide +kernel
theorem DM_X8_warden_34 : decode (mC M_X8_warden) 34 = .ok (.if_icmp .ge 30, 3) := by decide +kernel
theorem DM_X8_warden_37 : decode (mC M_X8_warden) 37 = .ok (.aload_n 0, 1) := by decide +kernel
theorem DM_X8_warden_38 : decode (mC M_X8_warden) 38 = .ok (.getfield 25, 3) := by decide +kernel
theorem DM_X8_warden_41 : decode (mC M_X8_warden) 41 = .ok (.iload_n 3, 1) := by decide +kernel
theorem DM_X8_warden_42 : decode (mC M_X8_warden) 42 = .ok (.invokestatic 172, 3) := by decide +kernel
theorem DM_X8_warden_45 : decode (mC M_X8_warden) 45 = .ok (.ifCond .eq 13, 3) := by decide +kernel
theorem DM_X8_warden_48 : decode (mC M_X8_warden) 48 = .ok (.aload_n 0, 1) := by decide +kernel
theorem DM_X8_warden_49 : decode (mC M_X8_warden) 49 = .ok (.getfield 50, 3) := by decide +kernel
theorem DM_X8_warden_52 : decode (mC M_X8_warden) 52 = .ok (.iload_n 2, 1) := by decide +kernel
theorem DM_X8_warden_53 : decode (mC M_X8_warden) 53 = .ok (.iload_n 3, 1) := by decide +kernel
theorem DM_X8_warden_54 : decode (mC M_X8_warden) 54 = .ok (.iastore, 1) := by decide +kernel
theorem DM_X8_warden_55 : decode (mC M_X8_warden) 55 = .ok (.iinc 2 1, 3) := by decide +kernel
theorem DM_X8_warden_58 : decode (mC M_X8_warden) 58 = .ok (.iinc 3 1, 3) := by decide +kernel
theorem DM_X8_warden_61 : decode (mC M_X8_warden) 61 = .ok (.goto (-34), 3) := by decide +kernel
theorem DM_X8_warden_64 : decode (mC M_X8_warden) 64 = .ok (.ldc 59, 2) := by decide +kernel
theorem DM_X8_warden_66 : decode (mC M_X8_warden) 66 = .ok (.istore_n 3, 1) := by decide +kernel
theorem DM_X8_warden_67 : decode (mC M_X8_warden) 67 = .ok (.iconst 0, 1) := by decide +kernel
theorem DM_X8_warden_68 : decode (mC M_X8_warden) 68 = .ok (.istore 4, 2) := by decide +kernel
theorem DM_X8_warden_70 : decode (mC M_X8_warden) 70 = .ok (.iload 4, 2) := by decide +kernel
theorem DM_X8_warden_72 : decode (mC M_X8_warden) 72 = .ok (.iload_n 2, 1) := by decide +kernel
theorem DM_X8_warden_73 : decode (mC M_X8_warden) 73 = .ok (.iload_n 2, 1) := by decide +kernel
theorem DM_X8_warden_74 : decode (mC M_X8_warden) 74 = .ok (.invokestatic 227, 3) := by decide +kernel
theorem DM_X8_warden_77 : decode (mC M_X8_warden) 77 = .ok (.if_icmp .ge 91, 3) := by decide +kernel
theorem DM_X8_warden_80 : decode (mC M_X8_warden) 80 = .ok (.aload_n 0, 1) := by decide +kernel
theorem DM_X8_warden_81 : decode (mC M_X8_warden) 81 = .ok (.iload 4, 2) := by decide +kernel
theorem DM_X8_warden_83 : decode (mC M_X8_warden) 83 = .ok (.iload_n 2, 1) := by decide +kernel
theorem DM_X8_warden_84 : decode (mC M_X8_warden) 84 = .ok (.invokevirtual 236, 3) := by decide +kernel
theorem DM_X8_warden_87 : decode (mC M_X8_warden) 87 = .ok (.ifCond .eq 75, 3) := by decide +kernel
theorem DM_X8_warden_90 : decode (mC M_X8_warden) 90 = .ok (.aload_n 0, 1) := by decide +kernel
theorem DM_X8_warden_91 : decode (mC M_X8_warden) 91 = .ok (.iload_n 2, 1) := by decide +kernel
theorem DM_X8_warden_92 : decode (mC M_X8_warden) 92 = .ok (.invokevirtual 239, 3) := by decide +kernel
theorem DM_X8_warden_95 : decode (mC M_X8_warden) 95 = .ok (.istore 5, 2) := by decide +kernel
theorem DM_X8_warden_97 : decode (mC M_X8_warden) 97 = .ok (.iload_n 3, 1) := by decide +kernel
theorem DM_X8_warden_98 : decode (mC M_X8_warden) 98 = .ok (.ldc 59, 2) := by decide +kernel
theorem DM_X8_warden_100 : decode (mC M_X8_warden) 100 = .ok (.if_icmp .eq 9, 3) := by decide +kernel
theorem DM_X8_warden_103 : decode (mC M_X8_warden) 103 = .ok (.iload 5, 2) := by decide +kernel
theorem DM_X8_warden_105 : decode (mC M_X8_warden) 105 = .ok (.iload_n 3, 1) := by decide +kernel
theorem DM_X8_warden_106 : decode (mC M_X8_warden) 106 = .ok (.if_icmp .ge 7, 3) := by decide +kernel
theorem DM_X8_warden_109 : decode (mC M_X8_warden) 109 = .ok (.iconst 1, 1) := by decide +kernel
theorem DM_X8_warden_110 : decode (mC M_X8_warden) 110 = .ok (.goto 4, 3) := by decide +kernel
theorem DM_X8_warden_113 : decode (mC M_X8_warden) 113 = .ok (.iconst 0, 1) := by decide +kernel
theorem DM_X8_warden_114 : decode (mC M_X8_warden) 114 = .ok (.istore 6, 2) := by decide +kernel
theorem DM_X8_warden_116 : decode (mC M_X8_warden) 116 = .ok (.iconst 0, 1) := by decide +kernel
theorem DM_X8_warden_117 : decode (mC M_X8_warden) 117 = .ok (.istore 7, 2) := by decide +kernel
theorem DM_X8_warden_119 : decode (mC M_X8_warden) 119 = .ok (.iload 7, 2) := by decide +kernel
theorem DM_X8_warden_121 : decode (mC M_X8_warden) 121 = .ok (.iload_n 2, 1) := by decide +kernel
theorem DM_X8_warden_122 : decode (mC M_X8_warden) 122 = .ok (.if_icmp .ge 28, 3) := by decide +kernel
theorem DM_X8_warden_125 : decode (mC M_X8_warden) 125 = .ok (.iload 6, 2) := by decide +kernel
theorem DM_X8_warden_127 : decode (mC M_X8_warden) 127 = .ok (.ifCond .eq 23, 3) := by decide +kernel
theorem DM_X8_warden_130 : decode (mC M_X8_warden) 130 = .ok (.aload_n 0, 1) := by decide +kernel
theorem DM_X8_warden_131 : decode (mC M_X8_warden) 131 = .ok (.getfield 56, 3) := by decide +kernel
theorem DM_X8_warden_134 : decode (mC M_X8_warden) 134 = .ok (.iload 7, 2) := by decide +kernel
theorem DM_X8_warden_136 : decode (mC M_X8_warden) 136 = .ok (.aload_n 0, 1) := by decide +kernel
theorem DM_X8_warden_137 : decode (mC M_X8_warden) 137 = .ok (.getfield 53, 3) := by decide +kernel
theorem DM_X8_warden_140 : decode (mC M_X8_warden) 140 = .ok (.iload 7, 2) := by decide +kernel
theorem DM_X8_warden_142 : decode (mC M_X8_warden) 142 = .ok (.iaload, 1) := by decide +kernel
theorem DM_X8_warden_143 : decode (mC M_X8_warden) 143 = .ok (.iastore, 1) := by decide +kernel
theorem DM_X8_warden_144 : decode (mC M_X8_warden) 144 = .ok (.iinc 7 1, 3) := by decide +kernel
theorem DM_X8_warden_147 : decode (mC M_X8_warden) 147 = .ok (.goto (-28), 3) := by decide +kernel
theorem DM_X8_warden_150 : decode (mC M_X8_warden) 150 = .ok (.iload 6, 2) := by decide +kernel
theorem DM_X8_warden_152 : decode (mC M_X8_warden) 152 = .ok (.ifCond .eq 8, 3) := by decide +kernel
theorem DM_X8_warden_155 : decode (mC M_X8_warden) 155 = .ok (.iload 5, 2) := by decide +kernel
theorem DM_X8_warden_157 : decode (mC M_X8_warden) 157 = .ok (.goto 4, 3) := by decide +kernel
theorem DM_X8_warden_160 : decode (mC M_X8_warden) 160 = .ok (.iload_n 3, 1) := by decide +kernel
theorem DM_X8_warden_161 : decode (mC M_X8_warden) 161 = .ok (.istore_n 3, 1) := by decide +kernel
theorem DM_X8_warden_162 : decode (mC M_X8_warden) 162 = .ok (.iinc 4 1, 3) := by decide +kernel
theorem DM_X8_warden_165 : decode (mC M_X8_warden) 165 = .ok (.goto (-95), 3) := by decide +kernel
theorem DM_X8_warden_168 : decode (mC M_X8_warden) 168 = .ok (.iload_n 1, 1) := by decide +kernel
theorem DM_X8_warden_169 : decode (mC M_X8_warden) 169 = .ok (.ifCond .lt 22, 3) := by decide +kernel
theorem DM_X8_warden_172 : decode (mC M_X8_warden) 172 = .ok (.iload_n 1, 1) := by decide +kernel
theorem DM_X8_warden_173 : decode (mC M_X8_warden) 173 = .ok (.iload_n 2, 1) := by decide +kernel
theorem DM_X8_warden_174 : decode (mC M_X8_warden) 174 = .ok (.if_icmp .ge 12, 3) := by decide +kernel
theorem DM_X8_warden_177 : decode (mC M_X8_warden) 177 = .ok (.aload_n 0, 1) := by decide +kernel
theorem DM_X8_warden_178 : decode (mC M_X8_warden) 178 = .ok (.getfield 56, 3) := by decide +kernel
theorem DM_X8_warden_181 : decode (mC M_X8_warden) 181 = .ok (.iload_n 1, 1) := by decide +kernel
theorem DM_X8_warden_182 : decode (mC M_X8_warden) 182 = .ok (.iaload, 1) := by decide +kernel
theorem DM_X8_warden_183 : decode (mC M_X8_warden) 183 = .ok (.goto 23, 3) := by decide +kernel
theorem DM_X8_warden_186 : decode (mC M_X8_warden) 186 = .ok (.ldc 59, 2) := by decide +kernel
theorem DM_X8_warden_188 : decode (mC M_X8_warden) 188 = .ok (.goto 18, 3) := by decide +kernel
theorem DM_X8_warden_191 : decode (mC M_X8_warden) 191 = .ok (.iload_n 1, 1) := by decide +kernel
theorem DM_X8_warden_192 : decode (mC M_X8_warden) 192 = .ok (.iconst (-1), 1) := by decide +kernel
theorem DM_X8_warden_193 : decode (mC M_X8_warden) 193 = .ok (.if_icmp .ne 7, 3) := by decide +kernel
theorem DM_X8_warden_196 : decode (mC M_X8_warden) 196 = .ok (.iload_n 3, 1) := by decide +kernel
theorem DM_X8_warden_197 : decode (mC M_X8_warden) 197 = .ok (.goto 9, 3) := by decide +kernel
theorem DM_X8_warden_200 : decode (mC M_X8_warden) 200 = .ok (.aload_n 0, 1) := by decide +kernel
theorem DM_X8_warden_201 : decode (mC M_X8_warden) 201 = .ok (.invokevirtual 242, 3) := by decide +kernel
theorem DM_X8_warden_204 : decode (mC M_X8_warden) 204 = .ok (.iload_n 3, 1) := by decide +kernel
theorem DM_X8_warden_205 : decode (mC M_X8_warden) 205 = .ok (.isub, 1) := by decide +kernel
theorem DM_X8_warden_206 : decode (mC M_X8_warden) 206 = .ok (.ireturn, 1) := by decide +kernel
theorem DM_X8_passedBy_0 : decode (mC M_X8_passedBy) 0 = .ok (.iconst 0, 1) := by decide +kernel
theorem DM_X8_passedBy_1 : decode (mC M_X8_passedBy) 1 = .ok (.istore_n 2, 1) := by decide +kernel
theorem DM_X8_passedBy_2 : decode (mC M_X8_passedBy) 2 = .ok (.iconst 0, 1) := by decide +kernel
theorem DM_X8_passedBy_3 : decode (mC M_X8_passedBy) 3 = .ok (.istore_n 3, 1) := by decide +kernel
theorem DM_X8_passedBy_4 : decode (mC M_X8_passedBy) 4 = .ok (.iload_n 3, 1) := by decide +kernel
theorem DM_X8_passedBy_5 : decode (mC M_X8_passedBy) 5 = .ok (.aload_n 0, 1) := by decide +kernel
theorem DM_X8_passedBy_6 : decode (mC M_X8_passedBy) 6 = .ok (.getfield 25, 3) := by decide +kernel
theorem DM_X8_passedBy_9 : decode (mC M_X8_passedBy) 9 = .ok (.iconst 2, 1) := by decide +kernel
theorem DM_X8_passedBy_10 : decode (mC M_X8_passedBy) 10 = .ok (.iaload, 1) := by decide +kernel
theorem DM_X8_passedBy_11 : decode (mC M_X8_passedBy) 11 = .ok (.if_icmp .ge 87, 3) := by decide +kernel
theorem DM_X8_passedBy_14 : decode (mC M_X8_passedBy) 14 = .ok (.iconst 0, 1) := by decide +kernel
theorem DM_X8_passedBy_15 : decode (mC M_X8_passedBy) 15 = .ok (.istore 4, 2) := by decide +kernel
theorem DM_X8_passedBy_17 : decode (mC M_X8_passedBy) 17 = .ok (.iconst 0, 1) := by decide +kernel
theorem DM_X8_passedBy_18 : decode (mC M_X8_passedBy) 18 = .ok (.istore 5, 2) := by decide +kernel
theorem DM_X8_passedBy_20 : decode (mC M_X8_passedBy) 20 = .ok (.iload 5, 2) := by decide +kernel
theorem DM_X8_passedBy_22 : decode (mC M_X8_passedBy) 22 = .ok (.aload_n 0, 1) := by decide +kernel
theorem DM_X8_passedBy_23 : decode (mC M_X8_passedBy) 23 = .ok (.getfield 25, 3) := by decide +kernel
theorem DM_X8_passedBy_26 : decode (mC M_X8_passedBy) 26 = .ok (.iload_n 3, 1) := by decide +kernel
theorem DM_X8_passedBy_27 : decode (mC M_X8_passedBy) 27 = .ok (.iconst 3, 1) := by decide +kernel
theorem DM_X8_passedBy_28 : decode (mC M_X8_passedBy) 28 = .ok (.invokestatic 158, 3) := by decide +kernel
theorem DM_X8_passedBy_31 : decode (mC M_X8_passedBy) 31 = .ok (.if_icmp .ge 37, 3) := by decide +kernel
theorem DM_X8_passedBy_34 : decode (mC M_X8_passedBy) 34 = .ok (.iload 4, 2) := by decide +kernel
theorem DM_X8_passedBy_36 : decode (mC M_X8_passedBy) 36 = .ok (.ifCond .ne 19, 3) := by decide +kernel
theorem DM_X8_passedBy_39 : decode (mC M_X8_passedBy) 39 = .ok (.aload_n 0, 1) := by decide +kernel
theorem DM_X8_passedBy_40 : decode (mC M_X8_passedBy) 40 = .ok (.getfield 25, 3) := by decide +kernel
theorem DM_X8_passedBy_43 : decode (mC M_X8_passedBy) 43 = .ok (.iload_n 3, 1) := by decide +kernel
theorem DM_X8_passedBy_44 : decode (mC M_X8_passedBy) 44 = .ok (.iconst 4, 1) := by decide +kernel
theorem DM_X8_passedBy_45 : decode (mC M_X8_passedBy) 45 = .ok (.iload 5, 2) := by decide +kernel
theorem DM_X8_passedBy_47 : decode (mC M_X8_passedBy) 47 = .ok (.iadd, 1) := by decide +kernel
theorem DM_X8_passedBy_48 : decode (mC M_X8_passedBy) 48 = .ok (.invokestatic 158, 3) := by decide +kernel
theorem DM_X8_passedBy_51 : decode (mC M_X8_passedBy) 51 = .ok (.iload_n 1, 1) := by decide +kernel
theorem DM_X8_passedBy_52 : decode (mC M_X8_passedBy) 52 = .ok (.if_icmp .ne 7, 3) := by decide +kernel
theorem DM_X8_passedBy_55 : decode (mC M_X8_passedBy) 55 = .ok (.iconst 1, 1) := by decide +kernel
theorem DM_X8_passedBy_56 : decode (mC M_X8_passedBy) 56 = .ok (.goto 4, 3) := by decide +kernel
theorem DM_X8_passedBy_59 : decode (mC M_X8_passedBy) 59 = .ok (.iconst 0, 1) := by decide +kernel
theorem DM_X8_passedBy_60 : decode (mC M_X8_passedBy) 60 = .ok (.istore 4, 2) := by decide +kernel
theorem DM_X8_passedBy_62 : decode (mC M_X8_passedBy) 62 = .ok (.iinc 5 1, 3) := by decide +kernel
theorem DM_X8_passedBy_65 : decode (mC M_X8_passedBy) 65 = .ok (.goto (-45), 3) := by decide +kernel
theorem DM_X8_passedBy_68 : decode (mC M_X8_passedBy) 68 = .ok (.iload_n 2, 1) := by decide +kernel
theorem DM_X8_passedBy_69 : decode (mC M_X8_passedBy) 69 = .ok (.iload 4, 2) := by decide +kernel
theorem DM_X8_passedBy_71 : decode (mC M_X8_passedBy) 71 = .ok (.ifCond .eq 18, 3) := by decide +kernel
theorem DM_X8_passedBy_74 : decode (mC M_X8_passedBy) 74 = .ok (.aload_n 0, 1) := by decide +kernel
theorem DM_X8_passedBy_75 : decode (mC M_X8_passedBy) 75 = .ok (.getfield 25, 3) := by decide +kernel
theorem DM_X8_passedBy_78 : decode (mC M_X8_passedBy) 78 = .ok (.iload_n 3, 1) := by decide +kernel
theorem DM_X8_passedBy_79 : decode (mC M_X8_passedBy) 79 = .ok (.invokestatic 172, 3) := by decide +kernel
theorem DM_X8_passedBy_82 : decode (mC M_X8_passedBy) 82 = .ok (.ifCond .eq 7, 3) := by decide +kernel
theorem DM_X8_passedBy_85 : decode (mC M_X8_passedBy) 85 = .ok (.iconst 1, 1) := by decide +kernel
theorem DM_X8_passedBy_86 : decode (mC M_X8_passedBy) 86 = .ok (.goto 4, 3) := by decide +kernel
theorem DM_X8_passedBy_89 : decode (mC M_X8_passedBy) 89 = .ok (.iconst 0, 1) := by decide +kernel
theorem DM_X8_passedBy_90 : decode (mC M_X8_passedBy) 90 = .ok (.iadd, 1) := by decide +kernel
theorem DM_X8_passedBy_91 : decode (mC M_X8_passedBy) 91 = .ok (.istore_n 2, 1) := by decide +kernel
theorem DM_X8_passedBy_92 : decode (mC M_X8_passedBy) 92 = .ok (.iinc 3 1, 3) := by decide +kernel
theorem DM_X8_passedBy_95 : decode (mC M_X8_passedBy) 95 = .ok (.goto (-91), 3) := by decide +kernel
theorem DM_X8_passedBy_98 : decode (mC M_X8_passedBy) 98 = .ok (.iload_n 2, 1) := by decide +kernel
theorem DM_X8_passedBy_99 : decode (mC M_X8_passedBy) 99 = .ok (.ireturn, 1) := by decide +kernel
theorem DM_X8_frees_0 : decode (mC M_X8_frees) 0 = .ok (.aload_n 0, 1) := by decide +kernel
theorem DM_X8_frees_1 : decode (mC M_X8_frees) 1 = .ok (.invokevirtual 200, 3) := by decide +kernel
theorem DM_X8_frees_4 : decode (mC M_X8_frees) 4 = .ok (.ifCond .ne 6, 3) := by decide +kernel
theorem DM_X8_frees_7 : decode (mC M_X8_frees) 7 = .ok (.ldc 203, 2) := by decide +kernel
theorem DM_X8_frees_9 : decode (mC M_X8_frees) 9 = .ok (.ireturn, 1) := by decide +kernel
theorem DM_X8_frees_10 : decode (mC M_X8_frees) 10 = .ok (.iload_n 1, 1) := by decide +kernel
theorem DM_X8_frees_11 : decode (mC M_X8_frees) 11 = .ok (.iconst 0, 1) := by decide +kernel
theorem DM_X8_frees_12 : decode (mC M_X8_frees) 12 = .ok (.iconst 1, 1) := by decide +kernel
theorem DM_X8_frees_13 : decode (mC M_X8_frees) 13 = .ok (.invokestatic 65, 3) := by decide +kernel
theorem DM_X8_frees_16 : decode (mC M_X8_frees) 16 = .ok (.ifCond .ne 6, 3) := by decide +kernel
theorem DM_X8_frees_19 : decode (mC M_X8_frees) 19 = .ok (.ldc 73, 2) := by decide +kernel
theorem DM_X8_frees_21 : decode (mC M_X8_frees) 21 = .ok (.ireturn, 1) := by decide +kernel
theorem DM_X8_frees_22 : decode (mC M_X8_frees) 22 = .ok (.iconst 0, 1) := by decide +kernel
theorem DM_X8_frees_23 : decode (mC M_X8_frees) 23 = .ok (.istore_n 2, 1) := by decide +kernel
theorem DM_X8_frees_24 : decode (mC M_X8_frees) 24 = .ok (.iconst 1, 1) := by decide +kernel
theorem DM_X8_frees_25 : decode (mC M_X8_frees) 25 = .ok (.istore_n 3, 1) := by decide +kernel
theorem DM_X8_frees_26 : decode (mC M_X8_frees) 26 = .ok (.iload_n 3, 1) := by decide +kernel
theorem DM_X8_frees_27 : decode (mC M_X8_frees) 27 = .ok (.bipush 8, 2) := by decide +kernel
theorem DM_X8_frees_29 : decode (mC M_X8_frees) 29 = .ok (.if_icmp .ge 28, 3) := by decide +kernel
theorem DM_X8_frees_32 : decode (mC M_X8_frees) 32 = .ok (.aload_n 0, 1) := by decide +kernel
theorem DM_X8_frees_33 : decode (mC M_X8_frees) 33 = .ok (.iload_n 3, 1) := by decide +kernel
theorem DM_X8_frees_34 : decode (mC M_X8_frees) 34 = .ok (.invokevirtual 245, 3) := by decide +kernel
theorem DM_X8_frees_37 : decode (mC M_X8_frees) 37 = .ok (.aload_n 0, 1) := by decide +kernel
theorem DM_X8_frees_38 : decode (mC M_X8_frees) 38 = .ok (.iload_n 2, 1) := by decide +kernel
theorem DM_X8_frees_39 : decode (mC M_X8_frees) 39 = .ok (.invokevirtual 245, 3) := by decide +kernel
theorem DM_X8_frees_42 : decode (mC M_X8_frees) 42 = .ok (.if_icmp .le 7, 3) := by decide +kernel
theorem DM_X8_frees_45 : decode (mC M_X8_frees) 45 = .ok (.iload_n 3, 1) := by decide +kernel
theorem DM_X8_frees_46 : decode (mC M_X8_frees) 46 = .ok (.goto 4, 3) := by decide +kernel
theorem DM_X8_frees_49 : decode (mC M_X8_frees) 49 = .ok (.iload_n 2, 1) := by decide +kernel
theorem DM_X8_frees_50 : decode (mC M_X8_frees) 50 = .ok (.istore_n 2, 1) := by decide +kernel
theorem DM_X8_frees_51 : decode (mC M_X8_frees) 51 = .ok (.iinc 3 1, 3) := by decide +kernel
theorem DM_X8_frees_54 : decode (mC M_X8_frees) 54 = .ok (.goto (-28), 3) := by decide +kernel
theorem DM_X8_frees_57 : decode (mC M_X8_frees) 57 = .ok (.iload_n 1, 1) := by decide +kernel
theorem DM_X8_frees_58 : decode (mC M_X8_frees) 58 = .ok (.ifCond .ne 7, 3) := by decide +kernel
theorem DM_X8_frees_61 : decode (mC M_X8_frees) 61 = .ok (.iload_n 2, 1) := by decide +kernel
theorem DM_X8_frees_62 : decode (mC M_X8_frees) 62 = .ok (.goto 8, 3) := by decide +kernel
theorem DM_X8_frees_65 : decode (mC M_X8_frees) 65 = .ok (.aload_n 0, 1) := by decide +kernel
theorem DM_X8_frees_66 : decode (mC M_X8_frees) 66 = .ok (.iload_n 2, 1) := by decide +kernel
theorem DM_X8_frees_67 : decode (mC M_X8_frees) 67 = .ok (.invokevirtual 245, 3) := by decide +kernel
theorem DM_X8_frees_70 : decode (mC M_X8_frees) 70 = .ok (.ireturn, 1) := by decide +kernel
theorem DM_X8_ledger_0 : decode (mC M_X8_ledger) 0 = .ok (.aload_n 0, 1) := by decide +kernel
theorem DM_X8_ledger_1 : decode (mC M_X8_ledger) 1 = .ok (.invokevirtual 200, 3) := by decide +kernel
theorem DM_X8_ledger_4 : decode (mC M_X8_ledger) 4 = .ok (.ifCond .ne 6, 3) := by decide +kernel
theorem DM_X8_ledger_7 : decode (mC M_X8_ledger) 7 = .ok (.ldc 203, 2) := by decide +kernel
theorem DM_X8_ledger_9 : decode (mC M_X8_ledger) 9 = .ok (.ireturn, 1) := by decide +kernel
theorem DM_X8_ledger_10 : decode (mC M_X8_ledger) 10 = .ok (.iload_n 1, 1) := by decide +kernel
theorem DM_X8_ledger_11 : decode (mC M_X8_ledger) 11 = .ok (.invokestatic 69, 3) := by decide +kernel
theorem DM_X8_ledger_14 : decode (mC M_X8_ledger) 14 = .ok (.ifCond .eq 13, 3) := by decide +kernel
theorem DM_X8_ledger_17 : decode (mC M_X8_ledger) 17 = .ok (.iload_n 3, 1) := by decide +kernel
theorem DM_X8_ledger_18 : decode (mC M_X8_ledger) 18 = .ok (.iconst 0, 1) := by decide +kernel
theorem DM_X8_ledger_19 : decode (mC M_X8_ledger) 19 = .ok (.bipush 6, 2) := by decide +kernel
theorem DM_X8_ledger_21 : decode (mC M_X8_ledger) 21 = .ok (.invokestatic 65, 3) := by decide +kernel
theorem DM_X8_ledger_24 : decode (mC M_X8_ledger) 24 = .ok (.ifCond .ne 6, 3) := by decide +kernel
theorem DM_X8_ledger_27 : decode (mC M_X8_ledger) 27 = .ok (.ldc 73, 2) := by decide +kernel
theorem DM_X8_ledger_29 : decode (mC M_X8_ledger) 29 = .ok (.ireturn, 1) := by decide +kernel
theorem DM_X8_ledger_30 : decode (mC M_X8_ledger) 30 = .ok (.aload_n 0, 1) := by decide +kernel
theorem DM_X8_ledger_31 : decode (mC M_X8_ledger) 31 = .ok (.iload_n 1, 1) := by decide +kernel
theorem DM_X8_ledger_32 : decode (mC M_X8_ledger) 32 = .ok (.invokevirtual 81, 3) := by decide +kernel
theorem DM_X8_ledger_35 : decode (mC M_X8_ledger) 35 = .ok (.ifCond .eq 9, 3) := by decide +kernel
theorem DM_X8_ledger_38 : decode (mC M_X8_ledger) 38 = .ok (.aload_n 0, 1) := by decide +kernel
theorem DM_X8_ledger_39 : decode (mC M_X8_ledger) 39 = .ok (.iconst 1, 1) := by decide +kernel
theorem DM_X8_ledger_40 : decode (mC M_X8_ledger) 40 = .ok (.invokevirtual 74, 3) := by decide +kernel
theorem DM_X8_ledger_43 : decode (mC M_X8_ledger) 43 = .ok (.ireturn, 1) := by decide +kernel
theorem DM_X8_ledger_44 : decode (mC M_X8_ledger) 44 = .ok (.aload_n 0, 1) := by decide +kernel
theorem DM_X8_ledger_45 : decode (mC M_X8_ledger) 45 = .ok (.iload_n 1, 1) := by decide +kernel
theorem DM_X8_ledger_46 : decode (mC M_X8_ledger) 46 = .ok (.iload_n 2, 1) := by decide +kernel
theorem DM_X8_ledger_47 : decode (mC M_X8_ledger) 47 = .ok (.iload_n 3, 1) := by decide +kernel
theorem DM_X8_ledger_48 : decode (mC M_X8_ledger) 48 = .ok (.invokevirtual 88, 3) := by decide +kernel
theorem DM_X8_ledger_51 : decode (mC M_X8_ledger) 51 = .ok (.ifCond .ne 9, 3) := by decide +kernel
theorem DM_X8_ledger_54 : decode (mC M_X8_ledger) 54 = .ok (.aload_n 0, 1) := by decide +kernel
theorem DM_X8_ledger_55 : decode (mC M_X8_ledger) 55 = .ok (.iconst 2, 1) := by decide +kernel
theorem DM_X8_ledger_56 : decode (mC M_X8_ledger) 56 = .ok (.invokevirtual 74, 3) := by decide +kernel
theorem DM_X8_ledger_59 : decode (mC M_X8_ledger) 59 = .ok (.ireturn, 1) := by decide +kernel
theorem DM_X8_ledger_60 : decode (mC M_X8_ledger) 60 = .ok (.iconst 0, 1) := by decide +kernel
theorem DM_X8_ledger_61 : decode (mC M_X8_ledger) 61 = .ok (.istore 4, 2) := by decide +kernel
theorem DM_X8_ledger_63 : decode (mC M_X8_ledger) 63 = .ok (.iload 4, 2) := by decide +kernel
theorem DM_X8_ledger_65 : decode (mC M_X8_ledger) 65 = .ok (.iload_n 3, 1) := by decide +kernel
theorem DM_X8_ledger_66 : decode (mC M_X8_ledger) 66 = .ok (.if_icmp .ge 33, 3) := by decide +kernel
theorem DM_X8_ledger_69 : decode (mC M_X8_ledger) 69 = .ok (.aload_n 0, 1) := by decide +kernel
theorem DM_X8_ledger_70 : decode (mC M_X8_ledger) 70 = .ok (.aload_n 0, 1) := by decide +kernel
theorem DM_X8_ledger_71 : decode (mC M_X8_ledger) 71 = .ok (.getfield 16, 3) := by decide +kernel
theorem DM_X8_ledger_74 : decode (mC M_X8_ledger) 74 = .ok (.bipush 40, 2) := by decide +kernel
theorem DM_X8_ledger_76 : decode (mC M_X8_ledger) 76 = .ok (.iload_n 1, 1) := by decide +kernel
theorem DM_X8_ledger_77 : decode (mC M_X8_ledger) 77 = .ok (.imul, 1) := by decide +kernel
theorem DM_X8_ledger_78 : decode (mC M_X8_ledger) 78 = .ok (.iload_n 2, 1) := by decide +kernel
theorem DM_X8_ledger_79 : decode (mC M_X8_ledger) 79 = .ok (.iadd, 1) := by decide +kernel
theorem DM_X8_ledger_80 : decode (mC M_X8_ledger) 80 = .ok (.iload 4, 2) := by decide +kernel
theorem DM_X8_ledger_82 : decode (mC M_X8_ledger) 82 = .ok (.iadd, 1) := by decide +kernel
theorem DM_X8_ledger_83 : decode (mC M_X8_ledger) 83 = .ok (.iaload, 1) := by decide +kernel
theorem DM_X8_ledger_84 : decode (mC M_X8_ledger) 84 = .ok (.invokevirtual 210, 3) := by decide +kernel
theorem DM_X8_ledger_87 : decode (mC M_X8_ledger) 87 = .ok (.ifCond .ne 6, 3) := by decide +kernel
theorem DM_X8_ledger_90 : decode (mC M_X8_ledger) 90 = .ok (.ldc 73, 2) := by decide +kernel
theorem DM_X8_ledger_92 : decode (mC M_X8_ledger) 92 = .ok (.ireturn, 1) := by decide +kernel
theorem DM_X8_ledger_93 : decode (mC M_X8_ledger) 93 = .ok (.iinc 4 1, 3) := by decide +kernel
theorem DM_X8_ledger_96 : decode (mC M_X8_ledger) 96 = .ok (.goto (-33), 3) := by decide +kernel
theorem DM_X8_ledger_99 : decode (mC M_X8_ledger) 99 = .ok (.iconst 0, 1) := by decide +kernel
theorem DM_X8_ledger_100 : decode (mC M_X8_ledger) 100 = .ok (.istore 4, 2) := by decide +kernel
theorem DM_X8_ledger_102 : decode (mC M_X8_ledger) 102 = .ok (.iconst 0, 1) := by decide +kernel
theorem DM_X8_ledger_103 : decode (mC M_X8_ledger) 103 = .ok (.istore 5, 2) := by decide +kernel
theorem DM_X8_ledger_105 : decode (mC M_X8_ledger) 105 = .ok (.iload 5, 2) := by decide +kernel
theorem DM_X8_ledger_107 : decode (mC M_X8_ledger) 107 = .ok (.bipush 8, 2) := by decide +kernel
theorem DM_X8_ledger_109 : decode (mC M_X8_ledger) 109 = .ok (.if_icmp .ge 116, 3) := by decide +kernel
theorem DM_X8_ledger_112 : decode (mC M_X8_ledger) 112 = .ok (.aload_n 0, 1) := by decide +kernel
theorem DM_X8_ledger_113 : decode (mC M_X8_ledger) 113 = .ok (.getfield 25, 3) := by decide +kernel
theorem DM_X8_ledger_116 : decode (mC M_X8_ledger) 116 = .ok (.iconst 0, 1) := by decide +kernel
theorem DM_X8_ledger_117 : decode (mC M_X8_ledger) 117 = .ok (.aload_n 0, 1) := by decide +kernel
theorem DM_X8_ledger_118 : decode (mC M_X8_ledger) 118 = .ok (.getfield 31, 3) := by decide +kernel
theorem DM_X8_ledger_121 : decode (mC M_X8_ledger) 121 = .ok (.iconst 0, 1) := by decide +kernel
end
section
theorem DM_X8_ledger_122 : decode (mC M_X8_ledger) 122 = .ok (.invokestatic 151, 3) := by decide +kernel
theorem DM_X8_ledger_125 : decode (mC M_X8_ledger) 125 = .ok (.aload_n 0, 1) := by decide +kernel
theorem DM_X8_ledger_126 : decode (mC M_X8_ledger) 126 = .ok (.aload_n 0, 1) := by decide +kernel
theorem DM_X8_ledger_127 : decode (mC M_X8_ledger) 127 = .ok (.getfield 31, 3) := by decide +kernel
theorem DM_X8_ledger_130 : decode (mC M_X8_ledger) 130 = .ok (.iload 5, 2) := by decide +kernel
theorem DM_X8_ledger_132 : decode (mC M_X8_ledger) 132 = .ok (.invokevirtual 207, 3) := by decide +kernel
theorem DM_X8_ledger_135 : decode (mC M_X8_ledger) 135 = .ok (.aload_n 0, 1) := by decide +kernel
theorem DM_X8_ledger_136 : decode (mC M_X8_ledger) 136 = .ok (.getfield 187, 3) := by decide +kernel
theorem DM_X8_ledger_139 : decode (mC M_X8_ledger) 139 = .ok (.iload_n 3, 1) := by decide +kernel
theorem DM_X8_ledger_140 : decode (mC M_X8_ledger) 140 = .ok (.if_icmp .ne 7, 3) := by decide +kernel
theorem DM_X8_ledger_143 : decode (mC M_X8_ledger) 143 = .ok (.iconst 1, 1) := by decide +kernel
theorem DM_X8_ledger_144 : decode (mC M_X8_ledger) 144 = .ok (.goto 4, 3) := by decide +kernel
theorem DM_X8_ledger_147 : decode (mC M_X8_ledger) 147 = .ok (.iconst 0, 1) := by decide +kernel
theorem DM_X8_ledger_148 : decode (mC M_X8_ledger) 148 = .ok (.istore 6, 2) := by decide +kernel
theorem DM_X8_ledger_150 : decode (mC M_X8_ledger) 150 = .ok (.iconst 0, 1) := by decide +kernel
theorem DM_X8_ledger_151 : decode (mC M_X8_ledger) 151 = .ok (.istore 7, 2) := by decide +kernel
theorem DM_X8_ledger_153 : decode (mC M_X8_ledger) 153 = .ok (.iload 7, 2) := by decide +kernel
theorem DM_X8_ledger_155 : decode (mC M_X8_ledger) 155 = .ok (.iload_n 3, 1) := by decide +kernel
theorem DM_X8_ledger_156 : decode (mC M_X8_ledger) 156 = .ok (.if_icmp .ge 45, 3) := by decide +kernel
theorem DM_X8_ledger_159 : decode (mC M_X8_ledger) 159 = .ok (.iload 6, 2) := by decide +kernel
theorem DM_X8_ledger_161 : decode (mC M_X8_ledger) 161 = .ok (.ifCond .eq 40, 3) := by decide +kernel
theorem DM_X8_ledger_164 : decode (mC M_X8_ledger) 164 = .ok (.aload_n 0, 1) := by decide +kernel
theorem DM_X8_ledger_165 : decode (mC M_X8_ledger) 165 = .ok (.getfield 47, 3) := by decide +kernel
theorem DM_X8_ledger_168 : decode (mC M_X8_ledger) 168 = .ok (.iload 7, 2) := by decide +kernel
theorem DM_X8_ledger_170 : decode (mC M_X8_ledger) 170 = .ok (.iaload, 1) := by decide +kernel
theorem DM_X8_ledger_171 : decode (mC M_X8_ledger) 171 = .ok (.aload_n 0, 1) := by decide +kernel
theorem DM_X8_ledger_172 : decode (mC M_X8_ledger) 172 = .ok (.getfield 16, 3) := by decide +kernel
theorem DM_X8_ledger_175 : decode (mC M_X8_ledger) 175 = .ok (.bipush 40, 2) := by decide +kernel
theorem DM_X8_ledger_177 : decode (mC M_X8_ledger) 177 = .ok (.iload_n 1, 1) := by decide +kernel
theorem DM_X8_ledger_178 : decode (mC M_X8_ledger) 178 = .ok (.imul, 1) := by decide +kernel
theorem DM_X8_ledger_179 : decode (mC M_X8_ledger) 179 = .ok (.iload_n 2, 1) := by decide +kernel
theorem DM_X8_ledger_180 : decode (mC M_X8_ledger) 180 = .ok (.iadd, 1) := by decide +kernel
theorem DM_X8_ledger_181 : decode (mC M_X8_ledger) 181 = .ok (.iload 7, 2) := by decide +kernel
theorem DM_X8_ledger_183 : decode (mC M_X8_ledger) 183 = .ok (.iadd, 1) := by decide +kernel
theorem DM_X8_ledger_184 : decode (mC M_X8_ledger) 184 = .ok (.iaload, 1) := by decide +kernel
theorem DM_X8_ledger_185 : decode (mC M_X8_ledger) 185 = .ok (.if_icmp .ne 7, 3) := by decide +kernel
theorem DM_X8_ledger_188 : decode (mC M_X8_ledger) 188 = .ok (.iconst 1, 1) := by decide +kernel
theorem DM_X8_ledger_189 : decode (mC M_X8_ledger) 189 = .ok (.goto 4, 3) := by decide +kernel
theorem DM_X8_ledger_192 : decode (mC M_X8_ledger) 192 = .ok (.iconst 0, 1) := by decide +kernel
theorem DM_X8_ledger_193 : decode (mC M_X8_ledger) 193 = .ok (.istore 6, 2) := by decide +kernel
theorem DM_X8_ledger_195 : decode (mC M_X8_ledger) 195 = .ok (.iinc 7 1, 3) := by decide +kernel
theorem DM_X8_ledger_198 : decode (mC M_X8_ledger) 198 = .ok (.goto (-45), 3) := by decide +kernel
theorem DM_X8_ledger_201 : decode (mC M_X8_ledger) 201 = .ok (.iload 4, 2) := by decide +kernel
theorem DM_X8_ledger_203 : decode (mC M_X8_ledger) 203 = .ok (.iload 6, 2) := by decide +kernel
theorem DM_X8_ledger_205 : decode (mC M_X8_ledger) 205 = .ok (.ifCond .eq 10, 3) := by decide +kernel
theorem DM_X8_ledger_208 : decode (mC M_X8_ledger) 208 = .ok (.iconst 1, 1) := by decide +kernel
theorem DM_X8_ledger_209 : decode (mC M_X8_ledger) 209 = .ok (.iload 5, 2) := by decide +kernel
theorem DM_X8_ledger_211 : decode (mC M_X8_ledger) 211 = .ok (.ishl, 1) := by decide +kernel
theorem DM_X8_ledger_212 : decode (mC M_X8_ledger) 212 = .ok (.goto 4, 3) := by decide +kernel
theorem DM_X8_ledger_215 : decode (mC M_X8_ledger) 215 = .ok (.iconst 0, 1) := by decide +kernel
theorem DM_X8_ledger_216 : decode (mC M_X8_ledger) 216 = .ok (.ior, 1) := by decide +kernel
theorem DM_X8_ledger_217 : decode (mC M_X8_ledger) 217 = .ok (.istore 4, 2) := by decide +kernel
theorem DM_X8_ledger_219 : decode (mC M_X8_ledger) 219 = .ok (.iinc 5 1, 3) := by decide +kernel
theorem DM_X8_ledger_222 : decode (mC M_X8_ledger) 222 = .ok (.goto (-117), 3) := by decide +kernel
theorem DM_X8_ledger_225 : decode (mC M_X8_ledger) 225 = .ok (.aload_n 0, 1) := by decide +kernel
theorem DM_X8_ledger_226 : decode (mC M_X8_ledger) 226 = .ok (.iload 4, 2) := by decide +kernel
theorem DM_X8_ledger_228 : decode (mC M_X8_ledger) 228 = .ok (.invokevirtual 78, 3) := by decide +kernel
theorem DM_X8_ledger_231 : decode (mC M_X8_ledger) 231 = .ok (.ireturn, 1) := by decide +kernel
theorem DM_X8_image_0 : decode (mC M_X8_image) 0 = .ok (.iload_n 1, 1) := by decide +kernel
theorem DM_X8_image_1 : decode (mC M_X8_image) 1 = .ok (.iconst 0, 1) := by decide +kernel
theorem DM_X8_image_2 : decode (mC M_X8_image) 2 = .ok (.iconst 1, 1) := by decide +kernel
theorem DM_X8_image_3 : decode (mC M_X8_image) 3 = .ok (.invokestatic 65, 3) := by decide +kernel
theorem DM_X8_image_6 : decode (mC M_X8_image) 6 = .ok (.ifCond .ne 6, 3) := by decide +kernel
theorem DM_X8_image_9 : decode (mC M_X8_image) 9 = .ok (.ldc 73, 2) := by decide +kernel
theorem DM_X8_image_11 : decode (mC M_X8_image) 11 = .ok (.ireturn, 1) := by decide +kernel
theorem DM_X8_image_12 : decode (mC M_X8_image) 12 = .ok (.aload_n 0, 1) := by decide +kernel
theorem DM_X8_image_13 : decode (mC M_X8_image) 13 = .ok (.invokevirtual 200, 3) := by decide +kernel
theorem DM_X8_image_16 : decode (mC M_X8_image) 16 = .ok (.ifCond .ne 6, 3) := by decide +kernel
theorem DM_X8_image_19 : decode (mC M_X8_image) 19 = .ok (.ldc 203, 2) := by decide +kernel
theorem DM_X8_image_21 : decode (mC M_X8_image) 21 = .ok (.ireturn, 1) := by decide +kernel
theorem DM_X8_image_22 : decode (mC M_X8_image) 22 = .ok (.aload_n 0, 1) := by decide +kernel
theorem DM_X8_image_23 : decode (mC M_X8_image) 23 = .ok (.getfield 25, 3) := by decide +kernel
theorem DM_X8_image_26 : decode (mC M_X8_image) 26 = .ok (.iconst 0, 1) := by decide +kernel
theorem DM_X8_image_27 : decode (mC M_X8_image) 27 = .ok (.aload_n 0, 1) := by decide +kernel
theorem DM_X8_image_28 : decode (mC M_X8_image) 28 = .ok (.getfield 37, 3) := by decide +kernel
theorem DM_X8_image_31 : decode (mC M_X8_image) 31 = .ok (.bipush 91, 2) := by decide +kernel
theorem DM_X8_image_33 : decode (mC M_X8_image) 33 = .ok (.iload_n 1, 1) := by decide +kernel
theorem DM_X8_image_34 : decode (mC M_X8_image) 34 = .ok (.imul, 1) := by decide +kernel
theorem DM_X8_image_35 : decode (mC M_X8_image) 35 = .ok (.invokestatic 151, 3) := by decide +kernel
theorem DM_X8_image_38 : decode (mC M_X8_image) 38 = .ok (.aload_n 0, 1) := by decide +kernel
theorem DM_X8_image_39 : decode (mC M_X8_image) 39 = .ok (.getfield 40, 3) := by decide +kernel
theorem DM_X8_image_42 : decode (mC M_X8_image) 42 = .ok (.iload_n 1, 1) := by decide +kernel
theorem DM_X8_image_43 : decode (mC M_X8_image) 43 = .ok (.iconst 1, 1) := by decide +kernel
theorem DM_X8_image_44 : decode (mC M_X8_image) 44 = .ok (.bastore, 1) := by decide +kernel
theorem DM_X8_image_45 : decode (mC M_X8_image) 45 = .ok (.iconst 1, 1) := by decide +kernel
theorem DM_X8_image_46 : decode (mC M_X8_image) 46 = .ok (.ireturn, 1) := by decide +kernel
theorem DM_X8_restore_0 : decode (mC M_X8_restore) 0 = .ok (.iload_n 1, 1) := by decide +kernel
theorem DM_X8_restore_1 : decode (mC M_X8_restore) 1 = .ok (.iconst 0, 1) := by decide +kernel
theorem DM_X8_restore_2 : decode (mC M_X8_restore) 2 = .ok (.iconst 1, 1) := by decide +kernel
theorem DM_X8_restore_3 : decode (mC M_X8_restore) 3 = .ok (.invokestatic 65, 3) := by decide +kernel
theorem DM_X8_restore_6 : decode (mC M_X8_restore) 6 = .ok (.ifCond .ne 6, 3) := by decide +kernel
theorem DM_X8_restore_9 : decode (mC M_X8_restore) 9 = .ok (.ldc 73, 2) := by decide +kernel
theorem DM_X8_restore_11 : decode (mC M_X8_restore) 11 = .ok (.ireturn, 1) := by decide +kernel
theorem DM_X8_restore_12 : decode (mC M_X8_restore) 12 = .ok (.aload_n 0, 1) := by decide +kernel
theorem DM_X8_restore_13 : decode (mC M_X8_restore) 13 = .ok (.getfield 40, 3) := by decide +kernel
theorem DM_X8_restore_16 : decode (mC M_X8_restore) 16 = .ok (.iload_n 1, 1) := by decide +kernel
theorem DM_X8_restore_17 : decode (mC M_X8_restore) 17 = .ok (.baload, 1) := by decide +kernel
theorem DM_X8_restore_18 : decode (mC M_X8_restore) 18 = .ok (.ifCond .ne 6, 3) := by decide +kernel
theorem DM_X8_restore_21 : decode (mC M_X8_restore) 21 = .ok (.ldc 203, 2) := by decide +kernel
theorem DM_X8_restore_23 : decode (mC M_X8_restore) 23 = .ok (.ireturn, 1) := by decide +kernel
theorem DM_X8_restore_24 : decode (mC M_X8_restore) 24 = .ok (.aload_n 0, 1) := by decide +kernel
theorem DM_X8_restore_25 : decode (mC M_X8_restore) 25 = .ok (.getfield 37, 3) := by decide +kernel
theorem DM_X8_restore_28 : decode (mC M_X8_restore) 28 = .ok (.bipush 91, 2) := by decide +kernel
theorem DM_X8_restore_30 : decode (mC M_X8_restore) 30 = .ok (.iload_n 1, 1) := by decide +kernel
theorem DM_X8_restore_31 : decode (mC M_X8_restore) 31 = .ok (.imul, 1) := by decide +kernel
theorem DM_X8_restore_32 : decode (mC M_X8_restore) 32 = .ok (.aload_n 0, 1) := by decide +kernel
theorem DM_X8_restore_33 : decode (mC M_X8_restore) 33 = .ok (.getfield 25, 3) := by decide +kernel
theorem DM_X8_restore_36 : decode (mC M_X8_restore) 36 = .ok (.iconst 0, 1) := by decide +kernel
theorem DM_X8_restore_37 : decode (mC M_X8_restore) 37 = .ok (.invokestatic 151, 3) := by decide +kernel
theorem DM_X8_restore_40 : decode (mC M_X8_restore) 40 = .ok (.aload_n 0, 1) := by decide +kernel
theorem DM_X8_restore_41 : decode (mC M_X8_restore) 41 = .ok (.iconst 0, 1) := by decide +kernel
theorem DM_X8_restore_42 : decode (mC M_X8_restore) 42 = .ok (.putfield 155, 3) := by decide +kernel
theorem DM_X8_restore_45 : decode (mC M_X8_restore) 45 = .ok (.iconst 1, 1) := by decide +kernel
theorem DM_X8_restore_46 : decode (mC M_X8_restore) 46 = .ok (.ireturn, 1) := by decide +kernel
theorem DM_X8_kind_0 : decode (mC M_X8_kind) 0 = .ok (.aload_n 0, 1) := by decide +kernel
theorem DM_X8_kind_1 : decode (mC M_X8_kind) 1 = .ok (.iload_n 1, 1) := by decide +kernel
theorem DM_X8_kind_2 : decode (mC M_X8_kind) 2 = .ok (.invokevirtual 210, 3) := by decide +kernel
theorem DM_X8_kind_5 : decode (mC M_X8_kind) 5 = .ok (.ifCond .eq 15, 3) := by decide +kernel
theorem DM_X8_kind_8 : decode (mC M_X8_kind) 8 = .ok (.aload_n 0, 1) := by decide +kernel
theorem DM_X8_kind_9 : decode (mC M_X8_kind) 9 = .ok (.getfield 25, 3) := by decide +kernel
theorem DM_X8_kind_12 : decode (mC M_X8_kind) 12 = .ok (.iload_n 1, 1) := by decide +kernel
theorem DM_X8_kind_13 : decode (mC M_X8_kind) 13 = .ok (.iconst 0, 1) := by decide +kernel
theorem DM_X8_kind_14 : decode (mC M_X8_kind) 14 = .ok (.invokestatic 158, 3) := by decide +kernel
theorem DM_X8_kind_17 : decode (mC M_X8_kind) 17 = .ok (.goto 5, 3) := by decide +kernel
theorem DM_X8_kind_20 : decode (mC M_X8_kind) 20 = .ok (.ldc 73, 2) := by decide +kernel
theorem DM_X8_kind_22 : decode (mC M_X8_kind) 22 = .ok (.ireturn, 1) := by decide +kernel
theorem DM_X8_as_0 : decode (mC M_X8_as) 0 = .ok (.aload_n 0, 1) := by decide +kernel
theorem DM_X8_as_1 : decode (mC M_X8_as) 1 = .ok (.iload_n 1, 1) := by decide +kernel
theorem DM_X8_as_2 : decode (mC M_X8_as) 2 = .ok (.invokevirtual 210, 3) := by decide +kernel
theorem DM_X8_as_5 : decode (mC M_X8_as) 5 = .ok (.ifCond .eq 12, 3) := by decide +kernel
theorem DM_X8_as_8 : decode (mC M_X8_as) 8 = .ok (.iload_n 2, 1) := by decide +kernel
theorem DM_X8_as_9 : decode (mC M_X8_as) 9 = .ok (.iconst 0, 1) := by decide +kernel
theorem DM_X8_as_10 : decode (mC M_X8_as) 10 = .ok (.iconst 5, 1) := by decide +kernel
theorem DM_X8_as_11 : decode (mC M_X8_as) 11 = .ok (.invokestatic 65, 3) := by decide +kernel
theorem DM_X8_as_14 : decode (mC M_X8_as) 14 = .ok (.ifCond .ne 6, 3) := by decide +kernel
theorem DM_X8_as_17 : decode (mC M_X8_as) 17 = .ok (.ldc 73, 2) := by decide +kernel
theorem DM_X8_as_19 : decode (mC M_X8_as) 19 = .ok (.ireturn, 1) := by decide +kernel
theorem DM_X8_as_20 : decode (mC M_X8_as) 20 = .ok (.aload_n 0, 1) := by decide +kernel
theorem DM_X8_as_21 : decode (mC M_X8_as) 21 = .ok (.getfield 25, 3) := by decide +kernel
theorem DM_X8_as_24 : decode (mC M_X8_as) 24 = .ok (.iload_n 1, 1) := by decide +kernel
theorem DM_X8_as_25 : decode (mC M_X8_as) 25 = .ok (.iconst 0, 1) := by decide +kernel
theorem DM_X8_as_26 : decode (mC M_X8_as) 26 = .ok (.invokestatic 158, 3) := by decide +kernel
theorem DM_X8_as_29 : decode (mC M_X8_as) 29 = .ok (.istore_n 3, 1) := by decide +kernel
theorem DM_X8_as_30 : decode (mC M_X8_as) 30 = .ok (.iload_n 2, 1) := by decide +kernel
theorem DM_X8_as_31 : decode (mC M_X8_as) 31 = .ok (.ifCond .eq 28, 3) := by decide +kernel
theorem DM_X8_as_34 : decode (mC M_X8_as) 34 = .ok (.iload_n 2, 1) := by decide +kernel
theorem DM_X8_as_35 : decode (mC M_X8_as) 35 = .ok (.iload_n 3, 1) := by decide +kernel
theorem DM_X8_as_36 : decode (mC M_X8_as) 36 = .ok (.if_icmp .eq 23, 3) := by decide +kernel
theorem DM_X8_as_39 : decode (mC M_X8_as) 39 = .ok (.iload_n 2, 1) := by decide +kernel
theorem DM_X8_as_40 : decode (mC M_X8_as) 40 = .ok (.iconst 1, 1) := by decide +kernel
theorem DM_X8_as_41 : decode (mC M_X8_as) 41 = .ok (.if_icmp .ne 8, 3) := by decide +kernel
theorem DM_X8_as_44 : decode (mC M_X8_as) 44 = .ok (.iload_n 3, 1) := by decide +kernel
theorem DM_X8_as_45 : decode (mC M_X8_as) 45 = .ok (.iconst 4, 1) := by decide +kernel
theorem DM_X8_as_46 : decode (mC M_X8_as) 46 = .ok (.if_icmp .lt 13, 3) := by decide +kernel
theorem DM_X8_as_49 : decode (mC M_X8_as) 49 = .ok (.iload_n 2, 1) := by decide +kernel
theorem DM_X8_as_50 : decode (mC M_X8_as) 50 = .ok (.iconst 4, 1) := by decide +kernel
theorem DM_X8_as_51 : decode (mC M_X8_as) 51 = .ok (.if_icmp .ne 12, 3) := by decide +kernel
theorem DM_X8_as_54 : decode (mC M_X8_as) 54 = .ok (.iload_n 3, 1) := by decide +kernel
theorem DM_X8_as_55 : decode (mC M_X8_as) 55 = .ok (.iconst 5, 1) := by decide +kernel
theorem DM_X8_as_56 : decode (mC M_X8_as) 56 = .ok (.if_icmp .ne 7, 3) := by decide +kernel
theorem DM_X8_as_59 : decode (mC M_X8_as) 59 = .ok (.iconst 1, 1) := by decide +kernel
theorem DM_X8_as_60 : decode (mC M_X8_as) 60 = .ok (.goto 4, 3) := by decide +kernel
theorem DM_X8_as_63 : decode (mC M_X8_as) 63 = .ok (.iconst 0, 1) := by decide +kernel
theorem DM_X8_as_64 : decode (mC M_X8_as) 64 = .ok (.istore 4, 2) := by decide +kernel
theorem DM_X8_as_66 : decode (mC M_X8_as) 66 = .ok (.iload 4, 2) := by decide +kernel
theorem DM_X8_as_68 : decode (mC M_X8_as) 68 = .ok (.ifCond .eq 11, 3) := by decide +kernel
theorem DM_X8_as_71 : decode (mC M_X8_as) 71 = .ok (.aload_n 0, 1) := by decide +kernel
theorem DM_X8_as_72 : decode (mC M_X8_as) 72 = .ok (.iload_n 1, 1) := by decide +kernel
theorem DM_X8_as_73 : decode (mC M_X8_as) 73 = .ok (.invokevirtual 78, 3) := by decide +kernel
theorem DM_X8_as_76 : decode (mC M_X8_as) 76 = .ok (.goto 8, 3) := by decide +kernel
theorem DM_X8_as_79 : decode (mC M_X8_as) 79 = .ok (.aload_n 0, 1) := by decide +kernel
theorem DM_X8_as_80 : decode (mC M_X8_as) 80 = .ok (.iconst 3, 1) := by decide +kernel
theorem DM_X8_as_81 : decode (mC M_X8_as) 81 = .ok (.invokevirtual 74, 3) := by decide +kernel
theorem DM_X8_as_84 : decode (mC M_X8_as) 84 = .ok (.ireturn, 1) := by decide +kernel
theorem DM_X8_begins_0 : decode (mC M_X8_begins) 0 = .ok (.aload_n 0, 1) := by decide +kernel
theorem DM_X8_begins_1 : decode (mC M_X8_begins) 1 = .ok (.getfield 248, 3) := by decide +kernel
theorem DM_X8_begins_4 : decode (mC M_X8_begins) 4 = .ok (.bipush 16, 2) := by decide +kernel
theorem DM_X8_begins_6 : decode (mC M_X8_begins) 6 = .ok (.if_icmp .ge 23, 3) := by decide +kernel
theorem DM_X8_begins_9 : decode (mC M_X8_begins) 9 = .ok (.aload_n 0, 1) := by decide +kernel
theorem DM_X8_begins_10 : decode (mC M_X8_begins) 10 = .ok (.getfield 44, 3) := by decide +kernel
theorem DM_X8_begins_13 : decode (mC M_X8_begins) 13 = .ok (.aload_n 0, 1) := by decide +kernel
theorem DM_X8_begins_14 : decode (mC M_X8_begins) 14 = .ok (.getfield 248, 3) := by decide +kernel
theorem DM_X8_begins_17 : decode (mC M_X8_begins) 17 = .ok (.iload_n 1, 1) := by decide +kernel
theorem DM_X8_begins_18 : decode (mC M_X8_begins) 18 = .ok (.iastore, 1) := by decide +kernel
theorem DM_X8_begins_19 : decode (mC M_X8_begins) 19 = .ok (.aload_n 0, 1) := by decide +kernel
theorem DM_X8_begins_20 : decode (mC M_X8_begins) 20 = .ok (.dup, 1) := by decide +kernel
theorem DM_X8_begins_21 : decode (mC M_X8_begins) 21 = .ok (.getfield 248, 3) := by decide +kernel
theorem DM_X8_begins_24 : decode (mC M_X8_begins) 24 = .ok (.iconst 1, 1) := by decide +kernel
theorem DM_X8_begins_25 : decode (mC M_X8_begins) 25 = .ok (.iadd, 1) := by decide +kernel
theorem DM_X8_begins_26 : decode (mC M_X8_begins) 26 = .ok (.putfield 248, 3) := by decide +kernel
theorem DM_X8_begins_29 : decode (mC M_X8_begins) 29 = .ok (.return_, 1) := by decide +kernel
theorem DM_X8_plainMark_0 : decode (mC M_X8_plainMark) 0 = .ok (.aload_n 0, 1) := by decide +kernel
theorem DM_X8_plainMark_1 : decode (mC M_X8_plainMark) 1 = .ok (.getfield 25, 3) := by decide +kernel
theorem DM_X8_plainMark_4 : decode (mC M_X8_plainMark) 4 = .ok (.iload_n 1, 1) := by decide +kernel
theorem DM_X8_plainMark_5 : decode (mC M_X8_plainMark) 5 = .ok (.iconst 0, 1) := by decide +kernel
theorem DM_X8_plainMark_6 : decode (mC M_X8_plainMark) 6 = .ok (.invokestatic 158, 3) := by decide +kernel
theorem DM_X8_plainMark_9 : decode (mC M_X8_plainMark) 9 = .ok (.istore_n 2, 1) := by decide +kernel
theorem DM_X8_plainMark_10 : decode (mC M_X8_plainMark) 10 = .ok (.iload_n 2, 1) := by decide +kernel
theorem DM_X8_plainMark_11 : decode (mC M_X8_plainMark) 11 = .ok (.iconst 1, 1) := by decide +kernel
theorem DM_X8_plainMark_12 : decode (mC M_X8_plainMark) 12 = .ok (.if_icmp .eq 19, 3) := by decide +kernel
theorem DM_X8_plainMark_15 : decode (mC M_X8_plainMark) 15 = .ok (.aload_n 0, 1) := by decide +kernel
theorem DM_X8_plainMark_16 : decode (mC M_X8_plainMark) 16 = .ok (.iload_n 2, 1) := by decide +kernel
theorem DM_X8_plainMark_17 : decode (mC M_X8_plainMark) 17 = .ok (.iconst 2, 1) := by decide +kernel
theorem DM_X8_plainMark_18 : decode (mC M_X8_plainMark) 18 = .ok (.if_icmp .ne 8, 3) := by decide +kernel
theorem DM_X8_plainMark_21 : decode (mC M_X8_plainMark) 21 = .ok (.bipush 24, 2) := by decide +kernel
theorem DM_X8_plainMark_23 : decode (mC M_X8_plainMark) 23 = .ok (.goto 5, 3) := by decide +kernel
theorem DM_X8_plainMark_26 : decode (mC M_X8_plainMark) 26 = .ok (.bipush 22, 2) := by decide +kernel
theorem DM_X8_plainMark_28 : decode (mC M_X8_plainMark) 28 = .ok (.invokevirtual 251, 3) := by decide +kernel
theorem DM_X8_plainMark_31 : decode (mC M_X8_plainMark) 31 = .ok (.aload_n 0, 1) := by decide +kernel
theorem DM_X8_plainMark_32 : decode (mC M_X8_plainMark) 32 = .ok (.bipush 21, 2) := by decide +kernel
theorem DM_X8_plainMark_34 : decode (mC M_X8_plainMark) 34 = .ok (.invokevirtual 251, 3) := by decide +kernel
theorem DM_X8_plainMark_37 : decode (mC M_X8_plainMark) 37 = .ok (.aload_n 0, 1) := by decide +kernel
theorem DM_X8_plainMark_38 : decode (mC M_X8_plainMark) 38 = .ok (.bipush 20, 2) := by decide +kernel
theorem DM_X8_plainMark_40 : decode (mC M_X8_plainMark) 40 = .ok (.invokevirtual 251, 3) := by decide +kernel
theorem DM_X8_plainMark_43 : decode (mC M_X8_plainMark) 43 = .ok (.iload_n 1, 1) := by decide +kernel
theorem DM_X8_plainMark_44 : decode (mC M_X8_plainMark) 44 = .ok (.aload_n 0, 1) := by decide +kernel
theorem DM_X8_plainMark_45 : decode (mC M_X8_plainMark) 45 = .ok (.getfield 25, 3) := by decide +kernel
theorem DM_X8_plainMark_48 : decode (mC M_X8_plainMark) 48 = .ok (.iload_n 1, 1) := by decide +kernel
theorem DM_X8_plainMark_49 : decode (mC M_X8_plainMark) 49 = .ok (.iconst 3, 1) := by decide +kernel
theorem DM_X8_plainMark_50 : decode (mC M_X8_plainMark) 50 = .ok (.invokestatic 158, 3) := by decide +kernel
theorem DM_X8_plainMark_53 : decode (mC M_X8_plainMark) 53 = .ok (.iadd, 1) := by decide +kernel
theorem DM_X8_plainMark_54 : decode (mC M_X8_plainMark) 54 = .ok (.istore_n 3, 1) := by decide +kernel
theorem DM_X8_plainMark_55 : decode (mC M_X8_plainMark) 55 = .ok (.iload_n 2, 1) := by decide +kernel
theorem DM_X8_plainMark_56 : decode (mC M_X8_plainMark) 56 = .ok (.iconst 2, 1) := by decide +kernel
theorem DM_X8_plainMark_57 : decode (mC M_X8_plainMark) 57 = .ok (.if_icmp .ne 9, 3) := by decide +kernel
theorem DM_X8_plainMark_60 : decode (mC M_X8_plainMark) 60 = .ok (.iconst 2, 1) := by decide +kernel
theorem DM_X8_plainMark_61 : decode (mC M_X8_plainMark) 61 = .ok (.iload_n 3, 1) := by decide +kernel
theorem DM_X8_plainMark_62 : decode (mC M_X8_plainMark) 62 = .ok (.imul, 1) := by decide +kernel
theorem DM_X8_plainMark_63 : decode (mC M_X8_plainMark) 63 = .ok (.goto 17, 3) := by decide +kernel
theorem DM_X8_plainMark_66 : decode (mC M_X8_plainMark) 66 = .ok (.iload_n 2, 1) := by decide +kernel
theorem DM_X8_plainMark_67 : decode (mC M_X8_plainMark) 67 = .ok (.iconst 3, 1) := by decide +kernel
theorem DM_X8_plainMark_68 : decode (mC M_X8_plainMark) 68 = .ok (.if_icmp .ne 11, 3) := by decide +kernel
theorem DM_X8_plainMark_71 : decode (mC M_X8_plainMark) 71 = .ok (.iload_n 3, 1) := by decide +kernel
theorem DM_X8_plainMark_72 : decode (mC M_X8_plainMark) 72 = .ok (.sipush 1000, 3) := by decide +kernel
theorem DM_X8_plainMark_75 : decode (mC M_X8_plainMark) 75 = .ok (.isub, 1) := by decide +kernel
theorem DM_X8_plainMark_76 : decode (mC M_X8_plainMark) 76 = .ok (.goto 4, 3) := by decide +kernel
theorem DM_X8_plainMark_79 : decode (mC M_X8_plainMark) 79 = .ok (.iload_n 3, 1) := by decide +kernel
theorem DM_X8_plainMark_80 : decode (mC M_X8_plainMark) 80 = .ok (.ireturn, 1) := by decide +kernel
theorem DM_X8_saintSize_0 : decode (mC M_X8_saintSize) 0 = .ok (.aload_n 0, 1) := by decide +kernel
theorem DM_X8_saintSize_1 : decode (mC M_X8_saintSize) 1 = .ok (.getfield 25, 3) := by decide +kernel
theorem DM_X8_saintSize_4 : decode (mC M_X8_saintSize) 4 = .ok (.iload_n 1, 1) := by decide +kernel
theorem DM_X8_saintSize_5 : decode (mC M_X8_saintSize) 5 = .ok (.iconst 0, 1) := by decide +kernel
theorem DM_X8_saintSize_6 : decode (mC M_X8_saintSize) 6 = .ok (.invokestatic 158, 3) := by decide +kernel
theorem DM_X8_saintSize_9 : decode (mC M_X8_saintSize) 9 = .ok (.iconst 5, 1) := by decide +kernel
theorem DM_X8_saintSize_10 : decode (mC M_X8_saintSize) 10 = .ok (.if_icmp .ne 7, 3) := by decide +kernel
theorem DM_X8_saintSize_13 : decode (mC M_X8_saintSize) 13 = .ok (.iconst 1, 1) := by decide +kernel
theorem DM_X8_saintSize_14 : decode (mC M_X8_saintSize) 14 = .ok (.goto 4, 3) := by decide +kernel
theorem DM_X8_saintSize_17 : decode (mC M_X8_saintSize) 17 = .ok (.iconst 0, 1) := by decide +kernel
theorem DM_X8_saintSize_18 : decode (mC M_X8_saintSize) 18 = .ok (.istore_n 2, 1) := by decide +kernel
theorem DM_X8_saintSize_19 : decode (mC M_X8_saintSize) 19 = .ok (.iload_n 2, 1) := by decide +kernel
theorem DM_X8_saintSize_20 : decode (mC M_X8_saintSize) 20 = .ok (.ifCond .eq 9, 3) := by decide +kernel
theorem DM_X8_saintSize_23 : decode (mC M_X8_saintSize) 23 = .ok (.aload_n 0, 1) := by decide +kernel
theorem DM_X8_saintSize_24 : decode (mC M_X8_saintSize) 24 = .ok (.bipush 14, 2) := by decide +kernel
theorem DM_X8_saintSize_26 : decode (mC M_X8_saintSize) 26 = .ok (.invokevirtual 251, 3) := by decide +kernel
theorem DM_X8_saintSize_29 : decode (mC M_X8_saintSize) 29 = .ok (.aload_n 0, 1) := by decide +kernel
theorem DM_X8_saintSize_30 : decode (mC M_X8_saintSize) 30 = .ok (.bipush 13, 2) := by decide +kernel
theorem DM_X8_saintSize_32 : decode (mC M_X8_saintSize) 32 = .ok (.invokevirtual 251, 3) := by decide +kernel
theorem DM_X8_saintSize_35 : decode (mC M_X8_saintSize) 35 = .ok (.aload_n 0, 1) := by decide +kernel
theorem DM_X8_saintSize_36 : decode (mC M_X8_saintSize) 36 = .ok (.bipush 10, 2) := by decide +kernel
theorem DM_X8_saintSize_38 : decode (mC M_X8_saintSize) 38 = .ok (.invokevirtual 251, 3) := by decide +kernel
theorem DM_X8_saintSize_41 : decode (mC M_X8_saintSize) 41 = .ok (.aload_n 0, 1) := by decide +kernel
theorem DM_X8_saintSize_42 : decode (mC M_X8_saintSize) 42 = .ok (.getfield 25, 3) := by decide +kernel
theorem DM_X8_saintSize_45 : decode (mC M_X8_saintSize) 45 = .ok (.iload_n 1, 1) := by decide +kernel
theorem DM_X8_saintSize_46 : decode (mC M_X8_saintSize) 46 = .ok (.iconst 1, 1) := by decide +kernel
theorem DM_X8_saintSize_47 : decode (mC M_X8_saintSize) 47 = .ok (.invokestatic 158, 3) := by decide +kernel
theorem DM_X8_saintSize_50 : decode (mC M_X8_saintSize) 50 = .ok (.bipush 100, 2) := by decide +kernel
theorem DM_X8_saintSize_52 : decode (mC M_X8_saintSize) 52 = .ok (.isub, 1) := by decide +kernel
theorem DM_X8_saintSize_53 : decode (mC M_X8_saintSize) 53 = .ok (.istore_n 3, 1) := by decide +kernel
theorem DM_X8_saintSize_54 : decode (mC M_X8_saintSize) 54 = .ok (.iload_n 2, 1) := by decide +kernel
theorem DM_X8_saintSize_55 : decode (mC M_X8_saintSize) 55 = .ok (.ifCond .eq 9, 3) := by decide +kernel
theorem DM_X8_saintSize_58 : decode (mC M_X8_saintSize) 58 = .ok (.iconst 2, 1) := by decide +kernel
theorem DM_X8_saintSize_59 : decode (mC M_X8_saintSize) 59 = .ok (.iload_n 3, 1) := by decide +kernel
theorem DM_X8_saintSize_60 : decode (mC M_X8_saintSize) 60 = .ok (.imul, 1) := by decide +kernel
theorem DM_X8_saintSize_61 : decode (mC M_X8_saintSize) 61 = .ok (.goto 4, 3) := by decide +kernel
theorem DM_X8_saintSize_64 : decode (mC M_X8_saintSize) 64 = .ok (.iload_n 3, 1) := by decide +kernel
theorem DM_X8_saintSize_65 : decode (mC M_X8_saintSize) 65 = .ok (.ireturn, 1) := by decide +kernel
theorem DM_X8_plainSize_0 : decode (mC M_X8_plainSize) 0 = .ok (.aload_n 0, 1) := by decide +kernel
theorem DM_X8_plainSize_1 : decode (mC M_X8_plainSize) 1 = .ok (.getfield 25, 3) := by decide +kernel
theorem DM_X8_plainSize_4 : decode (mC M_X8_plainSize) 4 = .ok (.iload_n 1, 1) := by decide +kernel
theorem DM_X8_plainSize_5 : decode (mC M_X8_plainSize) 5 = .ok (.iconst 0, 1) := by decide +kernel
theorem DM_X8_plainSize_6 : decode (mC M_X8_plainSize) 6 = .ok (.invokestatic 158, 3) := by decide +kernel
theorem DM_X8_plainSize_9 : decode (mC M_X8_plainSize) 9 = .ok (.iconst 2, 1) := by decide +kernel
theorem DM_X8_plainSize_10 : decode (mC M_X8_plainSize) 10 = .ok (.if_icmp .ne 7, 3) := by decide +kernel
theorem DM_X8_plainSize_13 : decode (mC M_X8_plainSize) 13 = .ok (.iconst 1, 1) := by decide +kernel
theorem DM_X8_plainSize_14 : decode (mC M_X8_plainSize) 14 = .ok (.goto 4, 3) := by decide +kernel
theorem DM_X8_plainSize_17 : decode (mC M_X8_plainSize) 17 = .ok (.iconst 0, 1) := by decide +kernel
theorem DM_X8_plainSize_18 : decode (mC M_X8_plainSize) 18 = .ok (.istore_n 2, 1) := by decide +kernel
theorem DM_X8_plainSize_19 : decode (mC M_X8_plainSize) 19 = .ok (.iload_n 2, 1) := by decide +kernel
theorem DM_X8_plainSize_20 : decode (mC M_X8_plainSize) 20 = .ok (.ifCond .eq 9, 3) := by decide +kernel
theorem DM_X8_plainSize_23 : decode (mC M_X8_plainSize) 23 = .ok (.aload_n 0, 1) := by decide +kernel
theorem DM_X8_plainSize_24 : decode (mC M_X8_plainSize) 24 = .ok (.bipush 12, 2) := by decide +kernel
theorem DM_X8_plainSize_26 : decode (mC M_X8_plainSize) 26 = .ok (.invokevirtual 251, 3) := by decide +kernel
theorem DM_X8_plainSize_29 : decode (mC M_X8_plainSize) 29 = .ok (.aload_n 0, 1) := by decide +kernel
theorem DM_X8_plainSize_30 : decode (mC M_X8_plainSize) 30 = .ok (.bipush 11, 2) := by decide +kernel
theorem DM_X8_plainSize_32 : decode (mC M_X8_plainSize) 32 = .ok (.invokevirtual 251, 3) := by decide +kernel
theorem DM_X8_plainSize_35 : decode (mC M_X8_plainSize) 35 = .ok (.aload_n 0, 1) := by decide +kernel
theorem DM_X8_plainSize_36 : decode (mC M_X8_plainSize) 36 = .ok (.bipush 10, 2) := by decide +kernel
theorem DM_X8_plainSize_38 : decode (mC M_X8_plainSize) 38 = .ok (.invokevirtual 251, 3) := by decide +kernel
theorem DM_X8_plainSize_41 : decode (mC M_X8_plainSize) 41 = .ok (.aload_n 0, 1) := by decide +kernel
theorem DM_X8_plainSize_42 : decode (mC M_X8_plainSize) 42 = .ok (.getfield 25, 3) := by decide +kernel
theorem DM_X8_plainSize_45 : decode (mC M_X8_plainSize) 45 = .ok (.iload_n 1, 1) := by decide +kernel
theorem DM_X8_plainSize_46 : decode (mC M_X8_plainSize) 46 = .ok (.iconst 1, 1) := by decide +kernel
theorem DM_X8_plainSize_47 : decode (mC M_X8_plainSize) 47 = .ok (.invokestatic 158, 3) := by decide +kernel
theorem DM_X8_plainSize_50 : decode (mC M_X8_plainSize) 50 = .ok (.aload_n 0, 1) := by decide +kernel
theorem DM_X8_plainSize_51 : decode (mC M_X8_plainSize) 51 = .ok (.iload_n 1, 1) := by decide +kernel
theorem DM_X8_plainSize_52 : decode (mC M_X8_plainSize) 52 = .ok (.invokevirtual 254, 3) := by decide +kernel
theorem DM_X8_plainSize_55 : decode (mC M_X8_plainSize) 55 = .ok (.iadd, 1) := by decide +kernel
theorem DM_X8_plainSize_56 : decode (mC M_X8_plainSize) 56 = .ok (.istore_n 3, 1) := by decide +kernel
theorem DM_X8_plainSize_57 : decode (mC M_X8_plainSize) 57 = .ok (.iload_n 2, 1) := by decide +kernel
theorem DM_X8_plainSize_58 : decode (mC M_X8_plainSize) 58 = .ok (.ifCond .eq 8, 3) := by decide +kernel
theorem DM_X8_plainSize_61 : decode (mC M_X8_plainSize) 61 = .ok (.iload_n 3, 1) := by decide +kernel
theorem DM_X8_plainSize_62 : decode (mC M_X8_plainSize) 62 = .ok (.ineg, 1) := by decide +kernel
theorem DM_X8_plainSize_63 : decode (mC M_X8_plainSize) 63 = .ok (.goto 4, 3) := by decide +kernel
theorem DM_X8_plainSize_66 : decode (mC M_X8_plainSize) 66 = .ok (.iload_n 3, 1) := by decide +kernel
theorem DM_X8_plainSize_67 : decode (mC M_X8_plainSize) 67 = .ok (.ireturn, 1) := by decide +kernel
theorem DM_X8_saintMark_0 : decode (mC M_X8_saintMark) 0 = .ok (.aload_n 0, 1) := by decide +kernel
theorem DM_X8_saintMark_1 : decode (mC M_X8_saintMark) 1 = .ok (.bipush 23, 2) := by decide +kernel
theorem DM_X8_saintMark_3 : decode (mC M_X8_saintMark) 3 = .ok (.invokevirtual 251, 3) := by decide +kernel
theorem DM_X8_saintMark_6 : decode (mC M_X8_saintMark) 6 = .ok (.aload_n 0, 1) := by decide +kernel
theorem DM_X8_saintMark_7 : decode (mC M_X8_saintMark) 7 = .ok (.bipush 20, 2) := by decide +kernel
theorem DM_X8_saintMark_9 : decode (mC M_X8_saintMark) 9 = .ok (.invokevirtual 251, 3) := by decide +kernel
theorem DM_X8_saintMark_12 : decode (mC M_X8_saintMark) 12 = .ok (.iload_n 1, 1) := by decide +kernel
theorem DM_X8_saintMark_13 : decode (mC M_X8_saintMark) 13 = .ok (.aload_n 0, 1) := by decide +kernel
theorem DM_X8_saintMark_14 : decode (mC M_X8_saintMark) 14 = .ok (.iload_n 1, 1) := by decide +kernel
theorem DM_X8_saintMark_15 : decode (mC M_X8_saintMark) 15 = .ok (.invokevirtual 257, 3) := by decide +kernel
theorem DM_X8_saintMark_18 : decode (mC M_X8_saintMark) 18 = .ok (.isub, 1) := by decide +kernel
theorem DM_X8_saintMark_19 : decode (mC M_X8_saintMark) 19 = .ok (.ireturn, 1) := by decide +kernel
theorem DM_X8_ask_0 : decode (mC M_X8_ask) 0 = .ok (.aload_n 0, 1) := by decide +kernel
theorem DM_X8_ask_1 : decode (mC M_X8_ask) 1 = .ok (.iload_n 1, 1) := by decide +kernel
theorem DM_X8_ask_2 : decode (mC M_X8_ask) 2 = .ok (.invokevirtual 210, 3) := by decide +kernel
theorem DM_X8_ask_5 : decode (mC M_X8_ask) 5 = .ok (.ifCond .eq 12, 3) := by decide +kernel
theorem DM_X8_ask_8 : decode (mC M_X8_ask) 8 = .ok (.iload_n 2, 1) := by decide +kernel
theorem DM_X8_ask_9 : decode (mC M_X8_ask) 9 = .ok (.iconst 0, 1) := by decide +kernel
theorem DM_X8_ask_10 : decode (mC M_X8_ask) 10 = .ok (.iconst 1, 1) := by decide +kernel
theorem DM_X8_ask_11 : decode (mC M_X8_ask) 11 = .ok (.invokestatic 65, 3) := by decide +kernel
theorem DM_X8_ask_14 : decode (mC M_X8_ask) 14 = .ok (.ifCond .ne 6, 3) := by decide +kernel
theorem DM_X8_ask_17 : decode (mC M_X8_ask) 17 = .ok (.ldc 73, 2) := by decide +kernel
theorem DM_X8_ask_19 : decode (mC M_X8_ask) 19 = .ok (.ireturn, 1) := by decide +kernel
theorem DM_X8_ask_20 : decode (mC M_X8_ask) 20 = .ok (.aload_n 0, 1) := by decide +kernel
theorem DM_X8_ask_21 : decode (mC M_X8_ask) 21 = .ok (.iconst 0, 1) := by decide +kernel
theorem DM_X8_ask_22 : decode (mC M_X8_ask) 22 = .ok (.putfield 248, 3) := by decide +kernel
theorem DM_X8_ask_25 : decode (mC M_X8_ask) 25 = .ok (.aload_n 0, 1) := by decide +kernel
theorem DM_X8_ask_26 : decode (mC M_X8_ask) 26 = .ok (.getfield 25, 3) := by decide +kernel
theorem DM_X8_ask_29 : decode (mC M_X8_ask) 29 = .ok (.iload_n 1, 1) := by decide +kernel
theorem DM_X8_ask_30 : decode (mC M_X8_ask) 30 = .ok (.iconst 0, 1) := by decide +kernel
theorem DM_X8_ask_31 : decode (mC M_X8_ask) 31 = .ok (.invokestatic 158, 3) := by decide +kernel
theorem DM_X8_ask_34 : decode (mC M_X8_ask) 34 = .ok (.iconst 4, 1) := by decide +kernel
theorem DM_X8_ask_35 : decode (mC M_X8_ask) 35 = .ok (.if_icmp .lt 7, 3) := by decide +kernel
theorem DM_X8_ask_38 : decode (mC M_X8_ask) 38 = .ok (.iconst 1, 1) := by decide +kernel
theorem DM_X8_ask_39 : decode (mC M_X8_ask) 39 = .ok (.goto 4, 3) := by decide +kernel
theorem DM_X8_ask_42 : decode (mC M_X8_ask) 42 = .ok (.iconst 0, 1) := by decide +kernel
theorem DM_X8_ask_43 : decode (mC M_X8_ask) 43 = .ok (.istore_n 3, 1) := by decide +kernel
theorem DM_X8_ask_44 : decode (mC M_X8_ask) 44 = .ok (.iload_n 2, 1) := by decide +kernel
theorem DM_X8_ask_45 : decode (mC M_X8_ask) 45 = .ok (.ifCond .ne 21, 3) := by decide +kernel
theorem DM_X8_ask_48 : decode (mC M_X8_ask) 48 = .ok (.iload_n 3, 1) := by decide +kernel
theorem DM_X8_ask_49 : decode (mC M_X8_ask) 49 = .ok (.ifCond .eq 11, 3) := by decide +kernel
theorem DM_X8_ask_52 : decode (mC M_X8_ask) 52 = .ok (.aload_n 0, 1) := by decide +kernel
theorem DM_X8_ask_53 : decode (mC M_X8_ask) 53 = .ok (.iload_n 1, 1) := by decide +kernel
theorem DM_X8_ask_54 : decode (mC M_X8_ask) 54 = .ok (.invokevirtual 257, 3) := by decide +kernel
theorem DM_X8_ask_57 : decode (mC M_X8_ask) 57 = .ok (.goto 8, 3) := by decide +kernel
theorem DM_X8_ask_60 : decode (mC M_X8_ask) 60 = .ok (.aload_n 0, 1) := by decide +kernel
theorem DM_X8_ask_61 : decode (mC M_X8_ask) 61 = .ok (.iload_n 1, 1) := by decide +kernel
theorem DM_X8_ask_62 : decode (mC M_X8_ask) 62 = .ok (.invokevirtual 260, 3) := by decide +kernel
theorem DM_X8_ask_65 : decode (mC M_X8_ask) 65 = .ok (.ireturn, 1) := by decide +kernel
theorem DM_X8_ask_66 : decode (mC M_X8_ask) 66 = .ok (.iload_n 3, 1) := by decide +kernel
theorem DM_X8_ask_67 : decode (mC M_X8_ask) 67 = .ok (.ifCond .eq 11, 3) := by decide +kernel
theorem DM_X8_ask_70 : decode (mC M_X8_ask) 70 = .ok (.aload_n 0, 1) := by decide +kernel
theorem DM_X8_ask_71 : decode (mC M_X8_ask) 71 = .ok (.iload_n 1, 1) := by decide +kernel
theorem DM_X8_ask_72 : decode (mC M_X8_ask) 72 = .ok (.invokevirtual 263, 3) := by decide +kernel
theorem DM_X8_ask_75 : decode (mC M_X8_ask) 75 = .ok (.goto 8, 3) := by decide +kernel
theorem DM_X8_ask_78 : decode (mC M_X8_ask) 78 = .ok (.aload_n 0, 1) := by decide +kernel
theorem DM_X8_ask_79 : decode (mC M_X8_ask) 79 = .ok (.iload_n 1, 1) := by decide +kernel
theorem DM_X8_ask_80 : decode (mC M_X8_ask) 80 = .ok (.invokevirtual 254, 3) := by decide +kernel
theorem DM_X8_ask_83 : decode (mC M_X8_ask) 83 = .ok (.ireturn, 1) := by decide +kernel
theorem DM_X8_trace_0 : decode (mC M_X8_trace) 0 = .ok (.iload_n 1, 1) := by decide +kernel
theorem DM_X8_trace_1 : decode (mC M_X8_trace) 1 = .ok (.iconst 0, 1) := by decide +kernel
theorem DM_X8_trace_2 : decode (mC M_X8_trace) 2 = .ok (.aload_n 0, 1) := by decide +kernel
theorem DM_X8_trace_3 : decode (mC M_X8_trace) 3 = .ok (.getfield 248, 3) := by decide +kernel
theorem DM_X8_trace_6 : decode (mC M_X8_trace) 6 = .ok (.iconst 1, 1) := by decide +kernel
theorem DM_X8_trace_7 : decode (mC M_X8_trace) 7 = .ok (.isub, 1) := by decide +kernel
theorem DM_X8_trace_8 : decode (mC M_X8_trace) 8 = .ok (.invokestatic 65, 3) := by decide +kernel
theorem DM_X8_trace_11 : decode (mC M_X8_trace) 11 = .ok (.ifCond .eq 12, 3) := by decide +kernel
theorem DM_X8_trace_14 : decode (mC M_X8_trace) 14 = .ok (.aload_n 0, 1) := by decide +kernel
theorem DM_X8_trace_15 : decode (mC M_X8_trace) 15 = .ok (.getfield 44, 3) := by decide +kernel
theorem DM_X8_trace_18 : decode (mC M_X8_trace) 18 = .ok (.iload_n 1, 1) := by decide +kernel
theorem DM_X8_trace_19 : decode (mC M_X8_trace) 19 = .ok (.iaload, 1) := by decide +kernel
theorem DM_X8_trace_20 : decode (mC M_X8_trace) 20 = .ok (.goto 5, 3) := by decide +kernel
theorem DM_X8_trace_23 : decode (mC M_X8_trace) 23 = .ok (.ldc 59, 2) := by decide +kernel
theorem DM_X8_trace_25 : decode (mC M_X8_trace) 25 = .ok (.ireturn, 1) := by decide +kernel
theorem DM_X8_count_0 : decode (mC M_X8_count) 0 = .ok (.iload_n 1, 1) := by decide +kernel
theorem DM_X8_count_1 : decode (mC M_X8_count) 1 = .ok (.ifCond .ne 37, 3) := by decide +kernel
theorem DM_X8_count_4 : decode (mC M_X8_count) 4 = .ok (.iconst 0, 1) := by decide +kernel
theorem DM_X8_count_5 : decode (mC M_X8_count) 5 = .ok (.istore_n 2, 1) := by decide +kernel
theorem DM_X8_count_6 : decode (mC M_X8_count) 6 = .ok (.iconst 0, 1) := by decide +kernel
theorem DM_X8_count_7 : decode (mC M_X8_count) 7 = .ok (.istore_n 3, 1) := by decide +kernel
theorem DM_X8_count_8 : decode (mC M_X8_count) 8 = .ok (.iload_n 3, 1) := by decide +kernel
theorem DM_X8_count_9 : decode (mC M_X8_count) 9 = .ok (.bipush 8, 2) := by decide +kernel
theorem DM_X8_count_11 : decode (mC M_X8_count) 11 = .ok (.if_icmp .ge 25, 3) := by decide +kernel
theorem DM_X8_count_14 : decode (mC M_X8_count) 14 = .ok (.iload_n 2, 1) := by decide +kernel
theorem DM_X8_count_15 : decode (mC M_X8_count) 15 = .ok (.aload_n 0, 1) := by decide +kernel
theorem DM_X8_count_16 : decode (mC M_X8_count) 16 = .ok (.iload_n 3, 1) := by decide +kernel
theorem DM_X8_count_17 : decode (mC M_X8_count) 17 = .ok (.invokevirtual 81, 3) := by decide +kernel
theorem DM_X8_count_20 : decode (mC M_X8_count) 20 = .ok (.ifCond .eq 7, 3) := by decide +kernel
theorem DM_X8_count_23 : decode (mC M_X8_count) 23 = .ok (.iconst 0, 1) := by decide +kernel
theorem DM_X8_count_24 : decode (mC M_X8_count) 24 = .ok (.goto 4, 3) := by decide +kernel
theorem DM_X8_count_27 : decode (mC M_X8_count) 27 = .ok (.iconst 1, 1) := by decide +kernel
theorem DM_X8_count_28 : decode (mC M_X8_count) 28 = .ok (.iadd, 1) := by decide +kernel
theorem DM_X8_count_29 : decode (mC M_X8_count) 29 = .ok (.istore_n 2, 1) := by decide +kernel
theorem DM_X8_count_30 : decode (mC M_X8_count) 30 = .ok (.iinc 3 1, 3) := by decide +kernel
theorem DM_X8_count_33 : decode (mC M_X8_count) 33 = .ok (.goto (-25), 3) := by decide +kernel
theorem DM_X8_count_36 : decode (mC M_X8_count) 36 = .ok (.iload_n 2, 1) := by decide +kernel
theorem DM_X8_count_37 : decode (mC M_X8_count) 37 = .ok (.ireturn, 1) := by decide +kernel
theorem DM_X8_count_38 : decode (mC M_X8_count) 38 = .ok (.iload_n 1, 1) := by decide +kernel
theorem DM_X8_count_39 : decode (mC M_X8_count) 39 = .ok (.iconst 1, 1) := by decide +kernel
theorem DM_X8_count_40 : decode (mC M_X8_count) 40 = .ok (.bipush 9, 2) := by decide +kernel
theorem DM_X8_count_42 : decode (mC M_X8_count) 42 = .ok (.invokestatic 65, 3) := by decide +kernel
theorem DM_X8_count_45 : decode (mC M_X8_count) 45 = .ok (.ifCond .ne 6, 3) := by decide +kernel
theorem DM_X8_count_48 : decode (mC M_X8_count) 48 = .ok (.ldc 73, 2) := by decide +kernel
theorem DM_X8_count_50 : decode (mC M_X8_count) 50 = .ok (.ireturn, 1) := by decide +kernel
theorem DM_X8_count_51 : decode (mC M_X8_count) 51 = .ok (.iload_n 1, 1) := by decide +kernel
theorem DM_X8_count_52 : decode (mC M_X8_count) 52 = .ok (.iconst 1, 1) := by decide +kernel
theorem DM_X8_count_53 : decode (mC M_X8_count) 53 = .ok (.if_icmp .ne 12, 3) := by decide +kernel
theorem DM_X8_count_56 : decode (mC M_X8_count) 56 = .ok (.aload_n 0, 1) := by decide +kernel
theorem DM_X8_count_57 : decode (mC M_X8_count) 57 = .ok (.getfield 25, 3) := by decide +kernel
theorem DM_X8_count_60 : decode (mC M_X8_count) 60 = .ok (.iconst 2, 1) := by decide +kernel
theorem DM_X8_count_61 : decode (mC M_X8_count) 61 = .ok (.iaload, 1) := by decide +kernel
theorem DM_X8_count_62 : decode (mC M_X8_count) 62 = .ok (.goto 110, 3) := by decide +kernel
theorem DM_X8_count_65 : decode (mC M_X8_count) 65 = .ok (.iload_n 1, 1) := by decide +kernel
theorem DM_X8_count_66 : decode (mC M_X8_count) 66 = .ok (.iconst 2, 1) := by decide +kernel
theorem DM_X8_count_67 : decode (mC M_X8_count) 67 = .ok (.if_icmp .ne 12, 3) := by decide +kernel
theorem DM_X8_count_70 : decode (mC M_X8_count) 70 = .ok (.aload_n 0, 1) := by decide +kernel
theorem DM_X8_count_71 : decode (mC M_X8_count) 71 = .ok (.getfield 25, 3) := by decide +kernel
theorem DM_X8_count_74 : decode (mC M_X8_count) 74 = .ok (.iconst 0, 1) := by decide +kernel
theorem DM_X8_count_75 : decode (mC M_X8_count) 75 = .ok (.iaload, 1) := by decide +kernel
theorem DM_X8_count_76 : decode (mC M_X8_count) 76 = .ok (.goto 96, 3) := by decide +kernel
theorem DM_X8_count_79 : decode (mC M_X8_count) 79 = .ok (.iload_n 1, 1) := by decide +kernel
theorem DM_X8_count_80 : decode (mC M_X8_count) 80 = .ok (.iconst 3, 1) := by decide +kernel
theorem DM_X8_count_81 : decode (mC M_X8_count) 81 = .ok (.if_icmp .ne 12, 3) := by decide +kernel
theorem DM_X8_count_84 : decode (mC M_X8_count) 84 = .ok (.aload_n 0, 1) := by decide +kernel
theorem DM_X8_count_85 : decode (mC M_X8_count) 85 = .ok (.getfield 25, 3) := by decide +kernel
theorem DM_X8_count_88 : decode (mC M_X8_count) 88 = .ok (.iconst 1, 1) := by decide +kernel
theorem DM_X8_count_89 : decode (mC M_X8_count) 89 = .ok (.iaload, 1) := by decide +kernel
theorem DM_X8_count_90 : decode (mC M_X8_count) 90 = .ok (.goto 82, 3) := by decide +kernel
theorem DM_X8_count_93 : decode (mC M_X8_count) 93 = .ok (.iload_n 1, 1) := by decide +kernel
theorem DM_X8_count_94 : decode (mC M_X8_count) 94 = .ok (.iconst 4, 1) := by decide +kernel
theorem DM_X8_count_95 : decode (mC M_X8_count) 95 = .ok (.if_icmp .ne 12, 3) := by decide +kernel
theorem DM_X8_count_98 : decode (mC M_X8_count) 98 = .ok (.aload_n 0, 1) := by decide +kernel
theorem DM_X8_count_99 : decode (mC M_X8_count) 99 = .ok (.getfield 25, 3) := by decide +kernel
theorem DM_X8_count_102 : decode (mC M_X8_count) 102 = .ok (.iconst 3, 1) := by decide +kernel
theorem DM_X8_count_103 : decode (mC M_X8_count) 103 = .ok (.iaload, 1) := by decide +kernel
theorem DM_X8_count_104 : decode (mC M_X8_count) 104 = .ok (.goto 68, 3) := by decide +kernel
theorem DM_X8_count_107 : decode (mC M_X8_count) 107 = .ok (.iload_n 1, 1) := by decide +kernel
theorem DM_X8_count_108 : decode (mC M_X8_count) 108 = .ok (.iconst 5, 1) := by decide +kernel
theorem DM_X8_count_109 : decode (mC M_X8_count) 109 = .ok (.if_icmp .ne 14, 3) := by decide +kernel
theorem DM_X8_count_112 : decode (mC M_X8_count) 112 = .ok (.aload_n 0, 1) := by decide +kernel
theorem DM_X8_count_113 : decode (mC M_X8_count) 113 = .ok (.getfield 25, 3) := by decide +kernel
theorem DM_X8_count_116 : decode (mC M_X8_count) 116 = .ok (.iconst 0, 1) := by decide +kernel
theorem DM_X8_count_117 : decode (mC M_X8_count) 117 = .ok (.invokestatic 193, 3) := by decide +kernel
theorem DM_X8_count_120 : decode (mC M_X8_count) 120 = .ok (.goto 52, 3) := by decide +kernel
theorem DM_X8_count_123 : decode (mC M_X8_count) 123 = .ok (.iload_n 1, 1) := by decide +kernel
theorem DM_X8_count_124 : decode (mC M_X8_count) 124 = .ok (.bipush 6, 2) := by decide +kernel
theorem DM_X8_count_126 : decode (mC M_X8_count) 126 = .ok (.if_icmp .ne 14, 3) := by decide +kernel
theorem DM_X8_count_129 : decode (mC M_X8_count) 129 = .ok (.aload_n 0, 1) := by decide +kernel
theorem DM_X8_count_130 : decode (mC M_X8_count) 130 = .ok (.getfield 25, 3) := by decide +kernel
theorem DM_X8_count_133 : decode (mC M_X8_count) 133 = .ok (.iconst 1, 1) := by decide +kernel
theorem DM_X8_count_134 : decode (mC M_X8_count) 134 = .ok (.invokestatic 193, 3) := by decide +kernel
theorem DM_X8_count_137 : decode (mC M_X8_count) 137 = .ok (.goto 35, 3) := by decide +kernel
theorem DM_X8_count_140 : decode (mC M_X8_count) 140 = .ok (.iload_n 1, 1) := by decide +kernel
theorem DM_X8_count_141 : decode (mC M_X8_count) 141 = .ok (.bipush 7, 2) := by decide +kernel
theorem DM_X8_count_143 : decode (mC M_X8_count) 143 = .ok (.if_icmp .ne 12, 3) := by decide +kernel
theorem DM_X8_count_146 : decode (mC M_X8_count) 146 = .ok (.aload_n 0, 1) := by decide +kernel
theorem DM_X8_count_147 : decode (mC M_X8_count) 147 = .ok (.getfield 25, 3) := by decide +kernel
theorem DM_X8_count_150 : decode (mC M_X8_count) 150 = .ok (.iconst 4, 1) := by decide +kernel
theorem DM_X8_count_151 : decode (mC M_X8_count) 151 = .ok (.iaload, 1) := by decide +kernel
theorem DM_X8_count_152 : decode (mC M_X8_count) 152 = .ok (.goto 20, 3) := by decide +kernel
theorem DM_X8_count_155 : decode (mC M_X8_count) 155 = .ok (.iload_n 1, 1) := by decide +kernel
theorem DM_X8_count_156 : decode (mC M_X8_count) 156 = .ok (.bipush 8, 2) := by decide +kernel
theorem DM_X8_count_158 : decode (mC M_X8_count) 158 = .ok (.if_icmp .ne 10, 3) := by decide +kernel
theorem DM_X8_count_161 : decode (mC M_X8_count) 161 = .ok (.aload_n 0, 1) := by decide +kernel
theorem DM_X8_count_162 : decode (mC M_X8_count) 162 = .ok (.getfield 155, 3) := by decide +kernel
theorem DM_X8_count_165 : decode (mC M_X8_count) 165 = .ok (.goto 7, 3) := by decide +kernel
theorem DM_X8_count_168 : decode (mC M_X8_count) 168 = .ok (.aload_n 0, 1) := by decide +kernel
theorem DM_X8_count_169 : decode (mC M_X8_count) 169 = .ok (.getfield 91, 3) := by decide +kernel
theorem DM_X8_count_172 : decode (mC M_X8_count) 172 = .ok (.ireturn, 1) := by decide +kernel
theorem DM_X8_status_0 : decode (mC M_X8_status) 0 = .ok (.aload_n 0, 1) := by decide +kernel
theorem DM_X8_status_1 : decode (mC M_X8_status) 1 = .ok (.getfield 60, 3) := by decide +kernel
theorem DM_X8_status_4 : decode (mC M_X8_status) 4 = .ok (.ireturn, 1) := by decide +kernel
theorem DM_law_0 : decode (mC M_law) 0 = .ok (.new 7, 3) := by decide +kernel
theorem DM_law_3 : decode (mC M_law) 3 = .ok (.dup, 1) := by decide +kernel
theorem DM_law_4 : decode (mC M_law) 4 = .ok (.invokespecial 9, 3) := by decide +kernel
theorem DM_law_7 : decode (mC M_law) 7 = .ok (.astore_n 1, 1) := by decide +kernel
theorem DM_law_8 : decode (mC M_law) 8 = .ok (.new 10, 3) := by decide +kernel
theorem DM_law_11 : decode (mC M_law) 11 = .ok (.dup, 1) := by decide +kernel
theorem DM_law_12 : decode (mC M_law) 12 = .ok (.invokespecial 12, 3) := by decide +kernel
theorem DM_law_15 : decode (mC M_law) 15 = .ok (.astore_n 2, 1) := by decide +kernel
theorem DM_law_16 : decode (mC M_law) 16 = .ok (.iconst 0, 1) := by decide +kernel
theorem DM_law_17 : decode (mC M_law) 17 = .ok (.istore_n 3, 1) := by decide +kernel
theorem DM_law_18 : decode (mC M_law) 18 = .ok (.iload_n 3, 1) := by decide +kernel
theorem DM_law_19 : decode (mC M_law) 19 = .ok (.aload_n 0, 1) := by decide +kernel
theorem DM_law_20 : decode (mC M_law) 20 = .ok (.arraylength, 1) := by decide +kernel
theorem DM_law_21 : decode (mC M_law) 21 = .ok (.bipush 6, 2) := by decide +kernel
theorem DM_law_23 : decode (mC M_law) 23 = .ok (.isub, 1) := by decide +kernel
theorem DM_law_24 : decode (mC M_law) 24 = .ok (.if_icmp .gt 953, 3) := by decide +kernel
theorem DM_law_27 : decode (mC M_law) 27 = .ok (.aload_n 0, 1) := by decide +kernel
theorem DM_law_28 : decode (mC M_law) 28 = .ok (.iload_n 3, 1) := by decide +kernel
theorem DM_law_29 : decode (mC M_law) 29 = .ok (.iaload, 1) := by decide +kernel
theorem DM_law_30 : decode (mC M_law) 30 = .ok (.bipush 31, 2) := by decide +kernel
theorem DM_law_32 : decode (mC M_law) 32 = .ok (.iand, 1) := by decide +kernel
theorem DM_law_33 : decode (mC M_law) 33 = .ok (.tableswitch 938 0 28 #[131, 174, 217, 280, 303, 326, 339, 352, 375, 418, 451, 464, 497, 530, 553, 586, 599, 632, 655, 678, 701, 744, 767, 790, 813, 846, 879, 902, 925], 131) := by decide +kernel
theorem DM_law_164 : decode (mC M_law) 164 = .ok (.aload_n 1, 1) := by decide +kernel
theorem DM_law_165 : decode (mC M_law) 165 = .ok (.aload_n 0, 1) := by decide +kernel
theorem DM_law_166 : decode (mC M_law) 166 = .ok (.iload_n 3, 1) := by decide +kernel
theorem DM_law_167 : decode (mC M_law) 167 = .ok (.iconst 1, 1) := by decide +kernel
theorem DM_law_168 : decode (mC M_law) 168 = .ok (.iadd, 1) := by decide +kernel
theorem DM_law_169 : decode (mC M_law) 169 = .ok (.iaload, 1) := by decide +kernel
theorem DM_law_170 : decode (mC M_law) 170 = .ok (.aload_n 0, 1) := by decide +kernel
theorem DM_law_171 : decode (mC M_law) 171 = .ok (.iload_n 3, 1) := by decide +kernel
theorem DM_law_172 : decode (mC M_law) 172 = .ok (.iconst 2, 1) := by decide +kernel
theorem DM_law_173 : decode (mC M_law) 173 = .ok (.iadd, 1) := by decide +kernel
theorem DM_law_174 : decode (mC M_law) 174 = .ok (.iaload, 1) := by decide +kernel
theorem DM_law_175 : decode (mC M_law) 175 = .ok (.aload_n 0, 1) := by decide +kernel
theorem DM_law_176 : decode (mC M_law) 176 = .ok (.iload_n 3, 1) := by decide +kernel
theorem DM_law_177 : decode (mC M_law) 177 = .ok (.iconst 3, 1) := by decide +kernel
theorem DM_law_178 : decode (mC M_law) 178 = .ok (.iadd, 1) := by decide +kernel
theorem DM_law_179 : decode (mC M_law) 179 = .ok (.iaload, 1) := by decide +kernel
theorem DM_law_180 : decode (mC M_law) 180 = .ok (.invokevirtual 13, 3) := by decide +kernel
theorem DM_law_183 : decode (mC M_law) 183 = .ok (.aload_n 2, 1) := by decide +kernel
theorem DM_law_184 : decode (mC M_law) 184 = .ok (.aload_n 0, 1) := by decide +kernel
theorem DM_law_185 : decode (mC M_law) 185 = .ok (.iload_n 3, 1) := by decide +kernel
theorem DM_law_186 : decode (mC M_law) 186 = .ok (.iconst 1, 1) := by decide +kernel
theorem DM_law_187 : decode (mC M_law) 187 = .ok (.iadd, 1) := by decide +kernel
theorem DM_law_188 : decode (mC M_law) 188 = .ok (.iaload, 1) := by decide +kernel
theorem DM_law_189 : decode (mC M_law) 189 = .ok (.aload_n 0, 1) := by decide +kernel
theorem DM_law_190 : decode (mC M_law) 190 = .ok (.iload_n 3, 1) := by decide +kernel
theorem DM_law_191 : decode (mC M_law) 191 = .ok (.iconst 2, 1) := by decide +kernel
theorem DM_law_192 : decode (mC M_law) 192 = .ok (.iadd, 1) := by decide +kernel
theorem DM_law_193 : decode (mC M_law) 193 = .ok (.iaload, 1) := by decide +kernel
theorem DM_law_194 : decode (mC M_law) 194 = .ok (.aload_n 0, 1) := by decide +kernel
theorem DM_law_195 : decode (mC M_law) 195 = .ok (.iload_n 3, 1) := by decide +kernel
theorem DM_law_196 : decode (mC M_law) 196 = .ok (.iconst 3, 1) := by decide +kernel
theorem DM_law_197 : decode (mC M_law) 197 = .ok (.iadd, 1) := by decide +kernel
theorem DM_law_198 : decode (mC M_law) 198 = .ok (.iaload, 1) := by decide +kernel
theorem DM_law_199 : decode (mC M_law) 199 = .ok (.invokevirtual 17, 3) := by decide +kernel
theorem DM_law_202 : decode (mC M_law) 202 = .ok (.if_icmp .eq 769, 3) := by decide +kernel
theorem DM_law_205 : decode (mC M_law) 205 = .ok (.iconst 0, 1) := by decide +kernel
theorem DM_law_206 : decode (mC M_law) 206 = .ok (.ireturn, 1) := by decide +kernel
theorem DM_law_207 : decode (mC M_law) 207 = .ok (.aload_n 1, 1) := by decide +kernel
theorem DM_law_208 : decode (mC M_law) 208 = .ok (.aload_n 0, 1) := by decide +kernel
theorem DM_law_209 : decode (mC M_law) 209 = .ok (.iload_n 3, 1) := by decide +kernel
theorem DM_law_210 : decode (mC M_law) 210 = .ok (.iconst 1, 1) := by decide +kernel
theorem DM_law_211 : decode (mC M_law) 211 = .ok (.iadd, 1) := by decide +kernel
theorem DM_law_212 : decode (mC M_law) 212 = .ok (.iaload, 1) := by decide +kernel
theorem DM_law_213 : decode (mC M_law) 213 = .ok (.aload_n 0, 1) := by decide +kernel
theorem DM_law_214 : decode (mC M_law) 214 = .ok (.iload_n 3, 1) := by decide +kernel
theorem DM_law_215 : decode (mC M_law) 215 = .ok (.iconst 2, 1) := by decide +kernel
theorem DM_law_216 : decode (mC M_law) 216 = .ok (.iadd, 1) := by decide +kernel
theorem DM_law_217 : decode (mC M_law) 217 = .ok (.iaload, 1) := by decide +kernel
theorem DM_law_218 : decode (mC M_law) 218 = .ok (.aload_n 0, 1) := by decide +kernel
theorem DM_law_219 : decode (mC M_law) 219 = .ok (.iload_n 3, 1) := by decide +kernel
theorem DM_law_220 : decode (mC M_law) 220 = .ok (.iconst 3, 1) := by decide +kernel
theorem DM_law_221 : decode (mC M_law) 221 = .ok (.iadd, 1) := by decide +kernel
theorem DM_law_222 : decode (mC M_law) 222 = .ok (.iaload, 1) := by decide +kernel
theorem DM_law_223 : decode (mC M_law) 223 = .ok (.invokevirtual 18, 3) := by decide +kernel
theorem DM_law_226 : decode (mC M_law) 226 = .ok (.aload_n 2, 1) := by decide +kernel
theorem DM_law_227 : decode (mC M_law) 227 = .ok (.aload_n 0, 1) := by decide +kernel
theorem DM_law_228 : decode (mC M_law) 228 = .ok (.iload_n 3, 1) := by decide +kernel
theorem DM_law_229 : decode (mC M_law) 229 = .ok (.iconst 1, 1) := by decide +kernel
theorem DM_law_230 : decode (mC M_law) 230 = .ok (.iadd, 1) := by decide +kernel
theorem DM_law_231 : decode (mC M_law) 231 = .ok (.iaload, 1) := by decide +kernel
theorem DM_law_232 : decode (mC M_law) 232 = .ok (.aload_n 0, 1) := by decide +kernel
theorem DM_law_233 : decode (mC M_law) 233 = .ok (.iload_n 3, 1) := by decide +kernel
theorem DM_law_234 : decode (mC M_law) 234 = .ok (.iconst 2, 1) := by decide +kernel
theorem DM_law_235 : decode (mC M_law) 235 = .ok (.iadd, 1) := by decide +kernel
theorem DM_law_236 : decode (mC M_law) 236 = .ok (.iaload, 1) := by decide +kernel
theorem DM_law_237 : decode (mC M_law) 237 = .ok (.aload_n 0, 1) := by decide +kernel
theorem DM_law_238 : decode (mC M_law) 238 = .ok (.iload_n 3, 1) := by decide +kernel
theorem DM_law_239 : decode (mC M_law) 239 = .ok (.iconst 3, 1) := by decide +kernel
theorem DM_law_240 : decode (mC M_law) 240 = .ok (.iadd, 1) := by decide +kernel
theorem DM_law_241 : decode (mC M_law) 241 = .ok (.iaload, 1) := by decide +kernel
theorem DM_law_242 : decode (mC M_law) 242 = .ok (.invokevirtual 21, 3) := by decide +kernel
theorem DM_law_245 : decode (mC M_law) 245 = .ok (.if_icmp .eq 726, 3) := by decide +kernel
theorem DM_law_248 : decode (mC M_law) 248 = .ok (.iconst 0, 1) := by decide +kernel
theorem DM_law_249 : decode (mC M_law) 249 = .ok (.ireturn, 1) := by decide +kernel
theorem DM_law_250 : decode (mC M_law) 250 = .ok (.aload_n 1, 1) := by decide +kernel
theorem DM_law_251 : decode (mC M_law) 251 = .ok (.aload_n 0, 1) := by decide +kernel
theorem DM_law_252 : decode (mC M_law) 252 = .ok (.iload_n 3, 1) := by decide +kernel
theorem DM_law_253 : decode (mC M_law) 253 = .ok (.iconst 1, 1) := by decide +kernel
theorem DM_law_254 : decode (mC M_law) 254 = .ok (.iadd, 1) := by decide +kernel
theorem DM_law_255 : decode (mC M_law) 255 = .ok (.iaload, 1) := by decide +kernel
theorem DM_law_256 : decode (mC M_law) 256 = .ok (.aload_n 0, 1) := by decide +kernel
theorem DM_law_257 : decode (mC M_law) 257 = .ok (.iload_n 3, 1) := by decide +kernel
theorem DM_law_258 : decode (mC M_law) 258 = .ok (.iconst 2, 1) := by decide +kernel
theorem DM_law_259 : decode (mC M_law) 259 = .ok (.iadd, 1) := by decide +kernel
theorem DM_law_260 : decode (mC M_law) 260 = .ok (.iaload, 1) := by decide +kernel
theorem DM_law_261 : decode (mC M_law) 261 = .ok (.aload_n 0, 1) := by decide +kernel
theorem DM_law_262 : decode (mC M_law) 262 = .ok (.iload_n 3, 1) := by decide +kernel
theorem DM_law_263 : decode (mC M_law) 263 = .ok (.iconst 3, 1) := by decide +kernel
theorem DM_law_264 : decode (mC M_law) 264 = .ok (.iadd, 1) := by decide +kernel
theorem DM_law_265 : decode (mC M_law) 265 = .ok (.iaload, 1) := by decide +kernel
theorem DM_law_266 : decode (mC M_law) 266 = .ok (.aload_n 0, 1) := by decide +kernel
theorem DM_law_267 : decode (mC M_law) 267 = .ok (.iload_n 3, 1) := by decide +kernel
theorem DM_law_268 : decode (mC M_law) 268 = .ok (.iconst 4, 1) := by decide +kernel
theorem DM_law_269 : decode (mC M_law) 269 = .ok (.iadd, 1) := by decide +kernel
theorem DM_law_270 : decode (mC M_law) 270 = .ok (.iaload, 1) := by decide +kernel
theorem DM_law_271 : decode (mC M_law) 271 = .ok (.aload_n 0, 1) := by decide +kernel
theorem DM_law_272 : decode (mC M_law) 272 = .ok (.iload_n 3, 1) := by decide +kernel
theorem DM_law_273 : decode (mC M_law) 273 = .ok (.iconst 5, 1) := by decide +kernel
theorem DM_law_274 : decode (mC M_law) 274 = .ok (.iadd, 1) := by decide +kernel
theorem DM_law_275 : decode (mC M_law) 275 = .ok (.iaload, 1) := by decide +kernel
theorem DM_law_276 : decode (mC M_law) 276 = .ok (.invokevirtual 22, 3) := by decide +kernel
theorem DM_law_279 : decode (mC M_law) 279 = .ok (.aload_n 2, 1) := by decide +kernel
theorem DM_law_280 : decode (mC M_law) 280 = .ok (.aload_n 0, 1) := by decide +kernel
theorem DM_law_281 : decode (mC M_law) 281 = .ok (.iload_n 3, 1) := by decide +kernel
theorem DM_law_282 : decode (mC M_law) 282 = .ok (.iconst 1, 1) := by decide +kernel
theorem DM_law_283 : decode (mC M_law) 283 = .ok (.iadd, 1) := by decide +kernel
theorem DM_law_284 : decode (mC M_law) 284 = .ok (.iaload, 1) := by decide +kernel
theorem DM_law_285 : decode (mC M_law) 285 = .ok (.aload_n 0, 1) := by decide +kernel
theorem DM_law_286 : decode (mC M_law) 286 = .ok (.iload_n 3, 1) := by decide +kernel
theorem DM_law_287 : decode (mC M_law) 287 = .ok (.iconst 2, 1) := by decide +kernel
theorem DM_law_288 : decode (mC M_law) 288 = .ok (.iadd, 1) := by decide +kernel
theorem DM_law_289 : decode (mC M_law) 289 = .ok (.iaload, 1) := by decide +kernel
theorem DM_law_290 : decode (mC M_law) 290 = .ok (.aload_n 0, 1) := by decide +kernel
theorem DM_law_291 : decode (mC M_law) 291 = .ok (.iload_n 3, 1) := by decide +kernel
theorem DM_law_292 : decode (mC M_law) 292 = .ok (.iconst 3, 1) := by decide +kernel
theorem DM_law_293 : decode (mC M_law) 293 = .ok (.iadd, 1) := by decide +kernel
theorem DM_law_294 : decode (mC M_law) 294 = .ok (.iaload, 1) := by decide +kernel
theorem DM_law_295 : decode (mC M_law) 295 = .ok (.aload_n 0, 1) := by decide +kernel
theorem DM_law_296 : decode (mC M_law) 296 = .ok (.iload_n 3, 1) := by decide +kernel
theorem DM_law_297 : decode (mC M_law) 297 = .ok (.iconst 4, 1) := by decide +kernel
theorem DM_law_298 : decode (mC M_law) 298 = .ok (.iadd, 1) := by decide +kernel
theorem DM_law_299 : decode (mC M_law) 299 = .ok (.iaload, 1) := by decide +kernel
theorem DM_law_300 : decode (mC M_law) 300 = .ok (.aload_n 0, 1) := by decide +kernel
theorem DM_law_301 : decode (mC M_law) 301 = .ok (.iload_n 3, 1) := by decide +kernel
theorem DM_law_302 : decode (mC M_law) 302 = .ok (.iconst 5, 1) := by decide +kernel
theorem DM_law_303 : decode (mC M_law) 303 = .ok (.iadd, 1) := by decide +kernel
theorem DM_law_304 : decode (mC M_law) 304 = .ok (.iaload, 1) := by decide +kernel
theorem DM_law_305 : decode (mC M_law) 305 = .ok (.invokevirtual 26, 3) := by decide +kernel
theorem DM_law_308 : decode (mC M_law) 308 = .ok (.if_icmp .eq 663, 3) := by decide +kernel
theorem DM_law_311 : decode (mC M_law) 311 = .ok (.iconst 0, 1) := by decide +kernel
theorem DM_law_312 : decode (mC M_law) 312 = .ok (.ireturn, 1) := by decide +kernel
theorem DM_law_313 : decode (mC M_law) 313 = .ok (.aload_n 1, 1) := by decide +kernel
theorem DM_law_314 : decode (mC M_law) 314 = .ok (.aload_n 0, 1) := by decide +kernel
theorem DM_law_315 : decode (mC M_law) 315 = .ok (.iload_n 3, 1) := by decide +kernel
theorem DM_law_316 : decode (mC M_law) 316 = .ok (.iconst 1, 1) := by decide +kernel
theorem DM_law_317 : decode (mC M_law) 317 = .ok (.iadd, 1) := by decide +kernel
theorem DM_law_318 : decode (mC M_law) 318 = .ok (.iaload, 1) := by decide +kernel
theorem DM_law_319 : decode (mC M_law) 319 = .ok (.invokevirtual 27, 3) := by decide +kernel
theorem DM_law_322 : decode (mC M_law) 322 = .ok (.aload_n 2, 1) := by decide +kernel
theorem DM_law_323 : decode (mC M_law) 323 = .ok (.aload_n 0, 1) := by decide +kernel
theorem DM_law_324 : decode (mC M_law) 324 = .ok (.iload_n 3, 1) := by decide +kernel
theorem DM_law_325 : decode (mC M_law) 325 = .ok (.iconst 1, 1) := by decide +kernel
theorem DM_law_326 : decode (mC M_law) 326 = .ok (.iadd, 1) := by decide +kernel
theorem DM_law_327 : decode (mC M_law) 327 = .ok (.iaload, 1) := by decide +kernel
theorem DM_law_328 : decode (mC M_law) 328 = .ok (.invokevirtual 31, 3) := by decide +kernel
theorem DM_law_331 : decode (mC M_law) 331 = .ok (.if_icmp .eq 640, 3) := by decide +kernel
theorem DM_law_334 : decode (mC M_law) 334 = .ok (.iconst 0, 1) := by decide +kernel
theorem DM_law_335 : decode (mC M_law) 335 = .ok (.ireturn, 1) := by decide +kernel
theorem DM_law_336 : decode (mC M_law) 336 = .ok (.aload_n 1, 1) := by decide +kernel
theorem DM_law_337 : decode (mC M_law) 337 = .ok (.aload_n 0, 1) := by decide +kernel
theorem DM_law_338 : decode (mC M_law) 338 = .ok (.iload_n 3, 1) := by decide +kernel
theorem DM_law_339 : decode (mC M_law) 339 = .ok (.iconst 1, 1) := by decide +kernel
theorem DM_law_340 : decode (mC M_law) 340 = .ok (.iadd, 1) := by decide +kernel
theorem DM_law_341 : decode (mC M_law) 341 = .ok (.iaload, 1) := by decide +kernel
theorem DM_law_342 : decode (mC M_law) 342 = .ok (.invokevirtual 32, 3) := by decide +kernel
theorem DM_law_345 : decode (mC M_law) 345 = .ok (.aload_n 2, 1) := by decide +kernel
theorem DM_law_346 : decode (mC M_law) 346 = .ok (.aload_n 0, 1) := by decide +kernel
theorem DM_law_347 : decode (mC M_law) 347 = .ok (.iload_n 3, 1) := by decide +kernel
theorem DM_law_348 : decode (mC M_law) 348 = .ok (.iconst 1, 1) := by decide +kernel
theorem DM_law_349 : decode (mC M_law) 349 = .ok (.iadd, 1) := by decide +kernel
theorem DM_law_350 : decode (mC M_law) 350 = .ok (.iaload, 1) := by decide +kernel
theorem DM_law_351 : decode (mC M_law) 351 = .ok (.invokevirtual 35, 3) := by decide +kernel
theorem DM_law_354 : decode (mC M_law) 354 = .ok (.if_icmp .eq 617, 3) := by decide +kernel
theorem DM_law_357 : decode (mC M_law) 357 = .ok (.iconst 0, 1) := by decide +kernel
theorem DM_law_358 : decode (mC M_law) 358 = .ok (.ireturn, 1) := by decide +kernel
theorem DM_law_359 : decode (mC M_law) 359 = .ok (.aload_n 1, 1) := by decide +kernel
theorem DM_law_360 : decode (mC M_law) 360 = .ok (.invokevirtual 36, 3) := by decide +kernel
theorem DM_law_363 : decode (mC M_law) 363 = .ok (.aload_n 2, 1) := by decide +kernel
theorem DM_law_364 : decode (mC M_law) 364 = .ok (.invokevirtual 40, 3) := by decide +kernel
theorem DM_law_367 : decode (mC M_law) 367 = .ok (.if_icmp .eq 604, 3) := by decide +kernel
theorem DM_law_370 : decode (mC M_law) 370 = .ok (.iconst 0, 1) := by decide +kernel
theorem DM_law_371 : decode (mC M_law) 371 = .ok (.ireturn, 1) := by decide +kernel
theorem DM_law_372 : decode (mC M_law) 372 = .ok (.aload_n 1, 1) := by decide +kernel
theorem DM_law_373 : decode (mC M_law) 373 = .ok (.invokevirtual 41, 3) := by decide +kernel
theorem DM_law_376 : decode (mC M_law) 376 = .ok (.aload_n 2, 1) := by decide +kernel
theorem DM_law_377 : decode (mC M_law) 377 = .ok (.invokevirtual 44, 3) := by decide +kernel
theorem DM_law_380 : decode (mC M_law) 380 = .ok (.if_icmp .eq 591, 3) := by decide +kernel
theorem DM_law_383 : decode (mC M_law) 383 = .ok (.iconst 0, 1) := by decide +kernel
theorem DM_law_384 : decode (mC M_law) 384 = .ok (.ireturn, 1) := by decide +kernel
theorem DM_law_385 : decode (mC M_law) 385 = .ok (.aload_n 1, 1) := by decide +kernel
theorem DM_law_386 : decode (mC M_law) 386 = .ok (.aload_n 0, 1) := by decide +kernel
theorem DM_law_387 : decode (mC M_law) 387 = .ok (.iload_n 3, 1) := by decide +kernel
theorem DM_law_388 : decode (mC M_law) 388 = .ok (.iconst 1, 1) := by decide +kernel
theorem DM_law_389 : decode (mC M_law) 389 = .ok (.iadd, 1) := by decide +kernel
theorem DM_law_390 : decode (mC M_law) 390 = .ok (.iaload, 1) := by decide +kernel
theorem DM_law_391 : decode (mC M_law) 391 = .ok (.invokevirtual 45, 3) := by decide +kernel
theorem DM_law_394 : decode (mC M_law) 394 = .ok (.aload_n 2, 1) := by decide +kernel
theorem DM_law_395 : decode (mC M_law) 395 = .ok (.aload_n 0, 1) := by decide +kernel
theorem DM_law_396 : decode (mC M_law) 396 = .ok (.iload_n 3, 1) := by decide +kernel
theorem DM_law_397 : decode (mC M_law) 397 = .ok (.iconst 1, 1) := by decide +kernel
theorem DM_law_398 : decode (mC M_law) 398 = .ok (.iadd, 1) := by decide +kernel
theorem DM_law_399 : decode (mC M_law) 399 = .ok (.iaload, 1) := by decide +kernel
theorem DM_law_400 : decode (mC M_law) 400 = .ok (.invokevirtual 48, 3) := by decide +kernel
theorem DM_law_403 : decode (mC M_law) 403 = .ok (.if_icmp .eq 568, 3) := by decide +kernel
theorem DM_law_406 : decode (mC M_law) 406 = .ok (.iconst 0, 1) := by decide +kernel
theorem DM_law_407 : decode (mC M_law) 407 = .ok (.ireturn, 1) := by decide +kernel
theorem DM_law_408 : decode (mC M_law) 408 = .ok (.aload_n 1, 1) := by decide +kernel
theorem DM_law_409 : decode (mC M_law) 409 = .ok (.aload_n 0, 1) := by decide +kernel
theorem DM_law_410 : decode (mC M_law) 410 = .ok (.iload_n 3, 1) := by decide +kernel
theorem DM_law_411 : decode (mC M_law) 411 = .ok (.iconst 1, 1) := by decide +kernel
theorem DM_law_412 : decode (mC M_law) 412 = .ok (.iadd, 1) := by decide +kernel
theorem DM_law_413 : decode (mC M_law) 413 = .ok (.iaload, 1) := by decide +kernel
theorem DM_law_414 : decode (mC M_law) 414 = .ok (.aload_n 0, 1) := by decide +kernel
theorem DM_law_415 : decode (mC M_law) 415 = .ok (.iload_n 3, 1) := by decide +kernel
theorem DM_law_416 : decode (mC M_law) 416 = .ok (.iconst 2, 1) := by decide +kernel
theorem DM_law_417 : decode (mC M_law) 417 = .ok (.iadd, 1) := by decide +kernel
theorem DM_law_418 : decode (mC M_law) 418 = .ok (.iaload, 1) := by decide +kernel
theorem DM_law_419 : decode (mC M_law) 419 = .ok (.aload_n 0, 1) := by decide +kernel
theorem DM_law_420 : decode (mC M_law) 420 = .ok (.iload_n 3, 1) := by decide +kernel
theorem DM_law_421 : decode (mC M_law) 421 = .ok (.iconst 3, 1) := by decide +kernel
theorem DM_law_422 : decode (mC M_law) 422 = .ok (.iadd, 1) := by decide +kernel
theorem DM_law_423 : decode (mC M_law) 423 = .ok (.iaload, 1) := by decide +kernel
theorem DM_law_424 : decode (mC M_law) 424 = .ok (.invokevirtual 49, 3) := by decide +kernel
theorem DM_law_427 : decode (mC M_law) 427 = .ok (.aload_n 2, 1) := by decide +kernel
theorem DM_law_428 : decode (mC M_law) 428 = .ok (.aload_n 0, 1) := by decide +kernel
theorem DM_law_429 : decode (mC M_law) 429 = .ok (.iload_n 3, 1) := by decide +kernel
theorem DM_law_430 : decode (mC M_law) 430 = .ok (.iconst 1, 1) := by decide +kernel
theorem DM_law_431 : decode (mC M_law) 431 = .ok (.iadd, 1) := by decide +kernel
theorem DM_law_432 : decode (mC M_law) 432 = .ok (.iaload, 1) := by decide +kernel
theorem DM_law_433 : decode (mC M_law) 433 = .ok (.aload_n 0, 1) := by decide +kernel
theorem DM_law_434 : decode (mC M_law) 434 = .ok (.iload_n 3, 1) := by decide +kernel
theorem DM_law_435 : decode (mC M_law) 435 = .ok (.iconst 2, 1) := by decide +kernel
theorem DM_law_436 : decode (mC M_law) 436 = .ok (.iadd, 1) := by decide +kernel
theorem DM_law_437 : decode (mC M_law) 437 = .ok (.iaload, 1) := by decide +kernel
theorem DM_law_438 : decode (mC M_law) 438 = .ok (.aload_n 0, 1) := by decide +kernel
theorem DM_law_439 : decode (mC M_law) 439 = .ok (.iload_n 3, 1) := by decide +kernel
theorem DM_law_440 : decode (mC M_law) 440 = .ok (.iconst 3, 1) := by decide +kernel
theorem DM_law_441 : decode (mC M_law) 441 = .ok (.iadd, 1) := by decide +kernel
theorem DM_law_442 : decode (mC M_law) 442 = .ok (.iaload, 1) := by decide +kernel
theorem DM_law_443 : decode (mC M_law) 443 = .ok (.invokevirtual 52, 3) := by decide +kernel
theorem DM_law_446 : decode (mC M_law) 446 = .ok (.if_icmp .eq 525, 3) := by decide +kernel
theorem DM_law_449 : decode (mC M_law) 449 = .ok (.iconst 0, 1) := by decide +kernel
theorem DM_law_450 : decode (mC M_law) 450 = .ok (.ireturn, 1) := by decide +kernel
theorem DM_law_451 : decode (mC M_law) 451 = .ok (.aload_n 1, 1) := by decide +kernel
theorem DM_law_452 : decode (mC M_law) 452 = .ok (.aload_n 0, 1) := by decide +kernel
theorem DM_law_453 : decode (mC M_law) 453 = .ok (.iload_n 3, 1) := by decide +kernel
theorem DM_law_454 : decode (mC M_law) 454 = .ok (.iconst 1, 1) := by decide +kernel
theorem DM_law_455 : decode (mC M_law) 455 = .ok (.iadd, 1) := by decide +kernel
theorem DM_law_456 : decode (mC M_law) 456 = .ok (.iaload, 1) := by decide +kernel
theorem DM_law_457 : decode (mC M_law) 457 = .ok (.aload_n 0, 1) := by decide +kernel
theorem DM_law_458 : decode (mC M_law) 458 = .ok (.iload_n 3, 1) := by decide +kernel
theorem DM_law_459 : decode (mC M_law) 459 = .ok (.iconst 2, 1) := by decide +kernel
theorem DM_law_460 : decode (mC M_law) 460 = .ok (.iadd, 1) := by decide +kernel
theorem DM_law_461 : decode (mC M_law) 461 = .ok (.iaload, 1) := by decide +kernel
theorem DM_law_462 : decode (mC M_law) 462 = .ok (.invokevirtual 53, 3) := by decide +kernel
theorem DM_law_465 : decode (mC M_law) 465 = .ok (.aload_n 2, 1) := by decide +kernel
theorem DM_law_466 : decode (mC M_law) 466 = .ok (.aload_n 0, 1) := by decide +kernel
theorem DM_law_467 : decode (mC M_law) 467 = .ok (.iload_n 3, 1) := by decide +kernel
theorem DM_law_468 : decode (mC M_law) 468 = .ok (.iconst 1, 1) := by decide +kernel
theorem DM_law_469 : decode (mC M_law) 469 = .ok (.iadd, 1) := by decide +kernel
theorem DM_law_470 : decode (mC M_law) 470 = .ok (.iaload, 1) := by decide +kernel
theorem DM_law_471 : decode (mC M_law) 471 = .ok (.aload_n 0, 1) := by decide +kernel
theorem DM_law_472 : decode (mC M_law) 472 = .ok (.iload_n 3, 1) := by decide +kernel
theorem DM_law_473 : decode (mC M_law) 473 = .ok (.iconst 2, 1) := by decide +kernel
theorem DM_law_474 : decode (mC M_law) 474 = .ok (.iadd, 1) := by decide +kernel
theorem DM_law_475 : decode (mC M_law) 475 = .ok (.iaload, 1) := by decide +kernel
theorem DM_law_476 : decode (mC M_law) 476 = .ok (.invokevirtual 57, 3) := by decide +kernel
theorem DM_law_479 : decode (mC M_law) 479 = .ok (.if_icmp .eq 492, 3) := by decide +kernel
theorem DM_law_482 : decode (mC M_law) 482 = .ok (.iconst 0, 1) := by decide +kernel
theorem DM_law_483 : decode (mC M_law) 483 = .ok (.ireturn, 1) := by decide +kernel
theorem DM_law_484 : decode (mC M_law) 484 = .ok (.aload_n 1, 1) := by decide +kernel
theorem DM_law_485 : decode (mC M_law) 485 = .ok (.invokevirtual 58, 3) := by decide +kernel
theorem DM_law_488 : decode (mC M_law) 488 = .ok (.aload_n 2, 1) := by decide +kernel
theorem DM_law_489 : decode (mC M_law) 489 = .ok (.invokevirtual 61, 3) := by decide +kernel
theorem DM_law_492 : decode (mC M_law) 492 = .ok (.if_icmp .eq 479, 3) := by decide +kernel
theorem DM_law_495 : decode (mC M_law) 495 = .ok (.iconst 0, 1) := by decide +kernel
theorem DM_law_496 : decode (mC M_law) 496 = .ok (.ireturn, 1) := by decide +kernel
theorem DM_law_497 : decode (mC M_law) 497 = .ok (.aload_n 1, 1) := by decide +kernel
theorem DM_law_498 : decode (mC M_law) 498 = .ok (.aload_n 0, 1) := by decide +kernel
theorem DM_law_499 : decode (mC M_law) 499 = .ok (.iload_n 3, 1) := by decide +kernel
theorem DM_law_500 : decode (mC M_law) 500 = .ok (.iconst 1, 1) := by decide +kernel
theorem DM_law_501 : decode (mC M_law) 501 = .ok (.iadd, 1) := by decide +kernel
theorem DM_law_502 : decode (mC M_law) 502 = .ok (.iaload, 1) := by decide +kernel
theorem DM_law_503 : decode (mC M_law) 503 = .ok (.aload_n 0, 1) := by decide +kernel
theorem DM_law_504 : decode (mC M_law) 504 = .ok (.iload_n 3, 1) := by decide +kernel
theorem DM_law_505 : decode (mC M_law) 505 = .ok (.iconst 2, 1) := by decide +kernel
theorem DM_law_506 : decode (mC M_law) 506 = .ok (.iadd, 1) := by decide +kernel
theorem DM_law_507 : decode (mC M_law) 507 = .ok (.iaload, 1) := by decide +kernel
theorem DM_law_508 : decode (mC M_law) 508 = .ok (.invokevirtual 62, 3) := by decide +kernel
theorem DM_law_511 : decode (mC M_law) 511 = .ok (.aload_n 2, 1) := by decide +kernel
theorem DM_law_512 : decode (mC M_law) 512 = .ok (.aload_n 0, 1) := by decide +kernel
theorem DM_law_513 : decode (mC M_law) 513 = .ok (.iload_n 3, 1) := by decide +kernel
theorem DM_law_514 : decode (mC M_law) 514 = .ok (.iconst 1, 1) := by decide +kernel
theorem DM_law_515 : decode (mC M_law) 515 = .ok (.iadd, 1) := by decide +kernel
theorem DM_law_516 : decode (mC M_law) 516 = .ok (.iaload, 1) := by decide +kernel
theorem DM_law_517 : decode (mC M_law) 517 = .ok (.aload_n 0, 1) := by decide +kernel
theorem DM_law_518 : decode (mC M_law) 518 = .ok (.iload_n 3, 1) := by decide +kernel
theorem DM_law_519 : decode (mC M_law) 519 = .ok (.iconst 2, 1) := by decide +kernel
theorem DM_law_520 : decode (mC M_law) 520 = .ok (.iadd, 1) := by decide +kernel
theorem DM_law_521 : decode (mC M_law) 521 = .ok (.iaload, 1) := by decide +kernel
theorem DM_law_522 : decode (mC M_law) 522 = .ok (.invokevirtual 65, 3) := by decide +kernel
theorem DM_law_525 : decode (mC M_law) 525 = .ok (.if_icmp .eq 446, 3) := by decide +kernel
theorem DM_law_528 : decode (mC M_law) 528 = .ok (.iconst 0, 1) := by decide +kernel
theorem DM_law_529 : decode (mC M_law) 529 = .ok (.ireturn, 1) := by decide +kernel
theorem DM_law_530 : decode (mC M_law) 530 = .ok (.aload_n 1, 1) := by decide +kernel
theorem DM_law_531 : decode (mC M_law) 531 = .ok (.aload_n 0, 1) := by decide +kernel
theorem DM_law_532 : decode (mC M_law) 532 = .ok (.iload_n 3, 1) := by decide +kernel
theorem DM_law_533 : decode (mC M_law) 533 = .ok (.iconst 1, 1) := by decide +kernel
theorem DM_law_534 : decode (mC M_law) 534 = .ok (.iadd, 1) := by decide +kernel
theorem DM_law_535 : decode (mC M_law) 535 = .ok (.iaload, 1) := by decide +kernel
theorem DM_law_536 : decode (mC M_law) 536 = .ok (.aload_n 0, 1) := by decide +kernel
theorem DM_law_537 : decode (mC M_law) 537 = .ok (.iload_n 3, 1) := by decide +kernel
theorem DM_law_538 : decode (mC M_law) 538 = .ok (.iconst 2, 1) := by decide +kernel
theorem DM_law_539 : decode (mC M_law) 539 = .ok (.iadd, 1) := by decide +kernel
theorem DM_law_540 : decode (mC M_law) 540 = .ok (.iaload, 1) := by decide +kernel
theorem DM_law_541 : decode (mC M_law) 541 = .ok (.invokevirtual 66, 3) := by decide +kernel
theorem DM_law_544 : decode (mC M_law) 544 = .ok (.aload_n 2, 1) := by decide +kernel
theorem DM_law_545 : decode (mC M_law) 545 = .ok (.aload_n 0, 1) := by decide +kernel
theorem DM_law_546 : decode (mC M_law) 546 = .ok (.iload_n 3, 1) := by decide +kernel
theorem DM_law_547 : decode (mC M_law) 547 = .ok (.iconst 1, 1) := by decide +kernel
theorem DM_law_548 : decode (mC M_law) 548 = .ok (.iadd, 1) := by decide +kernel
theorem DM_law_549 : decode (mC M_law) 549 = .ok (.iaload, 1) := by decide +kernel
theorem DM_law_550 : decode (mC M_law) 550 = .ok (.aload_n 0, 1) := by decide +kernel
theorem DM_law_551 : decode (mC M_law) 551 = .ok (.iload_n 3, 1) := by decide +kernel
theorem DM_law_552 : decode (mC M_law) 552 = .ok (.iconst 2, 1) := by decide +kernel
theorem DM_law_553 : decode (mC M_law) 553 = .ok (.iadd, 1) := by decide +kernel
theorem DM_law_554 : decode (mC M_law) 554 = .ok (.iaload, 1) := by decide +kernel
theorem DM_law_555 : decode (mC M_law) 555 = .ok (.invokevirtual 69, 3) := by decide +kernel
theorem DM_law_558 : decode (mC M_law) 558 = .ok (.if_icmp .eq 413, 3) := by decide +kernel
theorem DM_law_561 : decode (mC M_law) 561 = .ok (.iconst 0, 1) := by decide +kernel
theorem DM_law_562 : decode (mC M_law) 562 = .ok (.ireturn, 1) := by decide +kernel
theorem DM_law_563 : decode (mC M_law) 563 = .ok (.aload_n 1, 1) := by decide +kernel
theorem DM_law_564 : decode (mC M_law) 564 = .ok (.aload_n 0, 1) := by decide +kernel
theorem DM_law_565 : decode (mC M_law) 565 = .ok (.iload_n 3, 1) := by decide +kernel
theorem DM_law_566 : decode (mC M_law) 566 = .ok (.iconst 1, 1) := by decide +kernel
theorem DM_law_567 : decode (mC M_law) 567 = .ok (.iadd, 1) := by decide +kernel
theorem DM_law_568 : decode (mC M_law) 568 = .ok (.iaload, 1) := by decide +kernel
theorem DM_law_569 : decode (mC M_law) 569 = .ok (.invokevirtual 70, 3) := by decide +kernel
theorem DM_law_572 : decode (mC M_law) 572 = .ok (.aload_n 2, 1) := by decide +kernel
theorem DM_law_573 : decode (mC M_law) 573 = .ok (.aload_n 0, 1) := by decide +kernel
theorem DM_law_574 : decode (mC M_law) 574 = .ok (.iload_n 3, 1) := by decide +kernel
theorem DM_law_575 : decode (mC M_law) 575 = .ok (.iconst 1, 1) := by decide +kernel
theorem DM_law_576 : decode (mC M_law) 576 = .ok (.iadd, 1) := by decide +kernel
theorem DM_law_577 : decode (mC M_law) 577 = .ok (.iaload, 1) := by decide +kernel
theorem DM_law_578 : decode (mC M_law) 578 = .ok (.invokevirtual 73, 3) := by decide +kernel
theorem DM_law_581 : decode (mC M_law) 581 = .ok (.if_icmp .eq 390, 3) := by decide +kernel
theorem DM_law_584 : decode (mC M_law) 584 = .ok (.iconst 0, 1) := by decide +kernel
theorem DM_law_585 : decode (mC M_law) 585 = .ok (.ireturn, 1) := by decide +kernel
theorem DM_law_586 : decode (mC M_law) 586 = .ok (.aload_n 1, 1) := by decide +kernel
theorem DM_law_587 : decode (mC M_law) 587 = .ok (.aload_n 0, 1) := by decide +kernel
theorem DM_law_588 : decode (mC M_law) 588 = .ok (.iload_n 3, 1) := by decide +kernel
theorem DM_law_589 : decode (mC M_law) 589 = .ok (.iconst 1, 1) := by decide +kernel
theorem DM_law_590 : decode (mC M_law) 590 = .ok (.iadd, 1) := by decide +kernel
theorem DM_law_591 : decode (mC M_law) 591 = .ok (.iaload, 1) := by decide +kernel
theorem DM_law_592 : decode (mC M_law) 592 = .ok (.aload_n 0, 1) := by decide +kernel
theorem DM_law_593 : decode (mC M_law) 593 = .ok (.iload_n 3, 1) := by decide +kernel
theorem DM_law_594 : decode (mC M_law) 594 = .ok (.iconst 2, 1) := by decide +kernel
theorem DM_law_595 : decode (mC M_law) 595 = .ok (.iadd, 1) := by decide +kernel
theorem DM_law_596 : decode (mC M_law) 596 = .ok (.iaload, 1) := by decide +kernel
theorem DM_law_597 : decode (mC M_law) 597 = .ok (.invokevirtual 74, 3) := by decide +kernel
theorem DM_law_600 : decode (mC M_law) 600 = .ok (.aload_n 2, 1) := by decide +kernel
theorem DM_law_601 : decode (mC M_law) 601 = .ok (.aload_n 0, 1) := by decide +kernel
theorem DM_law_602 : decode (mC M_law) 602 = .ok (.iload_n 3, 1) := by decide +kernel
theorem DM_law_603 : decode (mC M_law) 603 = .ok (.iconst 1, 1) := by decide +kernel
theorem DM_law_604 : decode (mC M_law) 604 = .ok (.iadd, 1) := by decide +kernel
theorem DM_law_605 : decode (mC M_law) 605 = .ok (.iaload, 1) := by decide +kernel
theorem DM_law_606 : decode (mC M_law) 606 = .ok (.aload_n 0, 1) := by decide +kernel
theorem DM_law_607 : decode (mC M_law) 607 = .ok (.iload_n 3, 1) := by decide +kernel
theorem DM_law_608 : decode (mC M_law) 608 = .ok (.iconst 2, 1) := by decide +kernel
theorem DM_law_609 : decode (mC M_law) 609 = .ok (.iadd, 1) := by decide +kernel
theorem DM_law_610 : decode (mC M_law) 610 = .ok (.iaload, 1) := by decide +kernel
theorem DM_law_611 : decode (mC M_law) 611 = .ok (.invokevirtual 77, 3) := by decide +kernel
theorem DM_law_614 : decode (mC M_law) 614 = .ok (.if_icmp .eq 357, 3) := by decide +kernel
theorem DM_law_617 : decode (mC M_law) 617 = .ok (.iconst 0, 1) := by decide +kernel
theorem DM_law_618 : decode (mC M_law) 618 = .ok (.ireturn, 1) := by decide +kernel
theorem DM_law_619 : decode (mC M_law) 619 = .ok (.aload_n 1, 1) := by decide +kernel
theorem DM_law_620 : decode (mC M_law) 620 = .ok (.invokevirtual 78, 3) := by decide +kernel
theorem DM_law_623 : decode (mC M_law) 623 = .ok (.aload_n 2, 1) := by decide +kernel
theorem DM_law_624 : decode (mC M_law) 624 = .ok (.invokevirtual 81, 3) := by decide +kernel
theorem DM_law_627 : decode (mC M_law) 627 = .ok (.if_icmp .eq 344, 3) := by decide +kernel
theorem DM_law_630 : decode (mC M_law) 630 = .ok (.iconst 0, 1) := by decide +kernel
theorem DM_law_631 : decode (mC M_law) 631 = .ok (.ireturn, 1) := by decide +kernel
theorem DM_law_632 : decode (mC M_law) 632 = .ok (.aload_n 1, 1) := by decide +kernel
theorem DM_law_633 : decode (mC M_law) 633 = .ok (.aload_n 0, 1) := by decide +kernel
theorem DM_law_634 : decode (mC M_law) 634 = .ok (.iload_n 3, 1) := by decide +kernel
theorem DM_law_635 : decode (mC M_law) 635 = .ok (.iconst 1, 1) := by decide +kernel
theorem DM_law_636 : decode (mC M_law) 636 = .ok (.iadd, 1) := by decide +kernel
theorem DM_law_637 : decode (mC M_law) 637 = .ok (.iaload, 1) := by decide +kernel
theorem DM_law_638 : decode (mC M_law) 638 = .ok (.aload_n 0, 1) := by decide +kernel
theorem DM_law_639 : decode (mC M_law) 639 = .ok (.iload_n 3, 1) := by decide +kernel
theorem DM_law_640 : decode (mC M_law) 640 = .ok (.iconst 2, 1) := by decide +kernel
theorem DM_law_641 : decode (mC M_law) 641 = .ok (.iadd, 1) := by decide +kernel
theorem DM_law_642 : decode (mC M_law) 642 = .ok (.iaload, 1) := by decide +kernel
theorem DM_law_643 : decode (mC M_law) 643 = .ok (.invokevirtual 82, 3) := by decide +kernel
theorem DM_law_646 : decode (mC M_law) 646 = .ok (.aload_n 2, 1) := by decide +kernel
theorem DM_law_647 : decode (mC M_law) 647 = .ok (.aload_n 0, 1) := by decide +kernel
theorem DM_law_648 : decode (mC M_law) 648 = .ok (.iload_n 3, 1) := by decide +kernel
theorem DM_law_649 : decode (mC M_law) 649 = .ok (.iconst 1, 1) := by decide +kernel
theorem DM_law_650 : decode (mC M_law) 650 = .ok (.iadd, 1) := by decide +kernel
theorem DM_law_651 : decode (mC M_law) 651 = .ok (.iaload, 1) := by decide +kernel
theorem DM_law_652 : decode (mC M_law) 652 = .ok (.aload_n 0, 1) := by decide +kernel
theorem DM_law_653 : decode (mC M_law) 653 = .ok (.iload_n 3, 1) := by decide +kernel
theorem DM_law_654 : decode (mC M_law) 654 = .ok (.iconst 2, 1) := by decide +kernel
theorem DM_law_655 : decode (mC M_law) 655 = .ok (.iadd, 1) := by decide +kernel
theorem DM_law_656 : decode (mC M_law) 656 = .ok (.iaload, 1) := by decide +kernel
theorem DM_law_657 : decode (mC M_law) 657 = .ok (.invokevirtual 85, 3) := by decide +kernel
theorem DM_law_660 : decode (mC M_law) 660 = .ok (.if_icmp .eq 311, 3) := by decide +kernel
theorem DM_law_663 : decode (mC M_law) 663 = .ok (.iconst 0, 1) := by decide +kernel
theorem DM_law_664 : decode (mC M_law) 664 = .ok (.ireturn, 1) := by decide +kernel
theorem DM_law_665 : decode (mC M_law) 665 = .ok (.aload_n 1, 1) := by decide +kernel
theorem DM_law_666 : decode (mC M_law) 666 = .ok (.aload_n 0, 1) := by decide +kernel
theorem DM_law_667 : decode (mC M_law) 667 = .ok (.iload_n 3, 1) := by decide +kernel
theorem DM_law_668 : decode (mC M_law) 668 = .ok (.iconst 1, 1) := by decide +kernel
theorem DM_law_669 : decode (mC M_law) 669 = .ok (.iadd, 1) := by decide +kernel
theorem DM_law_670 : decode (mC M_law) 670 = .ok (.iaload, 1) := by decide +kernel
theorem DM_law_671 : decode (mC M_law) 671 = .ok (.invokevirtual 86, 3) := by decide +kernel
theorem DM_law_674 : decode (mC M_law) 674 = .ok (.aload_n 2, 1) := by decide +kernel
theorem DM_law_675 : decode (mC M_law) 675 = .ok (.aload_n 0, 1) := by decide +kernel
theorem DM_law_676 : decode (mC M_law) 676 = .ok (.iload_n 3, 1) := by decide +kernel
theorem DM_law_677 : decode (mC M_law) 677 = .ok (.iconst 1, 1) := by decide +kernel
theorem DM_law_678 : decode (mC M_law) 678 = .ok (.iadd, 1) := by decide +kernel
theorem DM_law_679 : decode (mC M_law) 679 = .ok (.iaload, 1) := by decide +kernel
theorem DM_law_680 : decode (mC M_law) 680 = .ok (.invokevirtual 89, 3) := by decide +kernel
theorem DM_law_683 : decode (mC M_law) 683 = .ok (.if_icmp .eq 288, 3) := by decide +kernel
theorem DM_law_686 : decode (mC M_law) 686 = .ok (.iconst 0, 1) := by decide +kernel
theorem DM_law_687 : decode (mC M_law) 687 = .ok (.ireturn, 1) := by decide +kernel
theorem DM_law_688 : decode (mC M_law) 688 = .ok (.aload_n 1, 1) := by decide +kernel
theorem DM_law_689 : decode (mC M_law) 689 = .ok (.aload_n 0, 1) := by decide +kernel
theorem DM_law_690 : decode (mC M_law) 690 = .ok (.iload_n 3, 1) := by decide +kernel
theorem DM_law_691 : decode (mC M_law) 691 = .ok (.iconst 1, 1) := by decide +kernel
theorem DM_law_692 : decode (mC M_law) 692 = .ok (.iadd, 1) := by decide +kernel
theorem DM_law_693 : decode (mC M_law) 693 = .ok (.iaload, 1) := by decide +kernel
theorem DM_law_694 : decode (mC M_law) 694 = .ok (.invokevirtual 90, 3) := by decide +kernel
theorem DM_law_697 : decode (mC M_law) 697 = .ok (.aload_n 2, 1) := by decide +kernel
theorem DM_law_698 : decode (mC M_law) 698 = .ok (.aload_n 0, 1) := by decide +kernel
theorem DM_law_699 : decode (mC M_law) 699 = .ok (.iload_n 3, 1) := by decide +kernel
theorem DM_law_700 : decode (mC M_law) 700 = .ok (.iconst 1, 1) := by decide +kernel
theorem DM_law_701 : decode (mC M_law) 701 = .ok (.iadd, 1) := by decide +kernel
theorem DM_law_702 : decode (mC M_law) 702 = .ok (.iaload, 1) := by decide +kernel
theorem DM_law_703 : decode (mC M_law) 703 = .ok (.invokevirtual 93, 3) := by decide +kernel
theorem DM_law_706 : decode (mC M_law) 706 = .ok (.if_icmp .eq 265, 3) := by decide +kernel
theorem DM_law_709 : decode (mC M_law) 709 = .ok (.iconst 0, 1) := by decide +kernel
theorem DM_law_710 : decode (mC M_law) 710 = .ok (.ireturn, 1) := by decide +kernel
theorem DM_law_711 : decode (mC M_law) 711 = .ok (.aload_n 1, 1) := by decide +kernel
theorem DM_law_712 : decode (mC M_law) 712 = .ok (.aload_n 0, 1) := by decide +kernel
theorem DM_law_713 : decode (mC M_law) 713 = .ok (.iload_n 3, 1) := by decide +kernel
theorem DM_law_714 : decode (mC M_law) 714 = .ok (.iconst 1, 1) := by decide +kernel
theorem DM_law_715 : decode (mC M_law) 715 = .ok (.iadd, 1) := by decide +kernel
theorem DM_law_716 : decode (mC M_law) 716 = .ok (.iaload, 1) := by decide +kernel
theorem DM_law_717 : decode (mC M_law) 717 = .ok (.invokevirtual 94, 3) := by decide +kernel
theorem DM_law_720 : decode (mC M_law) 720 = .ok (.aload_n 2, 1) := by decide +kernel
theorem DM_law_721 : decode (mC M_law) 721 = .ok (.aload_n 0, 1) := by decide +kernel
theorem DM_law_722 : decode (mC M_law) 722 = .ok (.iload_n 3, 1) := by decide +kernel
theorem DM_law_723 : decode (mC M_law) 723 = .ok (.iconst 1, 1) := by decide +kernel
theorem DM_law_724 : decode (mC M_law) 724 = .ok (.iadd, 1) := by decide +kernel
theorem DM_law_725 : decode (mC M_law) 725 = .ok (.iaload, 1) := by decide +kernel
theorem DM_law_726 : decode (mC M_law) 726 = .ok (.invokevirtual 97, 3) := by decide +kernel
theorem DM_law_729 : decode (mC M_law) 729 = .ok (.if_icmp .eq 242, 3) := by decide +kernel
theorem DM_law_732 : decode (mC M_law) 732 = .ok (.iconst 0, 1) := by decide +kernel
theorem DM_law_733 : decode (mC M_law) 733 = .ok (.ireturn, 1) := by decide +kernel
theorem DM_law_734 : decode (mC M_law) 734 = .ok (.aload_n 1, 1) := by decide +kernel
theorem DM_law_735 : decode (mC M_law) 735 = .ok (.aload_n 0, 1) := by decide +kernel
theorem DM_law_736 : decode (mC M_law) 736 = .ok (.iload_n 3, 1) := by decide +kernel
theorem DM_law_737 : decode (mC M_law) 737 = .ok (.iconst 1, 1) := by decide +kernel
theorem DM_law_738 : decode (mC M_law) 738 = .ok (.iadd, 1) := by decide +kernel
theorem DM_law_739 : decode (mC M_law) 739 = .ok (.iaload, 1) := by decide +kernel
theorem DM_law_740 : decode (mC M_law) 740 = .ok (.aload_n 0, 1) := by decide +kernel
theorem DM_law_741 : decode (mC M_law) 741 = .ok (.iload_n 3, 1) := by decide +kernel
theorem DM_law_742 : decode (mC M_law) 742 = .ok (.iconst 2, 1) := by decide +kernel
theorem DM_law_743 : decode (mC M_law) 743 = .ok (.iadd, 1) := by decide +kernel
theorem DM_law_744 : decode (mC M_law) 744 = .ok (.iaload, 1) := by decide +kernel
theorem DM_law_745 : decode (mC M_law) 745 = .ok (.aload_n 0, 1) := by decide +kernel
theorem DM_law_746 : decode (mC M_law) 746 = .ok (.iload_n 3, 1) := by decide +kernel
theorem DM_law_747 : decode (mC M_law) 747 = .ok (.iconst 3, 1) := by decide +kernel
theorem DM_law_748 : decode (mC M_law) 748 = .ok (.iadd, 1) := by decide +kernel
theorem DM_law_749 : decode (mC M_law) 749 = .ok (.iaload, 1) := by decide +kernel
theorem DM_law_750 : decode (mC M_law) 750 = .ok (.invokevirtual 98, 3) := by decide +kernel
theorem DM_law_753 : decode (mC M_law) 753 = .ok (.aload_n 2, 1) := by decide +kernel
theorem DM_law_754 : decode (mC M_law) 754 = .ok (.aload_n 0, 1) := by decide +kernel
theorem DM_law_755 : decode (mC M_law) 755 = .ok (.iload_n 3, 1) := by decide +kernel
theorem DM_law_756 : decode (mC M_law) 756 = .ok (.iconst 1, 1) := by decide +kernel
theorem DM_law_757 : decode (mC M_law) 757 = .ok (.iadd, 1) := by decide +kernel
theorem DM_law_758 : decode (mC M_law) 758 = .ok (.iaload, 1) := by decide +kernel
theorem DM_law_759 : decode (mC M_law) 759 = .ok (.aload_n 0, 1) := by decide +kernel
theorem DM_law_760 : decode (mC M_law) 760 = .ok (.iload_n 3, 1) := by decide +kernel
theorem DM_law_761 : decode (mC M_law) 761 = .ok (.iconst 2, 1) := by decide +kernel
theorem DM_law_762 : decode (mC M_law) 762 = .ok (.iadd, 1) := by decide +kernel
theorem DM_law_763 : decode (mC M_law) 763 = .ok (.iaload, 1) := by decide +kernel
theorem DM_law_764 : decode (mC M_law) 764 = .ok (.aload_n 0, 1) := by decide +kernel
theorem DM_law_765 : decode (mC M_law) 765 = .ok (.iload_n 3, 1) := by decide +kernel
theorem DM_law_766 : decode (mC M_law) 766 = .ok (.iconst 3, 1) := by decide +kernel
theorem DM_law_767 : decode (mC M_law) 767 = .ok (.iadd, 1) := by decide +kernel
theorem DM_law_768 : decode (mC M_law) 768 = .ok (.iaload, 1) := by decide +kernel
theorem DM_law_769 : decode (mC M_law) 769 = .ok (.invokevirtual 101, 3) := by decide +kernel
theorem DM_law_772 : decode (mC M_law) 772 = .ok (.if_icmp .eq 199, 3) := by decide +kernel
theorem DM_law_775 : decode (mC M_law) 775 = .ok (.iconst 0, 1) := by decide +kernel
theorem DM_law_776 : decode (mC M_law) 776 = .ok (.ireturn, 1) := by decide +kernel
theorem DM_law_777 : decode (mC M_law) 777 = .ok (.aload_n 1, 1) := by decide +kernel
theorem DM_law_778 : decode (mC M_law) 778 = .ok (.aload_n 0, 1) := by decide +kernel
theorem DM_law_779 : decode (mC M_law) 779 = .ok (.iload_n 3, 1) := by decide +kernel
theorem DM_law_780 : decode (mC M_law) 780 = .ok (.iconst 1, 1) := by decide +kernel
theorem DM_law_781 : decode (mC M_law) 781 = .ok (.iadd, 1) := by decide +kernel
theorem DM_law_782 : decode (mC M_law) 782 = .ok (.iaload, 1) := by decide +kernel
theorem DM_law_783 : decode (mC M_law) 783 = .ok (.invokevirtual 102, 3) := by decide +kernel
theorem DM_law_786 : decode (mC M_law) 786 = .ok (.aload_n 2, 1) := by decide +kernel
theorem DM_law_787 : decode (mC M_law) 787 = .ok (.aload_n 0, 1) := by decide +kernel
theorem DM_law_788 : decode (mC M_law) 788 = .ok (.iload_n 3, 1) := by decide +kernel
theorem DM_law_789 : decode (mC M_law) 789 = .ok (.iconst 1, 1) := by decide +kernel
theorem DM_law_790 : decode (mC M_law) 790 = .ok (.iadd, 1) := by decide +kernel
theorem DM_law_791 : decode (mC M_law) 791 = .ok (.iaload, 1) := by decide +kernel
theorem DM_law_792 : decode (mC M_law) 792 = .ok (.invokevirtual 105, 3) := by decide +kernel
theorem DM_law_795 : decode (mC M_law) 795 = .ok (.if_icmp .eq 176, 3) := by decide +kernel
theorem DM_law_798 : decode (mC M_law) 798 = .ok (.iconst 0, 1) := by decide +kernel
theorem DM_law_799 : decode (mC M_law) 799 = .ok (.ireturn, 1) := by decide +kernel
theorem DM_law_800 : decode (mC M_law) 800 = .ok (.aload_n 1, 1) := by decide +kernel
theorem DM_law_801 : decode (mC M_law) 801 = .ok (.aload_n 0, 1) := by decide +kernel
theorem DM_law_802 : decode (mC M_law) 802 = .ok (.iload_n 3, 1) := by decide +kernel
theorem DM_law_803 : decode (mC M_law) 803 = .ok (.iconst 1, 1) := by decide +kernel
theorem DM_law_804 : decode (mC M_law) 804 = .ok (.iadd, 1) := by decide +kernel
theorem DM_law_805 : decode (mC M_law) 805 = .ok (.iaload, 1) := by decide +kernel
theorem DM_law_806 : decode (mC M_law) 806 = .ok (.invokevirtual 106, 3) := by decide +kernel
theorem DM_law_809 : decode (mC M_law) 809 = .ok (.aload_n 2, 1) := by decide +kernel
theorem DM_law_810 : decode (mC M_law) 810 = .ok (.aload_n 0, 1) := by decide +kernel
theorem DM_law_811 : decode (mC M_law) 811 = .ok (.iload_n 3, 1) := by decide +kernel
theorem DM_law_812 : decode (mC M_law) 812 = .ok (.iconst 1, 1) := by decide +kernel
theorem DM_law_813 : decode (mC M_law) 813 = .ok (.iadd, 1) := by decide +kernel
theorem DM_law_814 : decode (mC M_law) 814 = .ok (.iaload, 1) := by decide +kernel
theorem DM_law_815 : decode (mC M_law) 815 = .ok (.invokevirtual 109, 3) := by decide +kernel
theorem DM_law_818 : decode (mC M_law) 818 = .ok (.if_icmp .eq 153, 3) := by decide +kernel
theorem DM_law_821 : decode (mC M_law) 821 = .ok (.iconst 0, 1) := by decide +kernel
theorem DM_law_822 : decode (mC M_law) 822 = .ok (.ireturn, 1) := by decide +kernel
theorem DM_law_823 : decode (mC M_law) 823 = .ok (.aload_n 1, 1) := by decide +kernel
theorem DM_law_824 : decode (mC M_law) 824 = .ok (.aload_n 0, 1) := by decide +kernel
theorem DM_law_825 : decode (mC M_law) 825 = .ok (.iload_n 3, 1) := by decide +kernel
theorem DM_law_826 : decode (mC M_law) 826 = .ok (.iconst 1, 1) := by decide +kernel
theorem DM_law_827 : decode (mC M_law) 827 = .ok (.iadd, 1) := by decide +kernel
theorem DM_law_828 : decode (mC M_law) 828 = .ok (.iaload, 1) := by decide +kernel
theorem DM_law_829 : decode (mC M_law) 829 = .ok (.invokevirtual 110, 3) := by decide +kernel
theorem DM_law_832 : decode (mC M_law) 832 = .ok (.aload_n 2, 1) := by decide +kernel
theorem DM_law_833 : decode (mC M_law) 833 = .ok (.aload_n 0, 1) := by decide +kernel
theorem DM_law_834 : decode (mC M_law) 834 = .ok (.iload_n 3, 1) := by decide +kernel
theorem DM_law_835 : decode (mC M_law) 835 = .ok (.iconst 1, 1) := by decide +kernel
theorem DM_law_836 : decode (mC M_law) 836 = .ok (.iadd, 1) := by decide +kernel
theorem DM_law_837 : decode (mC M_law) 837 = .ok (.iaload, 1) := by decide +kernel
theorem DM_law_838 : decode (mC M_law) 838 = .ok (.invokevirtual 113, 3) := by decide +kernel
theorem DM_law_841 : decode (mC M_law) 841 = .ok (.if_icmp .eq 130, 3) := by decide +kernel
theorem DM_law_844 : decode (mC M_law) 844 = .ok (.iconst 0, 1) := by decide +kernel
theorem DM_law_845 : decode (mC M_law) 845 = .ok (.ireturn, 1) := by decide +kernel
theorem DM_law_846 : decode (mC M_law) 846 = .ok (.aload_n 1, 1) := by decide +kernel
theorem DM_law_847 : decode (mC M_law) 847 = .ok (.aload_n 0, 1) := by decide +kernel
theorem DM_law_848 : decode (mC M_law) 848 = .ok (.iload_n 3, 1) := by decide +kernel
theorem DM_law_849 : decode (mC M_law) 849 = .ok (.iconst 1, 1) := by decide +kernel
theorem DM_law_850 : decode (mC M_law) 850 = .ok (.iadd, 1) := by decide +kernel
theorem DM_law_851 : decode (mC M_law) 851 = .ok (.iaload, 1) := by decide +kernel
theorem DM_law_852 : decode (mC M_law) 852 = .ok (.aload_n 0, 1) := by decide +kernel
theorem DM_law_853 : decode (mC M_law) 853 = .ok (.iload_n 3, 1) := by decide +kernel
theorem DM_law_854 : decode (mC M_law) 854 = .ok (.iconst 2, 1) := by decide +kernel
theorem DM_law_855 : decode (mC M_law) 855 = .ok (.iadd, 1) := by decide +kernel
theorem DM_law_856 : decode (mC M_law) 856 = .ok (.iaload, 1) := by decide +kernel
theorem DM_law_857 : decode (mC M_law) 857 = .ok (.invokevirtual 114, 3) := by decide +kernel
theorem DM_law_860 : decode (mC M_law) 860 = .ok (.aload_n 2, 1) := by decide +kernel
theorem DM_law_861 : decode (mC M_law) 861 = .ok (.aload_n 0, 1) := by decide +kernel
theorem DM_law_862 : decode (mC M_law) 862 = .ok (.iload_n 3, 1) := by decide +kernel
theorem DM_law_863 : decode (mC M_law) 863 = .ok (.iconst 1, 1) := by decide +kernel
theorem DM_law_864 : decode (mC M_law) 864 = .ok (.iadd, 1) := by decide +kernel
theorem DM_law_865 : decode (mC M_law) 865 = .ok (.iaload, 1) := by decide +kernel
theorem DM_law_866 : decode (mC M_law) 866 = .ok (.aload_n 0, 1) := by decide +kernel
theorem DM_law_867 : decode (mC M_law) 867 = .ok (.iload_n 3, 1) := by decide +kernel
theorem DM_law_868 : decode (mC M_law) 868 = .ok (.iconst 2, 1) := by decide +kernel
theorem DM_law_869 : decode (mC M_law) 869 = .ok (.iadd, 1) := by decide +kernel
theorem DM_law_870 : decode (mC M_law) 870 = .ok (.iaload, 1) := by decide +kernel
theorem DM_law_871 : decode (mC M_law) 871 = .ok (.invokevirtual 117, 3) := by decide +kernel
theorem DM_law_874 : decode (mC M_law) 874 = .ok (.if_icmp .eq 97, 3) := by decide +kernel
theorem DM_law_877 : decode (mC M_law) 877 = .ok (.iconst 0, 1) := by decide +kernel
theorem DM_law_878 : decode (mC M_law) 878 = .ok (.ireturn, 1) := by decide +kernel
theorem DM_law_879 : decode (mC M_law) 879 = .ok (.aload_n 1, 1) := by decide +kernel
theorem DM_law_880 : decode (mC M_law) 880 = .ok (.aload_n 0, 1) := by decide +kernel
theorem DM_law_881 : decode (mC M_law) 881 = .ok (.iload_n 3, 1) := by decide +kernel
theorem DM_law_882 : decode (mC M_law) 882 = .ok (.iconst 1, 1) := by decide +kernel
theorem DM_law_883 : decode (mC M_law) 883 = .ok (.iadd, 1) := by decide +kernel
theorem DM_law_884 : decode (mC M_law) 884 = .ok (.iaload, 1) := by decide +kernel
theorem DM_law_885 : decode (mC M_law) 885 = .ok (.aload_n 0, 1) := by decide +kernel
theorem DM_law_886 : decode (mC M_law) 886 = .ok (.iload_n 3, 1) := by decide +kernel
theorem DM_law_887 : decode (mC M_law) 887 = .ok (.iconst 2, 1) := by decide +kernel
theorem DM_law_888 : decode (mC M_law) 888 = .ok (.iadd, 1) := by decide +kernel
theorem DM_law_889 : decode (mC M_law) 889 = .ok (.iaload, 1) := by decide +kernel
theorem DM_law_890 : decode (mC M_law) 890 = .ok (.invokevirtual 118, 3) := by decide +kernel
theorem DM_law_893 : decode (mC M_law) 893 = .ok (.aload_n 2, 1) := by decide +kernel
theorem DM_law_894 : decode (mC M_law) 894 = .ok (.aload_n 0, 1) := by decide +kernel
theorem DM_law_895 : decode (mC M_law) 895 = .ok (.iload_n 3, 1) := by decide +kernel
theorem DM_law_896 : decode (mC M_law) 896 = .ok (.iconst 1, 1) := by decide +kernel
theorem DM_law_897 : decode (mC M_law) 897 = .ok (.iadd, 1) := by decide +kernel
theorem DM_law_898 : decode (mC M_law) 898 = .ok (.iaload, 1) := by decide +kernel
theorem DM_law_899 : decode (mC M_law) 899 = .ok (.aload_n 0, 1) := by decide +kernel
theorem DM_law_900 : decode (mC M_law) 900 = .ok (.iload_n 3, 1) := by decide +kernel
theorem DM_law_901 : decode (mC M_law) 901 = .ok (.iconst 2, 1) := by decide +kernel
theorem DM_law_902 : decode (mC M_law) 902 = .ok (.iadd, 1) := by decide +kernel
theorem DM_law_903 : decode (mC M_law) 903 = .ok (.iaload, 1) := by decide +kernel
theorem DM_law_904 : decode (mC M_law) 904 = .ok (.invokevirtual 121, 3) := by decide +kernel
theorem DM_law_907 : decode (mC M_law) 907 = .ok (.if_icmp .eq 64, 3) := by decide +kernel
theorem DM_law_910 : decode (mC M_law) 910 = .ok (.iconst 0, 1) := by decide +kernel
theorem DM_law_911 : decode (mC M_law) 911 = .ok (.ireturn, 1) := by decide +kernel
theorem DM_law_912 : decode (mC M_law) 912 = .ok (.aload_n 1, 1) := by decide +kernel
theorem DM_law_913 : decode (mC M_law) 913 = .ok (.aload_n 0, 1) := by decide +kernel
theorem DM_law_914 : decode (mC M_law) 914 = .ok (.iload_n 3, 1) := by decide +kernel
theorem DM_law_915 : decode (mC M_law) 915 = .ok (.iconst 1, 1) := by decide +kernel
theorem DM_law_916 : decode (mC M_law) 916 = .ok (.iadd, 1) := by decide +kernel
theorem DM_law_917 : decode (mC M_law) 917 = .ok (.iaload, 1) := by decide +kernel
theorem DM_law_918 : decode (mC M_law) 918 = .ok (.invokevirtual 122, 3) := by decide +kernel
theorem DM_law_921 : decode (mC M_law) 921 = .ok (.aload_n 2, 1) := by decide +kernel
theorem DM_law_922 : decode (mC M_law) 922 = .ok (.aload_n 0, 1) := by decide +kernel
theorem DM_law_923 : decode (mC M_law) 923 = .ok (.iload_n 3, 1) := by decide +kernel
theorem DM_law_924 : decode (mC M_law) 924 = .ok (.iconst 1, 1) := by decide +kernel
theorem DM_law_925 : decode (mC M_law) 925 = .ok (.iadd, 1) := by decide +kernel
theorem DM_law_926 : decode (mC M_law) 926 = .ok (.iaload, 1) := by decide +kernel
theorem DM_law_927 : decode (mC M_law) 927 = .ok (.invokevirtual 125, 3) := by decide +kernel
theorem DM_law_930 : decode (mC M_law) 930 = .ok (.if_icmp .eq 41, 3) := by decide +kernel
theorem DM_law_933 : decode (mC M_law) 933 = .ok (.iconst 0, 1) := by decide +kernel
theorem DM_law_934 : decode (mC M_law) 934 = .ok (.ireturn, 1) := by decide +kernel
theorem DM_law_935 : decode (mC M_law) 935 = .ok (.aload_n 1, 1) := by decide +kernel
theorem DM_law_936 : decode (mC M_law) 936 = .ok (.aload_n 0, 1) := by decide +kernel
theorem DM_law_937 : decode (mC M_law) 937 = .ok (.iload_n 3, 1) := by decide +kernel
theorem DM_law_938 : decode (mC M_law) 938 = .ok (.iconst 1, 1) := by decide +kernel
theorem DM_law_939 : decode (mC M_law) 939 = .ok (.iadd, 1) := by decide +kernel
theorem DM_law_940 : decode (mC M_law) 940 = .ok (.iaload, 1) := by decide +kernel
theorem DM_law_941 : decode (mC M_law) 941 = .ok (.invokevirtual 126, 3) := by decide +kernel
theorem DM_law_944 : decode (mC M_law) 944 = .ok (.aload_n 2, 1) := by decide +kernel
theorem DM_law_945 : decode (mC M_law) 945 = .ok (.aload_n 0, 1) := by decide +kernel
theorem DM_law_946 : decode (mC M_law) 946 = .ok (.iload_n 3, 1) := by decide +kernel
theorem DM_law_947 : decode (mC M_law) 947 = .ok (.iconst 1, 1) := by decide +kernel
theorem DM_law_948 : decode (mC M_law) 948 = .ok (.iadd, 1) := by decide +kernel
theorem DM_law_949 : decode (mC M_law) 949 = .ok (.iaload, 1) := by decide +kernel
theorem DM_law_950 : decode (mC M_law) 950 = .ok (.invokevirtual 129, 3) := by decide +kernel
theorem DM_law_953 : decode (mC M_law) 953 = .ok (.if_icmp .eq 18, 3) := by decide +kernel
theorem DM_law_956 : decode (mC M_law) 956 = .ok (.iconst 0, 1) := by decide +kernel
theorem DM_law_957 : decode (mC M_law) 957 = .ok (.ireturn, 1) := by decide +kernel
theorem DM_law_958 : decode (mC M_law) 958 = .ok (.aload_n 1, 1) := by decide +kernel
theorem DM_law_959 : decode (mC M_law) 959 = .ok (.invokevirtual 130, 3) := by decide +kernel
theorem DM_law_962 : decode (mC M_law) 962 = .ok (.aload_n 2, 1) := by decide +kernel
theorem DM_law_963 : decode (mC M_law) 963 = .ok (.invokevirtual 133, 3) := by decide +kernel
theorem DM_law_966 : decode (mC M_law) 966 = .ok (.if_icmp .eq 5, 3) := by decide +kernel
theorem DM_law_969 : decode (mC M_law) 969 = .ok (.iconst 0, 1) := by decide +kernel
theorem DM_law_970 : decode (mC M_law) 970 = .ok (.ireturn, 1) := by decide +kernel
theorem DM_law_971 : decode (mC M_law) 971 = .ok (.iinc 3 6, 3) := by decide +kernel
theorem DM_law_974 : decode (mC M_law) 974 = .ok (.goto (-956), 3) := by decide +kernel
theorem DM_law_977 : decode (mC M_law) 977 = .ok (.iconst 1, 1) := by decide +kernel
theorem DM_law_978 : decode (mC M_law) 978 = .ok (.ireturn, 1) := by decide +kernel
end
