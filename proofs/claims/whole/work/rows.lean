section
-- ===== PART A: goes FIRST, ahead of the names: the tables' words, and 'selects' of the private methods out of them =====
/-- a private method of a class that the tables say can be made, by its rows of tables_1 -/
def lw_okq (q : MethodName × Nat) : Prop := (q.1.cls ≠ "java/lang/invoke/MethodHandle" ∧ q.1.cls ≠ "java/lang/invoke/VarHandle") ∧ Cond.instantiable q.1.cls q.2 ∈ tables_1 ∧ Cond.privateMethod q.1 ∈ tables_1 ∧ Cond.instanceMethod q.1 ∈ tables_1
theorem lw_p0 : lw_okq (⟨"AlphaCourt", "found", "(I)I"⟩, 11) := ⟨⟨by decide +kernel, by decide +kernel⟩, List.mem_of_getElem? (i := 13) (by decide +kernel), List.mem_of_getElem? (i := 288) (by decide +kernel), List.mem_of_getElem? (i := 289) (by decide +kernel)⟩
theorem lw_p1 : lw_okq (⟨"AlphaCourt", "unfound", "(I)I"⟩, 11) := ⟨⟨by decide +kernel, by decide +kernel⟩, List.mem_of_getElem? (i := 13) (by decide +kernel), List.mem_of_getElem? (i := 297) (by decide +kernel), List.mem_of_getElem? (i := 298) (by decide +kernel)⟩
theorem lw_p2 : lw_okq (⟨"AlphaCourt$Reader", "step", "()V"⟩, 8) := ⟨⟨by decide +kernel, by decide +kernel⟩, List.mem_of_getElem? (i := 23) (by decide +kernel), List.mem_of_getElem? (i := 350) (by decide +kernel), List.mem_of_getElem? (i := 351) (by decide +kernel)⟩
theorem lw_p3 : lw_okq (⟨"AlphaCourt$Reader", "isFigureAt", "(I)Z"⟩, 8) := ⟨⟨by decide +kernel, by decide +kernel⟩, List.mem_of_getElem? (i := 23) (by decide +kernel), List.mem_of_getElem? (i := 354) (by decide +kernel), List.mem_of_getElem? (i := 355) (by decide +kernel)⟩
theorem lw_p4 : lw_okq (⟨"AlphaCourt$Reader", "readLaw", "(LAlphaCourt$Court;)Z"⟩, 8) := ⟨⟨by decide +kernel, by decide +kernel⟩, List.mem_of_getElem? (i := 23) (by decide +kernel), List.mem_of_getElem? (i := 358) (by decide +kernel), List.mem_of_getElem? (i := 359) (by decide +kernel)⟩
theorem lw_p5 : lw_okq (⟨"AlphaCourt$Reader", "passOver", "(I)Z"⟩, 8) := ⟨⟨by decide +kernel, by decide +kernel⟩, List.mem_of_getElem? (i := 23) (by decide +kernel), List.mem_of_getElem? (i := 362) (by decide +kernel), List.mem_of_getElem? (i := 363) (by decide +kernel)⟩
theorem lw_p6 : lw_okq (⟨"AlphaCourt$Reader", "hasFault", "(I)Z"⟩, 8) := ⟨⟨by decide +kernel, by decide +kernel⟩, List.mem_of_getElem? (i := 23) (by decide +kernel), List.mem_of_getElem? (i := 366) (by decide +kernel), List.mem_of_getElem? (i := 367) (by decide +kernel)⟩
theorem lw_p7 : lw_okq (⟨"AlphaCourt$Reader", "isNumberIn", "(II)Z"⟩, 8) := ⟨⟨by decide +kernel, by decide +kernel⟩, List.mem_of_getElem? (i := 23) (by decide +kernel), List.mem_of_getElem? (i := 370) (by decide +kernel), List.mem_of_getElem? (i := 371) (by decide +kernel)⟩
theorem lw_p8 : lw_okq (⟨"AlphaCourt$Reader", "takeNumber", "()I"⟩, 8) := ⟨⟨by decide +kernel, by decide +kernel⟩, List.mem_of_getElem? (i := 23) (by decide +kernel), List.mem_of_getElem? (i := 374) (by decide +kernel), List.mem_of_getElem? (i := 375) (by decide +kernel)⟩
theorem lw_p9 : lw_okq (⟨"AlphaCourt$Reader", "readOrder", "(LAlphaCourt$Court;)Z"⟩, 8) := ⟨⟨by decide +kernel, by decide +kernel⟩, List.mem_of_getElem? (i := 23) (by decide +kernel), List.mem_of_getElem? (i := 378) (by decide +kernel), List.mem_of_getElem? (i := 379) (by decide +kernel)⟩
theorem lw_p10 : lw_okq (⟨"AlphaCourt$Reader", "isLetter", "()Z"⟩, 8) := ⟨⟨by decide +kernel, by decide +kernel⟩, List.mem_of_getElem? (i := 23) (by decide +kernel), List.mem_of_getElem? (i := 382) (by decide +kernel), List.mem_of_getElem? (i := 383) (by decide +kernel)⟩
theorem lw_p11 : lw_okq (⟨"AlphaCourt$Reader", "letterOfToken", "()I"⟩, 8) := ⟨⟨by decide +kernel, by decide +kernel⟩, List.mem_of_getElem? (i := 23) (by decide +kernel), List.mem_of_getElem? (i := 386) (by decide +kernel), List.mem_of_getElem? (i := 387) (by decide +kernel)⟩
theorem lw_p12 : lw_okq (⟨"AlphaCourt$Reader", "readPeople", "(LAlphaCourt$Court;)Z"⟩, 8) := ⟨⟨by decide +kernel, by decide +kernel⟩, List.mem_of_getElem? (i := 23) (by decide +kernel), List.mem_of_getElem? (i := 394) (by decide +kernel), List.mem_of_getElem? (i := 395) (by decide +kernel)⟩
theorem lw_p13 : lw_okq (⟨"AlphaCourt$Reader", "readPerson", "(LAlphaCourt$Court;I)Z"⟩, 8) := ⟨⟨by decide +kernel, by decide +kernel⟩, List.mem_of_getElem? (i := 23) (by decide +kernel), List.mem_of_getElem? (i := 398) (by decide +kernel), List.mem_of_getElem? (i := 399) (by decide +kernel)⟩
theorem lw_p14 : lw_okq (⟨"AlphaCourt$Court", "openDay", "(I)I"⟩, 16) := ⟨⟨by decide +kernel, by decide +kernel⟩, List.mem_of_getElem? (i := 58) (by decide +kernel), List.mem_of_getElem? (i := 429) (by decide +kernel), List.mem_of_getElem? (i := 430) (by decide +kernel)⟩
theorem lw_p15 : lw_okq (⟨"AlphaCourt$Court", "servesOn", "(II)Z"⟩, 16) := ⟨⟨by decide +kernel, by decide +kernel⟩, List.mem_of_getElem? (i := 58) (by decide +kernel), List.mem_of_getElem? (i := 434) (by decide +kernel), List.mem_of_getElem? (i := 435) (by decide +kernel)⟩
def lw_privs_1 : List (MethodName × Nat) := [(⟨"AlphaCourt", "found", "(I)I"⟩, 11), (⟨"AlphaCourt", "unfound", "(I)I"⟩, 11), (⟨"AlphaCourt$Reader", "step", "()V"⟩, 8), (⟨"AlphaCourt$Reader", "isFigureAt", "(I)Z"⟩, 8), (⟨"AlphaCourt$Reader", "readLaw", "(LAlphaCourt$Court;)Z"⟩, 8), (⟨"AlphaCourt$Reader", "passOver", "(I)Z"⟩, 8), (⟨"AlphaCourt$Reader", "hasFault", "(I)Z"⟩, 8), (⟨"AlphaCourt$Reader", "isNumberIn", "(II)Z"⟩, 8), (⟨"AlphaCourt$Reader", "takeNumber", "()I"⟩, 8), (⟨"AlphaCourt$Reader", "readOrder", "(LAlphaCourt$Court;)Z"⟩, 8), (⟨"AlphaCourt$Reader", "isLetter", "()Z"⟩, 8), (⟨"AlphaCourt$Reader", "letterOfToken", "()I"⟩, 8), (⟨"AlphaCourt$Reader", "readPeople", "(LAlphaCourt$Court;)Z"⟩, 8), (⟨"AlphaCourt$Reader", "readPerson", "(LAlphaCourt$Court;I)Z"⟩, 8), (⟨"AlphaCourt$Court", "openDay", "(I)I"⟩, 16), (⟨"AlphaCourt$Court", "servesOn", "(II)Z"⟩, 16)]
theorem lw_r1 : ∀ q ∈ lw_privs_1, lw_okq q := List.forall_mem_cons.mpr ⟨lw_p0, List.forall_mem_cons.mpr ⟨lw_p1, List.forall_mem_cons.mpr ⟨lw_p2, List.forall_mem_cons.mpr ⟨lw_p3, List.forall_mem_cons.mpr ⟨lw_p4, List.forall_mem_cons.mpr ⟨lw_p5, List.forall_mem_cons.mpr ⟨lw_p6, List.forall_mem_cons.mpr ⟨lw_p7, List.forall_mem_cons.mpr ⟨lw_p8, List.forall_mem_cons.mpr ⟨lw_p9, List.forall_mem_cons.mpr ⟨lw_p10, List.forall_mem_cons.mpr ⟨lw_p11, List.forall_mem_cons.mpr ⟨lw_p12, List.forall_mem_cons.mpr ⟨lw_p13, List.forall_mem_cons.mpr ⟨lw_p14, List.forall_mem_cons.mpr ⟨lw_p15, fun _ h => absurd h List.not_mem_nil⟩⟩⟩⟩⟩⟩⟩⟩⟩⟩⟩⟩⟩⟩⟩⟩
theorem lw_p16 : lw_okq (⟨"AlphaCourt$Court", "firstOn", "(II)I"⟩, 16) := ⟨⟨by decide +kernel, by decide +kernel⟩, List.mem_of_getElem? (i := 58) (by decide +kernel), List.mem_of_getElem? (i := 449) (by decide +kernel), List.mem_of_getElem? (i := 450) (by decide +kernel)⟩
theorem lw_p17 : lw_okq (⟨"AlphaCourt$Court", "compareNames", "(III)I"⟩, 16) := ⟨⟨by decide +kernel, by decide +kernel⟩, List.mem_of_getElem? (i := 58) (by decide +kernel), List.mem_of_getElem? (i := 475) (by decide +kernel), List.mem_of_getElem? (i := 476) (by decide +kernel)⟩
theorem lw_p18 : lw_okq (⟨"AlphaCourt$Court", "letterAsRead", "(II)I"⟩, 16) := ⟨⟨by decide +kernel, by decide +kernel⟩, List.mem_of_getElem? (i := 58) (by decide +kernel), List.mem_of_getElem? (i := 479) (by decide +kernel), List.mem_of_getElem? (i := 480) (by decide +kernel)⟩
theorem lw_p19 : lw_okq (⟨"AlphaCourt$Court", "placeInOrder", "(II)I"⟩, 16) := ⟨⟨by decide +kernel, by decide +kernel⟩, List.mem_of_getElem? (i := 58) (by decide +kernel), List.mem_of_getElem? (i := 483) (by decide +kernel), List.mem_of_getElem? (i := 484) (by decide +kernel)⟩
theorem lw_p20 : lw_okq (⟨"AlphaCourt$Acts", "keep", "(IIII)V"⟩, 6) := ⟨⟨by decide +kernel, by decide +kernel⟩, List.mem_of_getElem? (i := 146) (by decide +kernel), List.mem_of_getElem? (i := 491) (by decide +kernel), List.mem_of_getElem? (i := 492) (by decide +kernel)⟩
theorem lw_p21 : lw_okq (⟨"AlphaCourt$Acts", "latestPlace", "()I"⟩, 6) := ⟨⟨by decide +kernel, by decide +kernel⟩, List.mem_of_getElem? (i := 146) (by decide +kernel), List.mem_of_getElem? (i := 495) (by decide +kernel), List.mem_of_getElem? (i := 496) (by decide +kernel)⟩
theorem lw_p22 : lw_okq (⟨"AlphaCourt", "isPlaceOfName", "(II)Z"⟩, 11) := ⟨⟨by decide +kernel, by decide +kernel⟩, List.mem_of_getElem? (i := 13) (by decide +kernel), List.mem_of_getElem? (i := 511) (by decide +kernel), List.mem_of_getElem? (i := 512) (by decide +kernel)⟩
theorem lw_p23 : lw_okq (⟨"AlphaCourt", "isPerson", "(I)Z"⟩, 11) := ⟨⟨by decide +kernel, by decide +kernel⟩, List.mem_of_getElem? (i := 13) (by decide +kernel), List.mem_of_getElem? (i := 515) (by decide +kernel), List.mem_of_getElem? (i := 516) (by decide +kernel)⟩
theorem lw_p24 : lw_okq (⟨"AlphaCourt", "foretell", "(I)LAlphaCourt$Court;"⟩, 11) := ⟨⟨by decide +kernel, by decide +kernel⟩, List.mem_of_getElem? (i := 13) (by decide +kernel), List.mem_of_getElem? (i := 575) (by decide +kernel), List.mem_of_getElem? (i := 576) (by decide +kernel)⟩
theorem lw_p25 : lw_okq (⟨"AlphaCourt$Renaming", "canBeBehind", "(III)Z"⟩, 1) := ⟨⟨by decide +kernel, by decide +kernel⟩, List.mem_of_getElem? (i := 172) (by decide +kernel), List.mem_of_getElem? (i := 602) (by decide +kernel), List.mem_of_getElem? (i := 603) (by decide +kernel)⟩
theorem lw_p26 : lw_okq (⟨"AlphaCourt$Renaming", "tryNames", "(LAlphaCourt$Court;IIIII)Z"⟩, 1) := ⟨⟨by decide +kernel, by decide +kernel⟩, List.mem_of_getElem? (i := 172) (by decide +kernel), List.mem_of_getElem? (i := 610) (by decide +kernel), List.mem_of_getElem? (i := 611) (by decide +kernel)⟩
theorem lw_p27 : lw_okq (⟨"AlphaCourt$Planner", "openSeats", "(LAlphaCourt$Court;)V"⟩, 6) := ⟨⟨by decide +kernel, by decide +kernel⟩, List.mem_of_getElem? (i := 185) (by decide +kernel), List.mem_of_getElem? (i := 627) (by decide +kernel), List.mem_of_getElem? (i := 628) (by decide +kernel)⟩
theorem lw_p28 : lw_okq (⟨"AlphaCourt$Planner", "seatOneByOne", "(LAlphaCourt$Court;III)V"⟩, 6) := ⟨⟨by decide +kernel, by decide +kernel⟩, List.mem_of_getElem? (i := 185) (by decide +kernel), List.mem_of_getElem? (i := 635) (by decide +kernel), List.mem_of_getElem? (i := 636) (by decide +kernel)⟩
theorem lw_p29 : lw_okq (⟨"AlphaCourt$Planner", "firstOpenSeat", "()I"⟩, 6) := ⟨⟨by decide +kernel, by decide +kernel⟩, List.mem_of_getElem? (i := 185) (by decide +kernel), List.mem_of_getElem? (i := 640) (by decide +kernel), List.mem_of_getElem? (i := 641) (by decide +kernel)⟩
theorem lw_p30 : lw_okq (⟨"AlphaCourt", "areAllPeople", "(LAlphaCourt$Row;II)Z"⟩, 11) := ⟨⟨by decide +kernel, by decide +kernel⟩, List.mem_of_getElem? (i := 13) (by decide +kernel), List.mem_of_getElem? (i := 656) (by decide +kernel), List.mem_of_getElem? (i := 657) (by decide +kernel)⟩
theorem lw_p31 : lw_okq (⟨"AlphaCourt", "areSeatedNext", "(LAlphaCourt$Row;III)Z"⟩, 11) := ⟨⟨by decide +kernel, by decide +kernel⟩, List.mem_of_getElem? (i := 13) (by decide +kernel), List.mem_of_getElem? (i := 660) (by decide +kernel), List.mem_of_getElem? (i := 661) (by decide +kernel)⟩
def lw_privs_2 : List (MethodName × Nat) := [(⟨"AlphaCourt$Court", "firstOn", "(II)I"⟩, 16), (⟨"AlphaCourt$Court", "compareNames", "(III)I"⟩, 16), (⟨"AlphaCourt$Court", "letterAsRead", "(II)I"⟩, 16), (⟨"AlphaCourt$Court", "placeInOrder", "(II)I"⟩, 16), (⟨"AlphaCourt$Acts", "keep", "(IIII)V"⟩, 6), (⟨"AlphaCourt$Acts", "latestPlace", "()I"⟩, 6), (⟨"AlphaCourt", "isPlaceOfName", "(II)Z"⟩, 11), (⟨"AlphaCourt", "isPerson", "(I)Z"⟩, 11), (⟨"AlphaCourt", "foretell", "(I)LAlphaCourt$Court;"⟩, 11), (⟨"AlphaCourt$Renaming", "canBeBehind", "(III)Z"⟩, 1), (⟨"AlphaCourt$Renaming", "tryNames", "(LAlphaCourt$Court;IIIII)Z"⟩, 1), (⟨"AlphaCourt$Planner", "openSeats", "(LAlphaCourt$Court;)V"⟩, 6), (⟨"AlphaCourt$Planner", "seatOneByOne", "(LAlphaCourt$Court;III)V"⟩, 6), (⟨"AlphaCourt$Planner", "firstOpenSeat", "()I"⟩, 6), (⟨"AlphaCourt", "areAllPeople", "(LAlphaCourt$Row;II)Z"⟩, 11), (⟨"AlphaCourt", "areSeatedNext", "(LAlphaCourt$Row;III)Z"⟩, 11)]
theorem lw_r2 : ∀ q ∈ lw_privs_2, lw_okq q := List.forall_mem_cons.mpr ⟨lw_p16, List.forall_mem_cons.mpr ⟨lw_p17, List.forall_mem_cons.mpr ⟨lw_p18, List.forall_mem_cons.mpr ⟨lw_p19, List.forall_mem_cons.mpr ⟨lw_p20, List.forall_mem_cons.mpr ⟨lw_p21, List.forall_mem_cons.mpr ⟨lw_p22, List.forall_mem_cons.mpr ⟨lw_p23, List.forall_mem_cons.mpr ⟨lw_p24, List.forall_mem_cons.mpr ⟨lw_p25, List.forall_mem_cons.mpr ⟨lw_p26, List.forall_mem_cons.mpr ⟨lw_p27, List.forall_mem_cons.mpr ⟨lw_p28, List.forall_mem_cons.mpr ⟨lw_p29, List.forall_mem_cons.mpr ⟨lw_p30, List.forall_mem_cons.mpr ⟨lw_p31, fun _ h => absurd h List.not_mem_nil⟩⟩⟩⟩⟩⟩⟩⟩⟩⟩⟩⟩⟩⟩⟩⟩
theorem lw_p32 : lw_okq (⟨"AlphaCourt$Asks", "give", "(LAlphaCourt$Court;III)I"⟩, 2) := ⟨⟨by decide +kernel, by decide +kernel⟩, List.mem_of_getElem? (i := 213) (by decide +kernel), List.mem_of_getElem? (i := 697) (by decide +kernel), List.mem_of_getElem? (i := 698) (by decide +kernel)⟩
theorem lw_p33 : lw_okq (⟨"AlphaCourt$Asks", "leave", "(I)V"⟩, 2) := ⟨⟨by decide +kernel, by decide +kernel⟩, List.mem_of_getElem? (i := 213) (by decide +kernel), List.mem_of_getElem? (i := 701) (by decide +kernel), List.mem_of_getElem? (i := 702) (by decide +kernel)⟩
theorem lw_p34 : lw_okq (⟨"AlphaCourt", "howManyRows", "()I"⟩, 11) := ⟨⟨by decide +kernel, by decide +kernel⟩, List.mem_of_getElem? (i := 13) (by decide +kernel), List.mem_of_getElem? (i := 713) (by decide +kernel), List.mem_of_getElem? (i := 714) (by decide +kernel)⟩
theorem lw_p35 : lw_okq (⟨"AlphaCourtModel", "found", "(I)I"⟩, 27) := ⟨⟨by decide +kernel, by decide +kernel⟩, List.mem_of_getElem? (i := 721) (by decide +kernel), List.mem_of_getElem? (i := 822) (by decide +kernel), List.mem_of_getElem? (i := 823) (by decide +kernel)⟩
theorem lw_p36 : lw_okq (⟨"AlphaCourtModel", "well", "(I)I"⟩, 27) := ⟨⟨by decide +kernel, by decide +kernel⟩, List.mem_of_getElem? (i := 721) (by decide +kernel), List.mem_of_getElem? (i := 827) (by decide +kernel), List.mem_of_getElem? (i := 828) (by decide +kernel)⟩
theorem lw_p37 : lw_okq (⟨"AlphaCourtModel", "isMissing", "(I)Z"⟩, 27) := ⟨⟨by decide +kernel, by decide +kernel⟩, List.mem_of_getElem? (i := 721) (by decide +kernel), List.mem_of_getElem? (i := 835) (by decide +kernel), List.mem_of_getElem? (i := 836) (by decide +kernel)⟩
theorem lw_p38 : lw_okq (⟨"AlphaCourtModel", "isPart", "(III)Z"⟩, 27) := ⟨⟨by decide +kernel, by decide +kernel⟩, List.mem_of_getElem? (i := 721) (by decide +kernel), List.mem_of_getElem? (i := 846) (by decide +kernel), List.mem_of_getElem? (i := 847) (by decide +kernel)⟩
theorem lw_p39 : lw_okq (⟨"AlphaCourtModel", "advances", "()V"⟩, 27) := ⟨⟨by decide +kernel, by decide +kernel⟩, List.mem_of_getElem? (i := 721) (by decide +kernel), List.mem_of_getElem? (i := 863) (by decide +kernel), List.mem_of_getElem? (i := 864) (by decide +kernel)⟩
theorem lw_p40 : lw_okq (⟨"AlphaCourtModel", "byteAt", "(I)I"⟩, 27) := ⟨⟨by decide +kernel, by decide +kernel⟩, List.mem_of_getElem? (i := 721) (by decide +kernel), List.mem_of_getElem? (i := 867) (by decide +kernel), List.mem_of_getElem? (i := 868) (by decide +kernel)⟩
theorem lw_p41 : lw_okq (⟨"AlphaCourtModel", "takes", "(ZI)I"⟩, 27) := ⟨⟨by decide +kernel, by decide +kernel⟩, List.mem_of_getElem? (i := 721) (by decide +kernel), List.mem_of_getElem? (i := 871) (by decide +kernel), List.mem_of_getElem? (i := 872) (by decide +kernel)⟩
theorem lw_p42 : lw_okq (⟨"AlphaCourtModel", "isWell", "()Z"⟩, 27) := ⟨⟨by decide +kernel, by decide +kernel⟩, List.mem_of_getElem? (i := 721) (by decide +kernel), List.mem_of_getElem? (i := 875) (by decide +kernel), List.mem_of_getElem? (i := 876) (by decide +kernel)⟩
theorem lw_p43 : lw_okq (⟨"AlphaCourtModel", "figure", "(II)I"⟩, 27) := ⟨⟨by decide +kernel, by decide +kernel⟩, List.mem_of_getElem? (i := 721) (by decide +kernel), List.mem_of_getElem? (i := 879) (by decide +kernel), List.mem_of_getElem? (i := 880) (by decide +kernel)⟩
theorem lw_p44 : lw_okq (⟨"AlphaCourtModel", "readsOrder", "()V"⟩, 27) := ⟨⟨by decide +kernel, by decide +kernel⟩, List.mem_of_getElem? (i := 721) (by decide +kernel), List.mem_of_getElem? (i := 883) (by decide +kernel), List.mem_of_getElem? (i := 884) (by decide +kernel)⟩
theorem lw_p45 : lw_okq (⟨"AlphaCourtModel", "isName", "()Z"⟩, 27) := ⟨⟨by decide +kernel, by decide +kernel⟩, List.mem_of_getElem? (i := 721) (by decide +kernel), List.mem_of_getElem? (i := 887) (by decide +kernel), List.mem_of_getElem? (i := 888) (by decide +kernel)⟩
theorem lw_p46 : lw_okq (⟨"AlphaCourtModel", "readsPerson", "()V"⟩, 27) := ⟨⟨by decide +kernel, by decide +kernel⟩, List.mem_of_getElem? (i := 721) (by decide +kernel), List.mem_of_getElem? (i := 897) (by decide +kernel), List.mem_of_getElem? (i := 898) (by decide +kernel)⟩
theorem lw_p47 : lw_okq (⟨"AlphaCourtModel", "takes2", "(Z)V"⟩, 27) := ⟨⟨by decide +kernel, by decide +kernel⟩, List.mem_of_getElem? (i := 721) (by decide +kernel), List.mem_of_getElem? (i := 901) (by decide +kernel), List.mem_of_getElem? (i := 902) (by decide +kernel)⟩
def lw_privs_3 : List (MethodName × Nat) := [(⟨"AlphaCourt$Asks", "give", "(LAlphaCourt$Court;III)I"⟩, 2), (⟨"AlphaCourt$Asks", "leave", "(I)V"⟩, 2), (⟨"AlphaCourt", "howManyRows", "()I"⟩, 11), (⟨"AlphaCourtModel", "found", "(I)I"⟩, 27), (⟨"AlphaCourtModel", "well", "(I)I"⟩, 27), (⟨"AlphaCourtModel", "isMissing", "(I)Z"⟩, 27), (⟨"AlphaCourtModel", "isPart", "(III)Z"⟩, 27), (⟨"AlphaCourtModel", "advances", "()V"⟩, 27), (⟨"AlphaCourtModel", "byteAt", "(I)I"⟩, 27), (⟨"AlphaCourtModel", "takes", "(ZI)I"⟩, 27), (⟨"AlphaCourtModel", "isWell", "()Z"⟩, 27), (⟨"AlphaCourtModel", "figure", "(II)I"⟩, 27), (⟨"AlphaCourtModel", "readsOrder", "()V"⟩, 27), (⟨"AlphaCourtModel", "isName", "()Z"⟩, 27), (⟨"AlphaCourtModel", "readsPerson", "()V"⟩, 27), (⟨"AlphaCourtModel", "takes2", "(Z)V"⟩, 27)]
theorem lw_r3 : ∀ q ∈ lw_privs_3, lw_okq q := List.forall_mem_cons.mpr ⟨lw_p32, List.forall_mem_cons.mpr ⟨lw_p33, List.forall_mem_cons.mpr ⟨lw_p34, List.forall_mem_cons.mpr ⟨lw_p35, List.forall_mem_cons.mpr ⟨lw_p36, List.forall_mem_cons.mpr ⟨lw_p37, List.forall_mem_cons.mpr ⟨lw_p38, List.forall_mem_cons.mpr ⟨lw_p39, List.forall_mem_cons.mpr ⟨lw_p40, List.forall_mem_cons.mpr ⟨lw_p41, List.forall_mem_cons.mpr ⟨lw_p42, List.forall_mem_cons.mpr ⟨lw_p43, List.forall_mem_cons.mpr ⟨lw_p44, List.forall_mem_cons.mpr ⟨lw_p45, List.forall_mem_cons.mpr ⟨lw_p46, List.forall_mem_cons.mpr ⟨lw_p47, fun _ h => absurd h List.not_mem_nil⟩⟩⟩⟩⟩⟩⟩⟩⟩⟩⟩⟩⟩⟩⟩⟩
theorem lw_p48 : lw_okq (⟨"AlphaCourtModel", "isCourt", "()Z"⟩, 27) := ⟨⟨by decide +kernel, by decide +kernel⟩, List.mem_of_getElem? (i := 721) (by decide +kernel), List.mem_of_getElem? (i := 917) (by decide +kernel), List.mem_of_getElem? (i := 918) (by decide +kernel)⟩
theorem lw_p49 : lw_okq (⟨"AlphaCourtModel", "notes", "()V"⟩, 27) := ⟨⟨by decide +kernel, by decide +kernel⟩, List.mem_of_getElem? (i := 721) (by decide +kernel), List.mem_of_getElem? (i := 922) (by decide +kernel), List.mem_of_getElem? (i := 923) (by decide +kernel)⟩
theorem lw_p50 : lw_okq (⟨"AlphaCourtModel", "passes", "([II)V"⟩, 27) := ⟨⟨by decide +kernel, by decide +kernel⟩, List.mem_of_getElem? (i := 721) (by decide +kernel), List.mem_of_getElem? (i := 926) (by decide +kernel), List.mem_of_getElem? (i := 927) (by decide +kernel)⟩
theorem lw_p51 : lw_okq (⟨"AlphaCourtModel", "isPlaceOf", "(II)Z"⟩, 27) := ⟨⟨by decide +kernel, by decide +kernel⟩, List.mem_of_getElem? (i := 721) (by decide +kernel), List.mem_of_getElem? (i := 967) (by decide +kernel), List.mem_of_getElem? (i := 968) (by decide +kernel)⟩
theorem lw_p52 : lw_okq (⟨"AlphaCourtModel", "isPerson", "(I)Z"⟩, 27) := ⟨⟨by decide +kernel, by decide +kernel⟩, List.mem_of_getElem? (i := 721) (by decide +kernel), List.mem_of_getElem? (i := 971) (by decide +kernel), List.mem_of_getElem? (i := 972) (by decide +kernel)⟩
theorem lw_p53 : lw_okq (⟨"AlphaCourtModel", "beforeIt", "(I)I"⟩, 27) := ⟨⟨by decide +kernel, by decide +kernel⟩, List.mem_of_getElem? (i := 721) (by decide +kernel), List.mem_of_getElem? (i := 987) (by decide +kernel), List.mem_of_getElem? (i := 988) (by decide +kernel)⟩
theorem lw_p54 : lw_okq (⟨"AlphaCourtModel", "goes", "(I)V"⟩, 27) := ⟨⟨by decide +kernel, by decide +kernel⟩, List.mem_of_getElem? (i := 721) (by decide +kernel), List.mem_of_getElem? (i := 1003) (by decide +kernel), List.mem_of_getElem? (i := 1004) (by decide +kernel)⟩
theorem lw_p55 : lw_okq (⟨"AlphaCourtModel", "waitedTried", "()I"⟩, 27) := ⟨⟨by decide +kernel, by decide +kernel⟩, List.mem_of_getElem? (i := 721) (by decide +kernel), List.mem_of_getElem? (i := 1011) (by decide +kernel), List.mem_of_getElem? (i := 1012) (by decide +kernel)⟩
theorem lw_p56 : lw_okq (⟨"AlphaCourtModel", "lays", "(II)I"⟩, 27) := ⟨⟨by decide +kernel, by decide +kernel⟩, List.mem_of_getElem? (i := 721) (by decide +kernel), List.mem_of_getElem? (i := 1022) (by decide +kernel), List.mem_of_getElem? (i := 1023) (by decide +kernel)⟩
theorem lw_p57 : lw_okq (⟨"AlphaCourtModel", "isLast", "([II)Z"⟩, 27) := ⟨⟨by decide +kernel, by decide +kernel⟩, List.mem_of_getElem? (i := 721) (by decide +kernel), List.mem_of_getElem? (i := 1026) (by decide +kernel), List.mem_of_getElem? (i := 1027) (by decide +kernel)⟩
theorem lw_p58 : lw_okq (⟨"AlphaCourtModel", "lines", "(II)Z"⟩, 27) := ⟨⟨by decide +kernel, by decide +kernel⟩, List.mem_of_getElem? (i := 721) (by decide +kernel), List.mem_of_getElem? (i := 1038) (by decide +kernel), List.mem_of_getElem? (i := 1039) (by decide +kernel)⟩
theorem lw_p59 : lw_okq (⟨"AlphaCourtModel", "waitedByLine", "(I)I"⟩, 27) := ⟨⟨by decide +kernel, by decide +kernel⟩, List.mem_of_getElem? (i := 721) (by decide +kernel), List.mem_of_getElem? (i := 1042) (by decide +kernel), List.mem_of_getElem? (i := 1043) (by decide +kernel)⟩
theorem lw_p60 : lw_okq (⟨"AlphaCourtModel", "passedBy", "(I)I"⟩, 27) := ⟨⟨by decide +kernel, by decide +kernel⟩, List.mem_of_getElem? (i := 721) (by decide +kernel), List.mem_of_getElem? (i := 1051) (by decide +kernel), List.mem_of_getElem? (i := 1052) (by decide +kernel)⟩
theorem lw_p61 : lw_okq (⟨"AlphaCourtModel", "saintSize", "(I)I"⟩, 27) := ⟨⟨by decide +kernel, by decide +kernel⟩, List.mem_of_getElem? (i := 721) (by decide +kernel), List.mem_of_getElem? (i := 1079) (by decide +kernel), List.mem_of_getElem? (i := 1080) (by decide +kernel)⟩
theorem lw_p62 : lw_okq (⟨"AlphaCourtModel", "begins", "(I)V"⟩, 27) := ⟨⟨by decide +kernel, by decide +kernel⟩, List.mem_of_getElem? (i := 721) (by decide +kernel), List.mem_of_getElem? (i := 1083) (by decide +kernel), List.mem_of_getElem? (i := 1084) (by decide +kernel)⟩
theorem lw_p63 : lw_okq (⟨"AlphaCourtModel", "plainSize", "(I)I"⟩, 27) := ⟨⟨by decide +kernel, by decide +kernel⟩, List.mem_of_getElem? (i := 721) (by decide +kernel), List.mem_of_getElem? (i := 1087) (by decide +kernel), List.mem_of_getElem? (i := 1088) (by decide +kernel)⟩
def lw_privs_4 : List (MethodName × Nat) := [(⟨"AlphaCourtModel", "isCourt", "()Z"⟩, 27), (⟨"AlphaCourtModel", "notes", "()V"⟩, 27), (⟨"AlphaCourtModel", "passes", "([II)V"⟩, 27), (⟨"AlphaCourtModel", "isPlaceOf", "(II)Z"⟩, 27), (⟨"AlphaCourtModel", "isPerson", "(I)Z"⟩, 27), (⟨"AlphaCourtModel", "beforeIt", "(I)I"⟩, 27), (⟨"AlphaCourtModel", "goes", "(I)V"⟩, 27), (⟨"AlphaCourtModel", "waitedTried", "()I"⟩, 27), (⟨"AlphaCourtModel", "lays", "(II)I"⟩, 27), (⟨"AlphaCourtModel", "isLast", "([II)Z"⟩, 27), (⟨"AlphaCourtModel", "lines", "(II)Z"⟩, 27), (⟨"AlphaCourtModel", "waitedByLine", "(I)I"⟩, 27), (⟨"AlphaCourtModel", "passedBy", "(I)I"⟩, 27), (⟨"AlphaCourtModel", "saintSize", "(I)I"⟩, 27), (⟨"AlphaCourtModel", "begins", "(I)V"⟩, 27), (⟨"AlphaCourtModel", "plainSize", "(I)I"⟩, 27)]
theorem lw_r4 : ∀ q ∈ lw_privs_4, lw_okq q := List.forall_mem_cons.mpr ⟨lw_p48, List.forall_mem_cons.mpr ⟨lw_p49, List.forall_mem_cons.mpr ⟨lw_p50, List.forall_mem_cons.mpr ⟨lw_p51, List.forall_mem_cons.mpr ⟨lw_p52, List.forall_mem_cons.mpr ⟨lw_p53, List.forall_mem_cons.mpr ⟨lw_p54, List.forall_mem_cons.mpr ⟨lw_p55, List.forall_mem_cons.mpr ⟨lw_p56, List.forall_mem_cons.mpr ⟨lw_p57, List.forall_mem_cons.mpr ⟨lw_p58, List.forall_mem_cons.mpr ⟨lw_p59, List.forall_mem_cons.mpr ⟨lw_p60, List.forall_mem_cons.mpr ⟨lw_p61, List.forall_mem_cons.mpr ⟨lw_p62, List.forall_mem_cons.mpr ⟨lw_p63, fun _ h => absurd h List.not_mem_nil⟩⟩⟩⟩⟩⟩⟩⟩⟩⟩⟩⟩⟩⟩⟩⟩
theorem lw_p64 : lw_okq (⟨"AlphaCourtModel", "plainMark", "(I)I"⟩, 27) := ⟨⟨by decide +kernel, by decide +kernel⟩, List.mem_of_getElem? (i := 721) (by decide +kernel), List.mem_of_getElem? (i := 1091) (by decide +kernel), List.mem_of_getElem? (i := 1092) (by decide +kernel)⟩
theorem lw_p65 : lw_okq (⟨"AlphaCourtModel", "saintMark", "(I)I"⟩, 27) := ⟨⟨by decide +kernel, by decide +kernel⟩, List.mem_of_getElem? (i := 721) (by decide +kernel), List.mem_of_getElem? (i := 1095) (by decide +kernel), List.mem_of_getElem? (i := 1096) (by decide +kernel)⟩
def lw_privs_5 : List (MethodName × Nat) := [(⟨"AlphaCourtModel", "plainMark", "(I)I"⟩, 27), (⟨"AlphaCourtModel", "saintMark", "(I)I"⟩, 27)]
theorem lw_r5 : ∀ q ∈ lw_privs_5, lw_okq q := List.forall_mem_cons.mpr ⟨lw_p64, List.forall_mem_cons.mpr ⟨lw_p65, fun _ h => absurd h List.not_mem_nil⟩⟩
def lw_privs : List (MethodName × Nat) := lw_privs_1 ++ (lw_privs_2 ++ (lw_privs_3 ++ (lw_privs_4 ++ (lw_privs_5))))
def lw_tbl : List Cond := k2_sels lw_privs ++ tables_1
theorem lw_privs_ok : ∀ q ∈ lw_privs, lw_okq q := by
  show ∀ q ∈ lw_privs_1 ++ (lw_privs_2 ++ (lw_privs_3 ++ (lw_privs_4 ++ (lw_privs_5)))), lw_okq q
  exact List.forall_mem_append.mpr ⟨lw_r1, List.forall_mem_append.mpr ⟨lw_r2, List.forall_mem_append.mpr ⟨lw_r3, List.forall_mem_append.mpr ⟨lw_r4, lw_r5⟩⟩⟩⟩
end
section
def RX0 : String := "AlphaCourt$Acts"
def TX0 : u_T := fun k => match k with
  | 0 => ("AlphaCourt$Acts", "sorts", "[I", true)
  | 1 => ("AlphaCourt$Acts", "people", "[I", true)
  | 2 => ("AlphaCourt$Acts", "places", "[I", true)
  | 3 => ("AlphaCourt$Acts", "letters", "[I", true)
  | 4 => ("AlphaCourt$Acts", "oldest", "I", false)
  | _ => ("AlphaCourt$Acts", "size", "I", false)
def tyX0 : Nat → FieldType := fun k => match k with
  | 0 => .array .int
  | 1 => .array .int
  | 2 => .array .int
  | 3 => .array .int
  | 4 => .int
  | _ => .int
theorem nmX0 : ∀ a, a < 6 → ∀ b, b < 6 → a ≠ b → (TX0 a).2.1 ≠ (TX0 b).2.1 := by decide +kernel
theorem tyX0_ok : ∀ k, k < 6 → parseFieldDescriptor (TX0 k).2.2.1 = some (tyX0 k) := by decide +kernel
abbrev cX0_init : ByteArray := prog_2_method_1_code
def yX0_init : MethodName := ⟨RX0, "<init>", "()V"⟩
abbrev cX0_forgetAll : ByteArray := prog_2_method_2_code
def yX0_forgetAll : MethodName := ⟨RX0, "forgetAll", "()V"⟩
abbrev cX0_keepDay : ByteArray := prog_2_method_3_code
def yX0_keepDay : MethodName := ⟨RX0, "keepDay", "()V"⟩
abbrev cX0_keepForged : ByteArray := prog_2_method_4_code
def yX0_keepForged : MethodName := ⟨RX0, "keepForged", "(III)V"⟩
abbrev cX0_keepLost : ByteArray := prog_2_method_5_code
def yX0_keepLost : MethodName := ⟨RX0, "keepLost", "(I)V"⟩
abbrev cX0_keep : ByteArray := prog_2_method_6_code
def yX0_keep : MethodName := ⟨RX0, "keep", "(IIII)V"⟩
abbrev cX0_latestPlace : ByteArray := prog_2_method_7_code
def yX0_latestPlace : MethodName := ⟨RX0, "latestPlace", "()I"⟩
abbrev cX0_takeBack : ByteArray := prog_2_method_8_code
def yX0_takeBack : MethodName := ⟨RX0, "takeBack", "(LAlphaCourt$Court;)V"⟩
def RX1 : String := "AlphaCourt$Asks"
def TX1 : u_T := fun k => match k with
  | 0 => ("AlphaCourt$Asks", "trail", "[I", true)
  | _ => ("AlphaCourt$Asks", "traced", "I", false)
def tyX1 : Nat → FieldType := fun k => match k with
  | 0 => .array .int
  | _ => .int
theorem nmX1 : ∀ a, a < 2 → ∀ b, b < 2 → a ≠ b → (TX1 a).2.1 ≠ (TX1 b).2.1 := by decide +kernel
theorem tyX1_ok : ∀ k, k < 2 → parseFieldDescriptor (TX1 k).2.2.1 = some (tyX1 k) := by decide +kernel
abbrev cX1_init : ByteArray := prog_3_method_1_code
def yX1_init : MethodName := ⟨RX1, "<init>", "()V"⟩
abbrev cX1_answer : ByteArray := prog_3_method_2_code
def yX1_answer : MethodName := ⟨RX1, "answer", "(LAlphaCourt$Court;II)I"⟩
abbrev cX1_leave : ByteArray := prog_3_method_3_code
def yX1_leave : MethodName := ⟨RX1, "leave", "(I)V"⟩
abbrev cX1_give : ByteArray := prog_3_method_4_code
def yX1_give : MethodName := ⟨RX1, "give", "(LAlphaCourt$Court;III)I"⟩
def RX2 : String := "AlphaCourt$Court"
def TX2 : u_T := fun k => match k with
  | 0 => ("AlphaCourt$Court", "stands", "Z", false)
  | 1 => ("AlphaCourt$Court", "people", "I", false)
  | 2 => ("AlphaCourt$Court", "seats", "I", false)
  | 3 => ("AlphaCourt$Court", "turns", "I", false)
  | 4 => ("AlphaCourt$Court", "day", "I", false)
  | 5 => ("AlphaCourt$Court", "lost", "I", false)
  | 6 => ("AlphaCourt$Court", "told", "[I", true)
  | 7 => ("AlphaCourt$Court", "placeInTold", "[I", true)
  | 8 => ("AlphaCourt$Court", "kinds", "[I", true)
  | 9 => ("AlphaCourt$Court", "lengths", "[I", true)
  | 10 => ("AlphaCourt$Court", "letters", "[I", true)
  | 11 => ("AlphaCourt$Court", "terms", "[I", true)
  | 12 => ("AlphaCourt$Court", "lives", "[I", true)
  | 13 => ("AlphaCourt$Court", "seated", "[I", true)
  | 14 => ("AlphaCourt$Court", "newcomers", "[I", true)
  | _ => ("AlphaCourt$Court", "newlySeated", "I", false)
def tyX2 : Nat → FieldType := fun k => match k with
  | 0 => .boolean
  | 1 => .int
  | 2 => .int
  | 3 => .int
  | 4 => .int
  | 5 => .int
  | 6 => .array .int
  | 7 => .array .int
  | 8 => .array .int
  | 9 => .array .int
  | 10 => .array .int
  | 11 => .array .int
  | 12 => .array .int
  | 13 => .array .int
  | 14 => .array .int
  | _ => .int
theorem nmX2 : ∀ a, a < 16 → ∀ b, b < 16 → a ≠ b → (TX2 a).2.1 ≠ (TX2 b).2.1 := by decide +kernel
theorem tyX2_ok : ∀ k, k < 16 → parseFieldDescriptor (TX2 k).2.2.1 = some (tyX2 k) := by decide +kernel
abbrev cX2_init : ByteArray := prog_4_method_1_code
def yX2_init : MethodName := ⟨RX2, "<init>", "()V"⟩
abbrev cX2_takeFrom : ByteArray := prog_4_method_2_code
def yX2_takeFrom : MethodName := ⟨RX2, "takeFrom", "(LAlphaCourt$Court;)V"⟩
abbrev cX2_begin : ByteArray := prog_4_method_3_code
def yX2_begin : MethodName := ⟨RX2, "begin", "()V"⟩
abbrev cX2_tellOrder : ByteArray := prog_4_method_4_code
def yX2_tellOrder : MethodName := ⟨RX2, "tellOrder", "(II)V"⟩
abbrev cX2_letterOf : ByteArray := prog_4_method_5_code
def yX2_letterOf : MethodName := ⟨RX2, "letterOf", "(II)I"⟩
abbrev cX2_putLetter : ByteArray := prog_4_method_6_code
def yX2_putLetter : MethodName := ⟨RX2, "putLetter", "(III)V"⟩
abbrev cX2_lettersAsBits : ByteArray := prog_4_method_7_code
def yX2_lettersAsBits : MethodName := ⟨RX2, "lettersAsBits", "(I)I"⟩
abbrev cX2_turnOn : ByteArray := prog_4_method_8_code
def yX2_turnOn : MethodName := ⟨RX2, "turnOn", "(II)I"⟩
abbrev cX2_letterInOrder : ByteArray := prog_4_method_9_code
def yX2_letterInOrder : MethodName := ⟨RX2, "letterInOrder", "(II)I"⟩
abbrev cX2_placeInOrder : ByteArray := prog_4_method_10_code
def yX2_placeInOrder : MethodName := ⟨RX2, "placeInOrder", "(II)I"⟩
abbrev cX2_letterAsRead : ByteArray := prog_4_method_11_code
def yX2_letterAsRead : MethodName := ⟨RX2, "letterAsRead", "(II)I"⟩
abbrev cX2_compareNames : ByteArray := prog_4_method_12_code
def yX2_compareNames : MethodName := ⟨RX2, "compareNames", "(III)I"⟩
abbrev cX2_isBefore : ByteArray := prog_4_method_13_code
def yX2_isBefore : MethodName := ⟨RX2, "isBefore", "(III)Z"⟩
abbrev cX2_isSeated : ByteArray := prog_4_method_14_code
def yX2_isSeated : MethodName := ⟨RX2, "isSeated", "(I)Z"⟩
abbrev cX2_freeDay : ByteArray := prog_4_method_15_code
def yX2_freeDay : MethodName := ⟨RX2, "freeDay", "(I)I"⟩
abbrev cX2_waitsOn : ByteArray := prog_4_method_16_code
def yX2_waitsOn : MethodName := ⟨RX2, "waitsOn", "(II)Z"⟩
abbrev cX2_servesOn : ByteArray := prog_4_method_17_code
def yX2_servesOn : MethodName := ⟨RX2, "servesOn", "(II)Z"⟩
abbrev cX2_stateOf : ByteArray := prog_4_method_18_code
def yX2_stateOf : MethodName := ⟨RX2, "stateOf", "(I)I"⟩
abbrev cX2_howMany : ByteArray := prog_4_method_19_code
def yX2_howMany : MethodName := ⟨RX2, "howMany", "(I)I"⟩
abbrev cX2_howManyBefore : ByteArray := prog_4_method_20_code
def yX2_howManyBefore : MethodName := ⟨RX2, "howManyBefore", "(I)I"⟩
abbrev cX2_howManyWaitWith : ByteArray := prog_4_method_21_code
def yX2_howManyWaitWith : MethodName := ⟨RX2, "howManyWaitWith", "(I)I"⟩
abbrev cX2_lastWaitingBut : ByteArray := prog_4_method_22_code
def yX2_lastWaitingBut : MethodName := ⟨RX2, "lastWaitingBut", "(II)I"⟩
abbrev cX2_seatTill : ByteArray := prog_4_method_23_code
def yX2_seatTill : MethodName := ⟨RX2, "seatTill", "(II)V"⟩
abbrev cX2_openDay : ByteArray := prog_4_method_24_code
def yX2_openDay : MethodName := ⟨RX2, "openDay", "(I)I"⟩
abbrev cX2_firstOn : ByteArray := prog_4_method_25_code
def yX2_firstOn : MethodName := ⟨RX2, "firstOn", "(II)I"⟩
abbrev cX2_takeBackDay : ByteArray := prog_4_method_26_code
def yX2_takeBackDay : MethodName := ⟨RX2, "takeBackDay", "()V"⟩
abbrev cX2_waitedByAll : ByteArray := prog_4_method_27_code
def yX2_waitedByAll : MethodName := ⟨RX2, "waitedByAll", "()I"⟩
def RX3 : String := "AlphaCourt$Planner"
def TX3 : u_T := fun k => match k with
  | 0 => ("AlphaCourt$Planner", "bestRow", "[I", true)
  | 1 => ("AlphaCourt$Planner", "size", "I", false)
  | 2 => ("AlphaCourt$Planner", "least", "I", false)
  | 3 => ("AlphaCourt$Planner", "row", "[I", true)
  | 4 => ("AlphaCourt$Planner", "openDays", "[I", true)
  | _ => ("AlphaCourt$Planner", "seats", "I", false)
def tyX3 : Nat → FieldType := fun k => match k with
  | 0 => .array .int
  | 1 => .int
  | 2 => .int
  | 3 => .array .int
  | 4 => .array .int
  | _ => .int
theorem nmX3 : ∀ a, a < 6 → ∀ b, b < 6 → a ≠ b → (TX3 a).2.1 ≠ (TX3 b).2.1 := by decide +kernel
theorem tyX3_ok : ∀ k, k < 6 → parseFieldDescriptor (TX3 k).2.2.1 = some (tyX3 k) := by decide +kernel
abbrev cX3_init : ByteArray := prog_5_method_1_code
def yX3_init : MethodName := ⟨RX3, "<init>", "()V"⟩
abbrev cX3_plan : ByteArray := prog_5_method_2_code
def yX3_plan : MethodName := ⟨RX3, "plan", "(LAlphaCourt$Court;)V"⟩
abbrev cX3_openSeats : ByteArray := prog_5_method_3_code
def yX3_openSeats : MethodName := ⟨RX3, "openSeats", "(LAlphaCourt$Court;)V"⟩
abbrev cX3_firstOpenSeat : ByteArray := prog_5_method_4_code
def yX3_firstOpenSeat : MethodName := ⟨RX3, "firstOpenSeat", "()I"⟩
abbrev cX3_seatOneByOne : ByteArray := prog_5_method_5_code
def yX3_seatOneByOne : MethodName := ⟨RX3, "seatOneByOne", "(LAlphaCourt$Court;III)V"⟩
def RX4 : String := "AlphaCourt$Reader"
def TX4 : u_T := fun k => match k with
  | 0 => ("AlphaCourt$Reader", "tape", "[I", true)
  | 1 => ("AlphaCourt$Reader", "length", "I", false)
  | 2 => ("AlphaCourt$Reader", "faultNumber", "I", false)
  | 3 => ("AlphaCourt$Reader", "faultPlace", "I", false)
  | 4 => ("AlphaCourt$Reader", "at", "I", false)
  | 5 => ("AlphaCourt$Reader", "tokenPlace", "I", false)
  | 6 => ("AlphaCourt$Reader", "token", "I", false)
  | _ => ("AlphaCourt$Reader", "number", "I", false)
def tyX4 : Nat → FieldType := fun k => match k with
  | 0 => .array .int
  | 1 => .int
  | 2 => .int
  | 3 => .int
  | 4 => .int
  | 5 => .int
  | 6 => .int
  | _ => .int
theorem nmX4 : ∀ a, a < 8 → ∀ b, b < 8 → a ≠ b → (TX4 a).2.1 ≠ (TX4 b).2.1 := by decide +kernel
theorem tyX4_ok : ∀ k, k < 8 → parseFieldDescriptor (TX4 k).2.2.1 = some (tyX4 k) := by decide +kernel
abbrev cX4_init : ByteArray := prog_6_method_1_code
def yX4_init : MethodName := ⟨RX4, "<init>", "()V"⟩
abbrev cX4_addByte : ByteArray := prog_6_method_2_code
def yX4_addByte : MethodName := ⟨RX4, "addByte", "(I)V"⟩
abbrev cX4_readInto : ByteArray := prog_6_method_3_code
def yX4_readInto : MethodName := ⟨RX4, "readInto", "(LAlphaCourt$Court;)Z"⟩
abbrev cX4_readLaw : ByteArray := prog_6_method_4_code
def yX4_readLaw : MethodName := ⟨RX4, "readLaw", "(LAlphaCourt$Court;)Z"⟩
abbrev cX4_readOrder : ByteArray := prog_6_method_5_code
def yX4_readOrder : MethodName := ⟨RX4, "readOrder", "(LAlphaCourt$Court;)Z"⟩
abbrev cX4_readPeople : ByteArray := prog_6_method_6_code
def yX4_readPeople : MethodName := ⟨RX4, "readPeople", "(LAlphaCourt$Court;)Z"⟩
abbrev cX4_readPerson : ByteArray := prog_6_method_7_code
def yX4_readPerson : MethodName := ⟨RX4, "readPerson", "(LAlphaCourt$Court;I)Z"⟩
abbrev cX4_hasFault : ByteArray := prog_6_method_8_code
def yX4_hasFault : MethodName := ⟨RX4, "hasFault", "(I)Z"⟩
abbrev cX4_passOver : ByteArray := prog_6_method_9_code
def yX4_passOver : MethodName := ⟨RX4, "passOver", "(I)Z"⟩
abbrev cX4_isNumberIn : ByteArray := prog_6_method_10_code
def yX4_isNumberIn : MethodName := ⟨RX4, "isNumberIn", "(II)Z"⟩
abbrev cX4_takeNumber : ByteArray := prog_6_method_11_code
def yX4_takeNumber : MethodName := ⟨RX4, "takeNumber", "()I"⟩
abbrev cX4_isLetter : ByteArray := prog_6_method_12_code
def yX4_isLetter : MethodName := ⟨RX4, "isLetter", "()Z"⟩
abbrev cX4_letterOfToken : ByteArray := prog_6_method_13_code
def yX4_letterOfToken : MethodName := ⟨RX4, "letterOfToken", "()I"⟩
abbrev cX4_isFigureAt : ByteArray := prog_6_method_14_code
def yX4_isFigureAt : MethodName := ⟨RX4, "isFigureAt", "(I)Z"⟩
abbrev cX4_step : ByteArray := prog_6_method_15_code
def yX4_step : MethodName := ⟨RX4, "step", "()V"⟩
def RX5 : String := "AlphaCourt$Renaming"
def TX5 : u_T := fun k => match k with
  | _ => ("AlphaCourt$Renaming", "trial", "LAlphaCourt$Court;", true)
def tyX5 : Nat → FieldType := fun k => match k with
  | _ => .object "AlphaCourt$Court"
theorem nmX5 : ∀ a, a < 1 → ∀ b, b < 1 → a ≠ b → (TX5 a).2.1 ≠ (TX5 b).2.1 := by decide +kernel
theorem tyX5_ok : ∀ k, k < 1 → parseFieldDescriptor (TX5 k).2.2.1 = some (tyX5 k) := by decide +kernel
abbrev cX5_init : ByteArray := prog_7_method_1_code
def yX5_init : MethodName := ⟨RX5, "<init>", "()V"⟩
abbrev cX5_findFewest : ByteArray := prog_7_method_2_code
def yX5_findFewest : MethodName := ⟨RX5, "findFewest", "(LAlphaCourt$Court;I)I"⟩
abbrev cX5_canBeBehind : ByteArray := prog_7_method_3_code
def yX5_canBeBehind : MethodName := ⟨RX5, "canBeBehind", "(III)Z"⟩
abbrev cX5_tryNames : ByteArray := prog_7_method_4_code
def yX5_tryNames : MethodName := ⟨RX5, "tryNames", "(LAlphaCourt$Court;IIIII)Z"⟩
def RX6 : String := "AlphaCourt$Row"
def TX6 : u_T := fun k => match k with
  | 0 => ("AlphaCourt$Row", "items", "[I", true)
  | 1 => ("AlphaCourt$Row", "lane", "I", false)
  | _ => ("AlphaCourt$Row", "size", "I", false)
def tyX6 : Nat → FieldType := fun k => match k with
  | 0 => .array .int
  | 1 => .int
  | _ => .int
theorem nmX6 : ∀ a, a < 3 → ∀ b, b < 3 → a ≠ b → (TX6 a).2.1 ≠ (TX6 b).2.1 := by decide +kernel
theorem tyX6_ok : ∀ k, k < 3 → parseFieldDescriptor (TX6 k).2.2.1 = some (tyX6 k) := by decide +kernel
abbrev cX6_init : ByteArray := prog_8_method_1_code
def yX6_init : MethodName := ⟨RX6, "<init>", "()V"⟩
abbrev cX6_isMissing : ByteArray := prog_8_method_2_code
def yX6_isMissing : MethodName := ⟨RX6, "isMissing", "()Z"⟩
abbrev cX6_begin : ByteArray := prog_8_method_3_code
def yX6_begin : MethodName := ⟨RX6, "begin", "(II)V"⟩
abbrev cX6_cut : ByteArray := prog_8_method_4_code
def yX6_cut : MethodName := ⟨RX6, "cut", "(I)I"⟩
abbrev cX6_hasRange : ByteArray := prog_8_method_5_code
def yX6_hasRange : MethodName := ⟨RX6, "hasRange", "(II)Z"⟩
def RX7 : String := "AlphaCourt"
def TX7 : u_T := fun k => match k with
  | 0 => ("AlphaCourt", "rows", "[LAlphaCourt$Row;", true)
  | 1 => ("AlphaCourt", "reader", "LAlphaCourt$Reader;", true)
  | 2 => ("AlphaCourt", "court", "LAlphaCourt$Court;", true)
  | 3 => ("AlphaCourt", "draft", "LAlphaCourt$Court;", true)
  | 4 => ("AlphaCourt", "images", "[LAlphaCourt$Court;", true)
  | 5 => ("AlphaCourt", "acts", "LAlphaCourt$Acts;", true)
  | 6 => ("AlphaCourt", "renaming", "LAlphaCourt$Renaming;", true)
  | 7 => ("AlphaCourt", "planner", "LAlphaCourt$Planner;", true)
  | 8 => ("AlphaCourt", "asks", "LAlphaCourt$Asks;", true)
  | 9 => ("AlphaCourt", "latestFault", "I", false)
  | _ => ("AlphaCourt", "latestFinding", "I", false)
def tyX7 : Nat → FieldType := fun k => match k with
  | 0 => .array (.object "AlphaCourt$Row")
  | 1 => .object "AlphaCourt$Reader"
  | 2 => .object "AlphaCourt$Court"
  | 3 => .object "AlphaCourt$Court"
  | 4 => .array (.object "AlphaCourt$Court")
  | 5 => .object "AlphaCourt$Acts"
  | 6 => .object "AlphaCourt$Renaming"
  | 7 => .object "AlphaCourt$Planner"
  | 8 => .object "AlphaCourt$Asks"
  | 9 => .int
  | _ => .int
theorem nmX7 : ∀ a, a < 11 → ∀ b, b < 11 → a ≠ b → (TX7 a).2.1 ≠ (TX7 b).2.1 := by decide +kernel
theorem tyX7_ok : ∀ k, k < 11 → parseFieldDescriptor (TX7 k).2.2.1 = some (tyX7 k) := by decide +kernel
abbrev cX7_init : ByteArray := prog_1_method_1_code
def yX7_init : MethodName := ⟨RX7, "<init>", "()V"⟩
abbrev cX7_row : ByteArray := prog_1_method_2_code
def yX7_row : MethodName := ⟨RX7, "row", "(III)I"⟩
abbrev cX7_set : ByteArray := prog_1_method_3_code
def yX7_set : MethodName := ⟨RX7, "set", "(III)I"⟩
abbrev cX7_copy : ByteArray := prog_1_method_4_code
def yX7_copy : MethodName := ⟨RX7, "copy", "(IIIII)I"⟩
abbrev cX7_drop : ByteArray := prog_1_method_5_code
def yX7_drop : MethodName := ⟨RX7, "drop", "(I)I"⟩
abbrev cX7_feed : ByteArray := prog_1_method_6_code
def yX7_feed : MethodName := ⟨RX7, "feed", "(I)I"⟩
abbrev cX7_court : ByteArray := prog_1_method_7_code
def yX7_court : MethodName := ⟨RX7, "court", "()I"⟩
abbrev cX7_fault : ByteArray := prog_1_method_8_code
def yX7_fault : MethodName := ⟨RX7, "fault", "()I"⟩
abbrev cX7_days : ByteArray := prog_1_method_9_code
def yX7_days : MethodName := ⟨RX7, "days", "(I)I"⟩
abbrev cX7_forge : ByteArray := prog_1_method_10_code
def yX7_forge : MethodName := ⟨RX7, "forge", "(III)I"⟩
abbrev cX7_lose : ByteArray := prog_1_method_11_code
def yX7_lose : MethodName := ⟨RX7, "lose", "(II)I"⟩
abbrev cX7_undo : ByteArray := prog_1_method_12_code
def yX7_undo : MethodName := ⟨RX7, "undo", "()I"⟩
abbrev cX7_person : ByteArray := prog_1_method_13_code
def yX7_person : MethodName := ⟨RX7, "person", "(II)I"⟩
abbrev cX7_name : ByteArray := prog_1_method_14_code
def yX7_name : MethodName := ⟨RX7, "name", "(II)I"⟩
abbrev cX7_order : ByteArray := prog_1_method_15_code
def yX7_order : MethodName := ⟨RX7, "order", "(I)I"⟩
abbrev cX7_when : ByteArray := prog_1_method_16_code
def yX7_when : MethodName := ⟨RX7, "when", "(II)I"⟩
abbrev cX7_waited : ByteArray := prog_1_method_17_code
def yX7_waited : MethodName := ⟨RX7, "waited", "()I"⟩
abbrev cX7_last : ByteArray := prog_1_method_18_code
def yX7_last : MethodName := ⟨RX7, "last", "(II)I"⟩
abbrev cX7_best : ByteArray := prog_1_method_19_code
def yX7_best : MethodName := ⟨RX7, "best", "(I)I"⟩
abbrev cX7_warden : ByteArray := prog_1_method_20_code
def yX7_warden : MethodName := ⟨RX7, "warden", "(I)I"⟩
abbrev cX7_frees : ByteArray := prog_1_method_21_code
def yX7_frees : MethodName := ⟨RX7, "frees", "(I)I"⟩
abbrev cX7_ledger : ByteArray := prog_1_method_22_code
def yX7_ledger : MethodName := ⟨RX7, "ledger", "(III)I"⟩
abbrev cX7_image : ByteArray := prog_1_method_23_code
def yX7_image : MethodName := ⟨RX7, "image", "(I)I"⟩
abbrev cX7_restore : ByteArray := prog_1_method_24_code
def yX7_restore : MethodName := ⟨RX7, "restore", "(I)I"⟩
abbrev cX7_kind : ByteArray := prog_1_method_25_code
def yX7_kind : MethodName := ⟨RX7, "kind", "(I)I"⟩
abbrev cX7_as : ByteArray := prog_1_method_26_code
def yX7_as : MethodName := ⟨RX7, "as", "(II)I"⟩
abbrev cX7_ask : ByteArray := prog_1_method_27_code
def yX7_ask : MethodName := ⟨RX7, "ask", "(II)I"⟩
abbrev cX7_trace : ByteArray := prog_1_method_28_code
def yX7_trace : MethodName := ⟨RX7, "trace", "(I)I"⟩
abbrev cX7_count : ByteArray := prog_1_method_29_code
def yX7_count : MethodName := ⟨RX7, "count", "(I)I"⟩
abbrev cX7_status : ByteArray := prog_1_method_30_code
def yX7_status : MethodName := ⟨RX7, "status", "()I"⟩
abbrev cX7_isIn : ByteArray := prog_1_method_31_code
def yX7_isIn : MethodName := ⟨RX7, "isIn", "(II)Z"⟩
abbrev cX7_isOfKind : ByteArray := prog_1_method_32_code
def yX7_isOfKind : MethodName := ⟨RX7, "isOfKind", "(II)Z"⟩
abbrev cX7_found : ByteArray := prog_1_method_33_code
def yX7_found : MethodName := ⟨RX7, "found", "(I)I"⟩
abbrev cX7_unfound : ByteArray := prog_1_method_34_code
def yX7_unfound : MethodName := ⟨RX7, "unfound", "(I)I"⟩
abbrev cX7_isPerson : ByteArray := prog_1_method_35_code
def yX7_isPerson : MethodName := ⟨RX7, "isPerson", "(I)Z"⟩
abbrev cX7_isPlaceOfName : ByteArray := prog_1_method_36_code
def yX7_isPlaceOfName : MethodName := ⟨RX7, "isPlaceOfName", "(II)Z"⟩
abbrev cX7_howManyRows : ByteArray := prog_1_method_37_code
def yX7_howManyRows : MethodName := ⟨RX7, "howManyRows", "()I"⟩
abbrev cX7_foretell : ByteArray := prog_1_method_38_code
def yX7_foretell : MethodName := ⟨RX7, "foretell", "(I)LAlphaCourt$Court;"⟩
abbrev cX7_areAllPeople : ByteArray := prog_1_method_39_code
def yX7_areAllPeople : MethodName := ⟨RX7, "areAllPeople", "(LAlphaCourt$Row;II)Z"⟩
abbrev cX7_areSeatedNext : ByteArray := prog_1_method_40_code
def yX7_areSeatedNext : MethodName := ⟨RX7, "areSeatedNext", "(LAlphaCourt$Row;III)Z"⟩
def RX8 : String := "AlphaCourtModel"
def TX8 : u_T := fun k => match k with
  | 0 => ("AlphaCourtModel", "lane", "[I", true)
  | 1 => ("AlphaCourtModel", "many", "[I", true)
  | 2 => ("AlphaCourtModel", "items", "[I", true)
  | 3 => ("AlphaCourtModel", "spare", "[I", true)
  | 4 => ("AlphaCourtModel", "status", "I", false)
  | 5 => ("AlphaCourtModel", "tape", "[I", true)
  | 6 => ("AlphaCourtModel", "taped", "I", false)
  | 7 => ("AlphaCourtModel", "faultKind", "I", false)
  | 8 => ("AlphaCourtModel", "faultPlace", "I", false)
  | 9 => ("AlphaCourtModel", "at", "I", false)
  | 10 => ("AlphaCourtModel", "start", "I", false)
  | 11 => ("AlphaCourtModel", "token", "I", false)
  | 12 => ("AlphaCourtModel", "value", "I", false)
  | 13 => ("AlphaCourtModel", "now", "[I", true)
  | 14 => ("AlphaCourtModel", "draft", "[I", true)
  | 15 => ("AlphaCourtModel", "tried", "[I", true)
  | 16 => ("AlphaCourtModel", "past", "[I", true)
  | 17 => ("AlphaCourtModel", "acts", "I", false)
  | 18 => ("AlphaCourtModel", "images", "[I", true)
  | 19 => ("AlphaCourtModel", "kept", "[Z", true)
  | 20 => ("AlphaCourtModel", "trace", "[I", true)
  | 21 => ("AlphaCourtModel", "traced", "I", false)
  | 22 => ("AlphaCourtModel", "ledger", "[I", true)
  | 23 => ("AlphaCourtModel", "ledgerMany", "I", false)
  | 24 => ("AlphaCourtModel", "waiting", "[I", true)
  | 25 => ("AlphaCourtModel", "line", "[I", true)
  | _ => ("AlphaCourtModel", "bestLine", "[I", true)
def tyX8 : Nat → FieldType := fun k => match k with
  | 0 => .array .int
  | 1 => .array .int
  | 2 => .array .int
  | 3 => .array .int
  | 4 => .int
  | 5 => .array .int
  | 6 => .int
  | 7 => .int
  | 8 => .int
  | 9 => .int
  | 10 => .int
  | 11 => .int
  | 12 => .int
  | 13 => .array .int
  | 14 => .array .int
  | 15 => .array .int
  | 16 => .array .int
  | 17 => .int
  | 18 => .array .int
  | 19 => .array .boolean
  | 20 => .array .int
  | 21 => .int
  | 22 => .array .int
  | 23 => .int
  | 24 => .array .int
  | 25 => .array .int
  | _ => .array .int
theorem nmX8 : ∀ a, a < 27 → ∀ b, b < 27 → a ≠ b → (TX8 a).2.1 ≠ (TX8 b).2.1 := by decide +kernel
theorem tyX8_ok : ∀ k, k < 27 → parseFieldDescriptor (TX8 k).2.2.1 = some (tyX8 k) := by decide +kernel
abbrev cX8_init : ByteArray := prog_10_method_1_code
def yX8_init : MethodName := ⟨RX8, "<init>", "()V"⟩
abbrev cX8_in : ByteArray := prog_10_method_3_code
def yX8_in : MethodName := ⟨RX8, "in", "(III)Z"⟩
abbrev cX8_has : ByteArray := prog_10_method_4_code
def yX8_has : MethodName := ⟨RX8, "has", "(II)Z"⟩
abbrev cX8_found : ByteArray := prog_10_method_5_code
def yX8_found : MethodName := ⟨RX8, "found", "(I)I"⟩
abbrev cX8_well : ByteArray := prog_10_method_6_code
def yX8_well : MethodName := ⟨RX8, "well", "(I)I"⟩
abbrev cX8_copies : ByteArray := prog_10_method_7_code
def yX8_copies : MethodName := ⟨RX8, "copies", "([II[II)V"⟩
abbrev cX8_isRow : ByteArray := prog_10_method_8_code
def yX8_isRow : MethodName := ⟨RX8, "isRow", "(I)Z"⟩
abbrev cX8_isMissing : ByteArray := prog_10_method_9_code
def yX8_isMissing : MethodName := ⟨RX8, "isMissing", "(I)Z"⟩
abbrev cX8_cut : ByteArray := prog_10_method_10_code
def yX8_cut : MethodName := ⟨RX8, "cut", "(II)I"⟩
abbrev cX8_row : ByteArray := prog_10_method_11_code
def yX8_row : MethodName := ⟨RX8, "row", "(III)I"⟩
abbrev cX8_set : ByteArray := prog_10_method_12_code
def yX8_set : MethodName := ⟨RX8, "set", "(III)I"⟩
abbrev cX8_isPart : ByteArray := prog_10_method_13_code
def yX8_isPart : MethodName := ⟨RX8, "isPart", "(III)Z"⟩
abbrev cX8_copy : ByteArray := prog_10_method_14_code
def yX8_copy : MethodName := ⟨RX8, "copy", "(IIIII)I"⟩
abbrev cX8_drop : ByteArray := prog_10_method_15_code
def yX8_drop : MethodName := ⟨RX8, "drop", "(I)I"⟩
abbrev cX8_feed : ByteArray := prog_10_method_16_code
def yX8_feed : MethodName := ⟨RX8, "feed", "(I)I"⟩
abbrev cX8_byteAt : ByteArray := prog_10_method_17_code
def yX8_byteAt : MethodName := ⟨RX8, "byteAt", "(I)I"⟩
abbrev cX8_advances : ByteArray := prog_10_method_18_code
def yX8_advances : MethodName := ⟨RX8, "advances", "()V"⟩
abbrev cX8_isWell : ByteArray := prog_10_method_19_code
def yX8_isWell : MethodName := ⟨RX8, "isWell", "()Z"⟩
abbrev cX8_takes : ByteArray := prog_10_method_20_code
def yX8_takes : MethodName := ⟨RX8, "takes", "(ZI)I"⟩
abbrev cX8_figure : ByteArray := prog_10_method_21_code
def yX8_figure : MethodName := ⟨RX8, "figure", "(II)I"⟩
abbrev cX8_isName : ByteArray := prog_10_method_22_code
def yX8_isName : MethodName := ⟨RX8, "isName", "()Z"⟩
abbrev cX8_readsOrder : ByteArray := prog_10_method_23_code
def yX8_readsOrder : MethodName := ⟨RX8, "readsOrder", "()V"⟩
abbrev cX8_kindOf : ByteArray := prog_10_method_24_code
def yX8_kindOf : MethodName := ⟨RX8, "kindOf", "(I)I"⟩
abbrev cX8_readsPerson : ByteArray := prog_10_method_25_code
def yX8_readsPerson : MethodName := ⟨RX8, "readsPerson", "()V"⟩
abbrev cX8_takes2 : ByteArray := prog_10_method_26_code
def yX8_takes2 : MethodName := ⟨RX8, "takes2", "(Z)V"⟩
abbrev cX8_court : ByteArray := prog_10_method_27_code
def yX8_court : MethodName := ⟨RX8, "court", "()I"⟩
abbrev cX8_fault : ByteArray := prog_10_method_28_code
def yX8_fault : MethodName := ⟨RX8, "fault", "()I"⟩
abbrev cX8_isCourt : ByteArray := prog_10_method_29_code
def yX8_isCourt : MethodName := ⟨RX8, "isCourt", "()Z"⟩
abbrev cX8_isPerson : ByteArray := prog_10_method_30_code
def yX8_isPerson : MethodName := ⟨RX8, "isPerson", "(I)Z"⟩
abbrev cX8_of : ByteArray := prog_10_method_31_code
def yX8_of : MethodName := ⟨RX8, "of", "([III)I"⟩
abbrev cX8_rank : ByteArray := prog_10_method_32_code
def yX8_rank : MethodName := ⟨RX8, "rank", "([III)I"⟩
abbrev cX8_letterOf : ByteArray := prog_10_method_33_code
def yX8_letterOf : MethodName := ⟨RX8, "letterOf", "([III)I"⟩
abbrev cX8_classOf : ByteArray := prog_10_method_34_code
def yX8_classOf : MethodName := ⟨RX8, "classOf", "([II)I"⟩
abbrev cX8_isBefore : ByteArray := prog_10_method_35_code
def yX8_isBefore : MethodName := ⟨RX8, "isBefore", "([IIII)Z"⟩
abbrev cX8_waits : ByteArray := prog_10_method_36_code
def yX8_waits : MethodName := ⟨RX8, "waits", "([II)Z"⟩
abbrev cX8_manySo : ByteArray := prog_10_method_37_code
def yX8_manySo : MethodName := ⟨RX8, "manySo", "([II)I"⟩
abbrev cX8_isLost : ByteArray := prog_10_method_38_code
def yX8_isLost : MethodName := ⟨RX8, "isLost", "([II)Z"⟩
abbrev cX8_nextBy : ByteArray := prog_10_method_39_code
def yX8_nextBy : MethodName := ⟨RX8, "nextBy", "([II)I"⟩
abbrev cX8_ages : ByteArray := prog_10_method_40_code
def yX8_ages : MethodName := ⟨RX8, "ages", "([I)V"⟩
abbrev cX8_seats : ByteArray := prog_10_method_41_code
def yX8_seats : MethodName := ⟨RX8, "seats", "([II)V"⟩
abbrev cX8_passes : ByteArray := prog_10_method_42_code
def yX8_passes : MethodName := ⟨RX8, "passes", "([II)V"⟩
abbrev cX8_notes : ByteArray := prog_10_method_43_code
def yX8_notes : MethodName := ⟨RX8, "notes", "()V"⟩
abbrev cX8_days : ByteArray := prog_10_method_44_code
def yX8_days : MethodName := ⟨RX8, "days", "(I)I"⟩
abbrev cX8_isPlaceOf : ByteArray := prog_10_method_45_code
def yX8_isPlaceOf : MethodName := ⟨RX8, "isPlaceOf", "(II)Z"⟩
abbrev cX8_forge : ByteArray := prog_10_method_46_code
def yX8_forge : MethodName := ⟨RX8, "forge", "(III)I"⟩
abbrev cX8_lose : ByteArray := prog_10_method_47_code
def yX8_lose : MethodName := ⟨RX8, "lose", "(II)I"⟩
abbrev cX8_undo : ByteArray := prog_10_method_48_code
def yX8_undo : MethodName := ⟨RX8, "undo", "()I"⟩
abbrev cX8_beforeIt : ByteArray := prog_10_method_49_code
def yX8_beforeIt : MethodName := ⟨RX8, "beforeIt", "(I)I"⟩
abbrev cX8_person : ByteArray := prog_10_method_50_code
def yX8_person : MethodName := ⟨RX8, "person", "(II)I"⟩
abbrev cX8_name : ByteArray := prog_10_method_51_code
def yX8_name : MethodName := ⟨RX8, "name", "(II)I"⟩
abbrev cX8_order : ByteArray := prog_10_method_52_code
def yX8_order : MethodName := ⟨RX8, "order", "(I)I"⟩
abbrev cX8_goes : ByteArray := prog_10_method_53_code
def yX8_goes : MethodName := ⟨RX8, "goes", "(I)V"⟩
abbrev cX8_when : ByteArray := prog_10_method_54_code
def yX8_when : MethodName := ⟨RX8, "when", "(II)I"⟩
abbrev cX8_waitedTried : ByteArray := prog_10_method_55_code
def yX8_waitedTried : MethodName := ⟨RX8, "waitedTried", "()I"⟩
abbrev cX8_waited : ByteArray := prog_10_method_56_code
def yX8_waited : MethodName := ⟨RX8, "waited", "()I"⟩
abbrev cX8_isLast : ByteArray := prog_10_method_57_code
def yX8_isLast : MethodName := ⟨RX8, "isLast", "([II)Z"⟩
abbrev cX8_power : ByteArray := prog_10_method_58_code
def yX8_power : MethodName := ⟨RX8, "power", "(II)I"⟩
abbrev cX8_lays : ByteArray := prog_10_method_59_code
def yX8_lays : MethodName := ⟨RX8, "lays", "(II)I"⟩
abbrev cX8_last : ByteArray := prog_10_method_60_code
def yX8_last : MethodName := ⟨RX8, "last", "(II)I"⟩
abbrev cX8_best : ByteArray := prog_10_method_61_code
def yX8_best : MethodName := ⟨RX8, "best", "(I)I"⟩
abbrev cX8_lines : ByteArray := prog_10_method_62_code
def yX8_lines : MethodName := ⟨RX8, "lines", "(II)Z"⟩
abbrev cX8_waitedByLine : ByteArray := prog_10_method_63_code
def yX8_waitedByLine : MethodName := ⟨RX8, "waitedByLine", "(I)I"⟩
abbrev cX8_warden : ByteArray := prog_10_method_64_code
def yX8_warden : MethodName := ⟨RX8, "warden", "(I)I"⟩
abbrev cX8_passedBy : ByteArray := prog_10_method_65_code
def yX8_passedBy : MethodName := ⟨RX8, "passedBy", "(I)I"⟩
abbrev cX8_frees : ByteArray := prog_10_method_66_code
def yX8_frees : MethodName := ⟨RX8, "frees", "(I)I"⟩
abbrev cX8_ledger : ByteArray := prog_10_method_67_code
def yX8_ledger : MethodName := ⟨RX8, "ledger", "(III)I"⟩
abbrev cX8_image : ByteArray := prog_10_method_68_code
def yX8_image : MethodName := ⟨RX8, "image", "(I)I"⟩
abbrev cX8_restore : ByteArray := prog_10_method_69_code
def yX8_restore : MethodName := ⟨RX8, "restore", "(I)I"⟩
abbrev cX8_kind : ByteArray := prog_10_method_70_code
def yX8_kind : MethodName := ⟨RX8, "kind", "(I)I"⟩
abbrev cX8_as : ByteArray := prog_10_method_71_code
def yX8_as : MethodName := ⟨RX8, "as", "(II)I"⟩
abbrev cX8_begins : ByteArray := prog_10_method_72_code
def yX8_begins : MethodName := ⟨RX8, "begins", "(I)V"⟩
abbrev cX8_plainMark : ByteArray := prog_10_method_73_code
def yX8_plainMark : MethodName := ⟨RX8, "plainMark", "(I)I"⟩
abbrev cX8_saintSize : ByteArray := prog_10_method_74_code
def yX8_saintSize : MethodName := ⟨RX8, "saintSize", "(I)I"⟩
abbrev cX8_plainSize : ByteArray := prog_10_method_75_code
def yX8_plainSize : MethodName := ⟨RX8, "plainSize", "(I)I"⟩
abbrev cX8_saintMark : ByteArray := prog_10_method_76_code
def yX8_saintMark : MethodName := ⟨RX8, "saintMark", "(I)I"⟩
abbrev cX8_ask : ByteArray := prog_10_method_77_code
def yX8_ask : MethodName := ⟨RX8, "ask", "(II)I"⟩
abbrev cX8_trace : ByteArray := prog_10_method_78_code
def yX8_trace : MethodName := ⟨RX8, "trace", "(I)I"⟩
abbrev cX8_count : ByteArray := prog_10_method_79_code
def yX8_count : MethodName := ⟨RX8, "count", "(I)I"⟩
abbrev cX8_status : ByteArray := prog_10_method_80_code
def yX8_status : MethodName := ⟨RX8, "status", "()I"⟩
def RL : String := "AlphaCourtLaw"
abbrev cL_law : ByteArray := code
def yL_law : MethodName := ⟨RL, "law", "([I)Z"⟩
abbrev vwCl : List vw_C := [(RX0, TX0, 6), (RX1, TX1, 2), (RX2, TX2, 16), (RX3, TX3, 6), (RX4, TX4, 8), (RX5, TX5, 1), (RX6, TX6, 3), (RX7, TX7, 11), (RX8, TX8, 27)]
end
section
/-! The frame: a memory of whole numbers over a fixed set of cells; G: from here the method comes to its end with Q. -/
abbrev Vl : Type := Int ⊕ Nat
abbrev Mem : Type := Nat → Int → Int
abbrev Mth : Type := String × ByteArray × Nat × Option FieldType × MethodName
def mO (y : Mth) : String := y.1
def mC (y : Mth) : ByteArray := y.2.1
def mL (y : Mth) : Nat := y.2.2.1
def mR (y : Mth) : Option FieldType := y.2.2.2.1
def mN (y : Mth) : MethodName := y.2.2.2.2
def TB : List Cond := lw_tbl
def mW (y : Mth) : List Cond := Cond.code (mN y) (mC y) (mL y) (mR y) :: TB
/-- the launch, the first of our cells, where each cell lies, the classes, the arrays' classes, the tables that nobody writes, the script's length -/
abbrev Ex : Type := Launch × Nat × (Nat → Nat) × va_G × (Nat → ClassId) × (Nat → Nat → Int) × Nat
def eLn (E : Ex) : Launch := E.1
def eZ (E : Ex) : Nat := E.2.1
def eA (E : Ex) : Nat → Nat := E.2.2.1
def eD (E : Ex) : va_G := E.2.2.2.1
def eK (E : Ex) : Nat → ClassId := E.2.2.2.2.1
def eR (E : Ex) : Nat → Nat → Int := E.2.2.2.2.2.1
def eS (E : Ex) : Nat := E.2.2.2.2.2.2
def fr (E : Ex) : Nat → Prop := fun q => eZ E ≤ q
def roN (E : Ex) (i : Nat) : Nat := if i = 4 then eS E else 6
def tys (E : Ex) : List (ClassId × FieldType) := [(eK E 0, .int), (eK E 1, .boolean), (eK E 2, .object "AlphaCourt$Row"), (eK E 3, .object "AlphaCourt$Court")]
def sC (i : Nat) : String := if i < 2 then "AlphaCourt" else "AlphaCourt$Asks"
def sN (i : Nat) : String := if i = 0 then "WIDER_KIND" else if i = 1 then "GROUP" else if i = 2 then "SIZE_BODY" else "MARK_BODY"
def St (E : Ex) (U : State) (H : Heap) : Prop := va_K (eD E) vwCl (tys E) U ∧ (∀ i, i < 5 → va_T .int (eA E (100 + i)) (roN E i) (fun j => .int (Int32.ofInt (eR E i j))) (fr E) U H) ∧ (∀ i, i < 4 → va_Z (sC i) (sN i) "[I" (.ref (eA E (100 + i))) (fr E) U H)
def Eok (E : Ex) : Prop := (∀ i j, i < 100 → j < 100 → eA E i = eA E j → i = j) ∧ (∀ i, i < 100 → eZ E ≤ eA E i) ∧ eS E < 2 ^ 31
/-- the shape of a cell: 0 ints, 1 booleans, 2 rows, 3 courts, 4 + c an object of class c (its fields: 0 a number, r + 1 the cell r) -/
def coL (c : Nat) : List (Nat × Nat × List Nat) := [(6, 16, [0, 0, 0, 0, 0, 0, c + 2, c + 3, c + 4, c + 5, c + 6, c + 7, c + 8, c + 9, c + 10, 0]), (0, 8, []), (0, 8, []), (0, 6, []), (0, 6, []), (0, 24, []), (0, 6, []), (0, 6, []), (0, 6, []), (0, 6, [])]
def roL (c : Nat) : List (Nat × Nat × List Nat) := [(10, 3, [c + 2, 0, 0]), (0, 40, [])]
def shL : List (Nat × Nat × List Nat) := [(11, 11, [2, 3, 5, 15, 25, 26, 31, 42, 46, 0, 0]), (2, 8, [47, 49, 51, 53, 55, 57, 59, 61]), (8, 8, [4, 0, 0, 0, 0, 0, 0, 0]), (0, 120, [])] ++ coL 4 ++ coL 14 ++ [(3, 2, [63, 73]), (4, 6, [27, 28, 29, 30, 0, 0]), (0, 24, []), (0, 24, []), (0, 24, []), (0, 24, []), (9, 1, [32])] ++ coL 31 ++ [(7, 6, [43, 0, 0, 44, 45, 0]), (0, 6, []), (0, 6, []), (0, 4, []), (5, 2, [47, 0]), (0, 16, [])] ++ roL 47 ++ roL 49 ++ roL 51 ++ roL 53 ++ roL 55 ++ roL 57 ++ roL 59 ++ roL 61 ++ coL 63 ++ coL 73 ++ [(12, 27, [85, 86, 87, 88, 0, 89, 0, 0, 0, 0, 0, 0, 0, 90, 91, 92, 93, 0, 94, 95, 96, 0, 97, 0, 98, 99, 100]), (0, 8, []), (0, 8, []), (0, 320, []), (0, 40, []), (0, 120, []), (0, 91, []), (0, 91, []), (0, 91, []), (0, 2184, []), (0, 182, []), (1, 2, []), (0, 16, []), (0, 6, []), (0, 6, []), (0, 6, []), (0, 6, [])]
def shp (k : Nat) : Nat × Nat × List Nat := shL.getD k (0, 0, [])
theorem shL_len : shL.length = 100 := by decide +kernel
theorem shp_lt {k t n : Nat} {rs : List Nat} (h : shp k = (t, n, rs)) (h2 : t ≠ 0 ∨ 0 < n) : k < 100 := by
  rcases Nat.lt_or_ge k 100 with q | q
  · exact q
  · unfold shp at h
    rw [List.getD_eq_getElem?_getD, List.getElem?_eq_none (by rw [shL_len]; exact q)] at h
    simp only [Option.getD_none, Prod.mk.injEq] at h
    obtain ⟨h3, h4, -⟩ := h
    rcases h2 with h2 | h2 <;> omega
def fl (E : Ex) (μ : Mem) (k : Nat) : Nat → List Nat → List Value
  | _, [] => []
  | j, r :: t => (if r = 0 then Value.int (Int32.ofInt (μ k j)) else .ref (eA E (r - 1))) :: fl E μ k (j + 1) t
def ent (E : Ex) (μ : Mem) (k : Nat) : va_E := match shp k with
  | (0, n, _) => .inl (eK E 0, n, .inl (fun j => Int32.ofInt (μ k (j : Nat))))
  | (1, n, _) => .inl (eK E 1, n, .inl (fun j => Int32.ofInt (μ k (j : Nat))))
  | (2, n, rs) => .inl (eK E 2, n, .inr (.inr (.inr (.inr (fun j => (rs[j]?).map (eA E))))))
  | (3, n, rs) => .inl (eK E 3, n, .inr (.inr (.inr (.inr (fun j => (rs[j]?).map (eA E))))))
  | (t + 4, _, rs) => .inr (t, fl E μ k 0 rs)
def wl (E : Ex) (μ : Mem) : va_W := (List.range 100).map (fun k => (eA E k, ent E μ k))
def up (μ : Mem) (k : Nat) (i v : Int) : Mem := fun k' i' => if k' = k ∧ i' = i then v else μ k' i'
theorem wl_at {E : Ex} {μ : Mem} {k : Nat} (hk : k < 100) : (wl E μ)[k]? = some (eA E k, ent E μ k) := by
  unfold wl
  rw [List.getElem?_map, List.getElem?_range hk]
  rfl
theorem wl_some {E : Ex} {μ : Mem} {k : Nat} {q : Nat × va_E} (h : (wl E μ)[k]? = some q) : k < 100 ∧ q = (eA E k, ent E μ k) := by
  have hk : k < 100 := by
    have := (List.getElem?_eq_some_iff.mp h).1
    simpa [wl] using this
  rw [wl_at hk] at h
  exact ⟨hk, (Option.some.inj h).symm⟩
theorem wl_D {E : Ex} {μ : Mem} (hE : Eok E) : va_D (fr E) (wl E μ) := by
  refine ⟨fun i j p q hi hj h => ?_, fun k q hk => ?_⟩
  · obtain ⟨a, rfl⟩ := wl_some hi
    obtain ⟨b, rfl⟩ := wl_some hj
    exact hE.1 i j a b h
  · obtain ⟨a, rfl⟩ := wl_some hk
    exact hE.2.1 k a
theorem fl_congr {E : Ex} {μ μ' : Mem} {k : Nat} (h : μ k = μ' k) : ∀ (rs : List Nat) (j : Nat), fl E μ k j rs = fl E μ' k j rs
  | [], _ => rfl
  | r :: t, j => by rw [fl, fl, h, fl_congr h t]
theorem ent_congr {E : Ex} {μ μ' : Mem} {k : Nat} (h : μ k = μ' k) : ent E μ k = ent E μ' k := by
  unfold ent
  split <;> first | rw [h] | rw [fl_congr h] | rfl
theorem up_ne {μ : Mem} {k k' : Nat} {i v : Int} (h : k' ≠ k) : up μ k i v k' = μ k' := by
  funext j
  simp [up, h]
theorem wl_set {E : Ex} {μ : Mem} {k : Nat} {i v : Int} {x : va_E} (hk : k < 100) (hx : x = ent E (up μ k i v) k) : (wl E μ).set k (eA E k, x) = wl E (up μ k i v) := by
  subst hx
  refine List.ext_getElem? fun j => ?_
  by_cases hj : j = k
  · subst hj
    rw [List.getElem?_set_self (by simpa [wl] using hk), wl_at hk]
  · rw [List.getElem?_set_ne (Ne.symm hj)]
    by_cases hl : j < 100
    · rw [wl_at hl, wl_at hl, ent_congr (up_ne hj)]
    · rw [List.getElem?_eq_none (by simp [wl]; omega), List.getElem?_eq_none (by simp [wl]; omega)]
theorem fl_at {E : Ex} {μ : Mem} {k : Nat} : ∀ (rs : List Nat) (j0 j r : Nat), rs[j]? = some r → (fl E μ k j0 rs)[j]? = some (if r = 0 then Value.int (Int32.ofInt (μ k ((j0 + j : Nat)))) else .ref (eA E (r - 1)))
  | [], j0, j, r, h => by simp at h
  | a :: t, j0, 0, r, h => by
    simp only [List.getElem?_cons_zero, Option.some.injEq] at h
    subst h
    rfl
  | a :: t, j0, j + 1, r, h => by
    rw [List.getElem?_cons_succ] at h
    rw [fl, List.getElem?_cons_succ, fl_at t (j0 + 1) j r h, show j0 + 1 + j = j0 + (j + 1) by omega]
theorem fl_len {E : Ex} {μ : Mem} {k : Nat} : ∀ (rs : List Nat) (j0 : Nat), (fl E μ k j0 rs).length = rs.length
  | [], _ => rfl
  | a :: t, j0 => by rw [fl, List.length_cons, List.length_cons, fl_len t]
theorem fl_set {E : Ex} {μ : Mem} {k : Nat} {v : Int} : ∀ (rs : List Nat) (j0 j : Nat), rs[j]? = some 0 → (fl E μ k j0 rs).set j (.int (Int32.ofInt v)) = fl E (up μ k ((j0 + j : Nat)) v) k j0 rs
  | [], j0, j, h => by simp at h
  | a :: t, j0, 0, h => by
    simp only [List.getElem?_cons_zero, Option.some.injEq] at h
    subst h
    rw [fl, fl, List.set_cons_zero]
    congr 1
    · simp [up]
    · have key : ∀ (rs : List Nat) (j : Nat), j0 < j → fl E μ k j rs = fl E (up μ k ((j0 + 0 : Nat)) v) k j rs := by
        intro rs
        induction rs with
        | nil => intro j _; rfl
        | cons b u ih =>
          intro j hj
          rw [fl, fl, ih (j + 1) (by omega)]
          have : up μ k ((j0 + 0 : Nat)) v k j = μ k j := by
            unfold up
            rw [if_neg]
            rintro ⟨-, h⟩
            omega
          rw [this]
      exact key t (j0 + 1) (by omega)
  | a :: t, j0, j + 1, h => by
    rw [List.getElem?_cons_succ] at h
    rw [fl, fl, List.set_cons_succ, fl_set t (j0 + 1) j h, show j0 + 1 + j = j0 + (j + 1) by omega]
    congr 1
    have : up μ k ((j0 + (j + 1) : Nat)) v k j0 = μ k j0 := by
      unfold up
      rw [if_neg]
      rintro ⟨-, h⟩
      omega
    rw [this]
def inR (x : Int) : Prop := -2147483648 ≤ x ∧ x < 2147483648
theorem inR_toInt {x : Int} (h : inR x) : (Int32.ofInt x).toInt = x := Int32.toInt_ofInt_of_le (by have := h.1; omega) (by have := h.2; omega)
theorem inR_clamp {x : Int} (h : inR x) : (Int32.ofInt x).toNatClampNeg = x.toNat := Int32.toNatClampNeg_ofInt_of_le (by have := h.1; omega) (by have := h.2; omega)
theorem inR_lt {x y : Int} (hx : inR x) (hy : inR y) : Int32.ofInt x < Int32.ofInt y ↔ x < y := by rw [Int32.lt_iff_toInt_lt, inR_toInt hx, inR_toInt hy]
theorem inR_le {x y : Int} (hx : inR x) (hy : inR y) : Int32.ofInt x ≤ Int32.ofInt y ↔ x ≤ y := by rw [Int32.le_iff_toInt_le, inR_toInt hx, inR_toInt hy]
theorem inR_eq {x y : Int} (hx : inR x) (hy : inR y) : Int32.ofInt x = Int32.ofInt y ↔ x = y := by rw [← Int32.toInt_inj, inR_toInt hx, inR_toInt hy]
theorem inR_of (x : Int32) : inR x.toInt := ⟨by have := x.le_toInt; omega, by have := x.toInt_lt; omega⟩
theorem ofI0 : Int32.ofInt 0 = 0 := rfl
theorem inR0 : inR 0 := by unfold inR; omega
theorem inR_vp {x : Int} {n : Nat} (hn : n < 2 ^ 31) (h1 : 0 ≤ x) (h2 : x < n) : vp_in (Int32.ofInt x) n := by
  have hr : inR x := by unfold inR; omega
  rw [vp_in_iff, inR_toInt hr]
  exact ⟨h1, h2⟩
def tv (E : Ex) : Vl → Value
  | .inl x => .int (Int32.ofInt x)
  | .inr k => .ref (eA E k)
theorem tv_cat (E : Ex) (v : Vl) : (tv E v).category = 1 := by cases v <;> rfl
theorem tv_sum (E : Ex) : ∀ st : List Vl, ((st.map (tv E)).map fun v => v.category).sum = st.length
  | [] => rfl
  | a :: t => by rw [List.map_cons, List.map_cons, List.sum_cons, tv_sum E t, tv_cat, List.length_cons]; omega
def LcS (E : Ex) (lsA : Array Slot) (n : Nat) (ls : List (Option Vl)) : Prop := lsA.size = n ∧ lv_wf lsA ∧ ∀ (i : Nat) (v : Vl), ls[i]? = some (some v) → lsA[i]? = some (.val (tv E v))
def lsP (E : Ex) (ls : List (Option Vl)) : List (Nat × Value) := (List.range ls.length).filterMap (fun i => match ls[i]? with | some (some v) => some (i, tv E v) | _ => none)
theorem lsP_mem {E : Ex} {ls : List (Option Vl)} {q : Nat × Value} : q ∈ lsP E ls ↔ ∃ v, ls[q.1]? = some (some v) ∧ q.2 = tv E v := by
  unfold lsP
  rw [List.mem_filterMap]
  constructor
  · rintro ⟨i, hi, h⟩
    split at h
    · next v hv =>
      cases h
      exact ⟨v, hv, rfl⟩
    · cases h
  · rintro ⟨v, h1, h2⟩
    refine ⟨q.1, ?_, ?_⟩
    · rw [List.mem_range]
      exact (List.getElem?_eq_some_iff.mp h1).1
    · rw [h1]
      show some (q.1, tv E v) = some q
      rw [← h2]
theorem LcS.has {E : Ex} {lsA : Array Slot} {n : Nat} {ls : List (Option Vl)} (h : LcS E lsA n ls) : lv_has lsA n (lsP E ls) := by
  refine ⟨h.1, h.2.1, fun q hq => ?_⟩
  obtain ⟨v, h1, h2⟩ := lsP_mem.mp hq
  rw [h2]
  exact h.2.2 q.1 v h1
theorem LcS.set {E : Ex} {lsA : Array Slot} {n i : Nat} {ls : List (Option Vl)} {v : Vl} {w : Value} (hw : w = tv E v) (h : lv_has lsA n ((i, w) :: (lsP E ls).filter (fun q => !(q.1 == i) && !(q.1 + 1 == i && q.2.category == 2)))) : LcS E lsA n (ls.set i (some v)) := by
  subst hw
  refine ⟨h.1, h.2.1, fun j u hj => ?_⟩
  by_cases hij : j = i
  · subst hij
    have hl := (List.getElem?_eq_some_iff.mp hj).1
    rw [List.length_set] at hl
    rw [List.getElem?_set_self hl] at hj
    cases hj
    exact h.2.2 (j, tv E v) List.mem_cons_self
  · rw [List.getElem?_set_ne (Ne.symm hij)] at hj
    refine h.2.2 (j, tv E u) (List.mem_cons_of_mem _ (List.mem_filter.mpr ⟨lsP_mem.mpr ⟨u, hj, rfl⟩, ?_⟩))
    simp [hij, tv_cat]
def en0 (n : Nat) (as : List Vl) : List (Option Vl) := as.map some ++ List.replicate (n - as.length) none
theorem args_mem (E : Ex) : ∀ (as : List Vl) (i0 j : Nat) (v : Vl), as[j]? = some v → (i0 + j, tv E v) ∈ lv_args i0 (as.map (tv E))
  | [], _, _, _, h => by simp at h
  | a :: t, i0, 0, v, h => by
    simp only [List.getElem?_cons_zero, Option.some.injEq] at h
    subst h
    exact List.mem_cons_self
  | a :: t, i0, j + 1, v, h => by
    rw [List.getElem?_cons_succ] at h
    rw [List.map_cons, lv_args, if_neg (by rw [tv_cat]; decide)]
    refine List.mem_cons_of_mem _ ?_
    have := args_mem E t (i0 + 1) j v h
    rwa [show i0 + 1 + j = i0 + (j + 1) by omega] at this
theorem sl_len (E : Ex) : ∀ as : List Vl, (lg_sl (as.map (tv E))).length = as.length
  | [] => rfl
  | a :: t => by
    have := sl_len E t
    simp only [lg_sl, List.map_cons, List.flatMap_cons, tv_cat, List.length_append, List.length_cons] at this ⊢
    rw [if_neg (by decide)]
    simp only [List.length_cons, List.length_nil]
    omega
theorem LcS.entry (E : Ex) {as : List Vl} {n : Nat} (h : as.length ≤ n) : LcS E ((lg_sl (as.map (tv E)) ++ List.replicate (n - (lg_sl (as.map (tv E))).length) Slot.unset).toArray) n (en0 n as) := by
  have hl := lv_entry (as.map (tv E)) (n := n) (by rw [sl_len]; exact h)
  refine ⟨hl.1, hl.2.1, fun i v hi => ?_⟩
  unfold en0 at hi
  have hlt : i < as.length := by
    rcases Nat.lt_or_ge i as.length with q | q
    · exact q
    · rw [List.getElem?_append_right (by simpa using q)] at hi
      have := List.mem_of_getElem? hi
      rw [List.mem_replicate] at this
      exact absurd this.2 (by simp)
  rw [List.getElem?_append_left (by simpa using hlt), List.getElem?_map] at hi
  have hv : as[i]? = some v := by
    cases hq : as[i]? with
    | none => rw [hq] at hi; cases hi
    | some u => rw [hq] at hi; simpa using hi
  have := hl.2.2 _ (args_mem E as 0 i v hv)
  simpa using this
end
