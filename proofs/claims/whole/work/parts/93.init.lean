/-! The constructors. -/
theorem obj_in : Cond.instanceMethod objectInit ∈ TB := tb1 (List.mem_of_getElem? (i := 18) (by decide +kernel)) rfl
theorem obj_co : Cond.code objectInit ⟨#[0xb1]⟩ 1 none ∈ TB := tb1 (List.mem_of_getElem? (i := 19) (by decide +kernel)) rfl
theorem ac_int : Cond.arrayClass .int ∈ TB := tb1 (List.mem_of_getElem? (i := 56) (by decide +kernel)) rfl
theorem ac_bool : Cond.arrayClass .boolean ∈ TB := tb4 (List.mem_of_getElem? (i := 86) (by decide +kernel)) rfl
theorem cwX0 : Cw RX0 TX0 6 0 tyX0 := ⟨uRX0, tyX0_ok, nmX0, rfl, tb1 (List.mem_of_getElem? (i := 146) (by decide +kernel)) rfl, tb1 (List.mem_of_getElem? (i := 4) (by decide +kernel)) rfl⟩
theorem kiM_X0 : Mi M_X0_init := ⟨tb1 (List.mem_of_getElem? (i := 4) (by decide +kernel)) rfl, tb1 (List.mem_of_getElem? (i := 149) (by decide +kernel)) rfl, rfl, ⟨by decide +kernel, by decide +kernel, by decide +kernel⟩, by decide +kernel, tb1 (List.mem_of_getElem? (i := 148) (by decide +kernel)) rfl, rfl, rfl, by decide, by decide⟩
theorem cwX1 : Cw RX1 TX1 2 1 tyX1 := ⟨uRX1, tyX1_ok, nmX1, rfl, tb1 (List.mem_of_getElem? (i := 213) (by decide +kernel)) rfl, tb1 (List.mem_of_getElem? (i := 7) (by decide +kernel)) rfl⟩
theorem kiM_X1 : Mi M_X1_init := ⟨tb1 (List.mem_of_getElem? (i := 7) (by decide +kernel)) rfl, tb1 (List.mem_of_getElem? (i := 216) (by decide +kernel)) rfl, rfl, ⟨by decide +kernel, by decide +kernel, by decide +kernel⟩, by decide +kernel, tb1 (List.mem_of_getElem? (i := 215) (by decide +kernel)) rfl, rfl, rfl, by decide, by decide⟩
theorem cwX2 : Cw RX2 TX2 16 2 tyX2 := ⟨uRX2, tyX2_ok, nmX2, rfl, tb1 (List.mem_of_getElem? (i := 58) (by decide +kernel)) rfl, tb1 (List.mem_of_getElem? (i := 3) (by decide +kernel)) rfl⟩
theorem kiM_X2 : Mi M_X2_init := ⟨tb1 (List.mem_of_getElem? (i := 3) (by decide +kernel)) rfl, tb1 (List.mem_of_getElem? (i := 61) (by decide +kernel)) rfl, rfl, ⟨by decide +kernel, by decide +kernel, by decide +kernel⟩, by decide +kernel, tb1 (List.mem_of_getElem? (i := 60) (by decide +kernel)) rfl, rfl, rfl, by decide, by decide⟩
theorem cwX3 : Cw RX3 TX3 6 3 tyX3 := ⟨uRX3, tyX3_ok, nmX3, rfl, tb1 (List.mem_of_getElem? (i := 185) (by decide +kernel)) rfl, tb1 (List.mem_of_getElem? (i := 6) (by decide +kernel)) rfl⟩
theorem kiM_X3 : Mi M_X3_init := ⟨tb1 (List.mem_of_getElem? (i := 6) (by decide +kernel)) rfl, tb1 (List.mem_of_getElem? (i := 188) (by decide +kernel)) rfl, rfl, ⟨by decide +kernel, by decide +kernel, by decide +kernel⟩, by decide +kernel, tb1 (List.mem_of_getElem? (i := 187) (by decide +kernel)) rfl, rfl, rfl, by decide, by decide⟩
theorem cwX4 : Cw RX4 TX4 8 4 tyX4 := ⟨uRX4, tyX4_ok, nmX4, rfl, tb1 (List.mem_of_getElem? (i := 23) (by decide +kernel)) rfl, tb1 (List.mem_of_getElem? (i := 2) (by decide +kernel)) rfl⟩
theorem kiM_X4 : Mi M_X4_init := ⟨tb1 (List.mem_of_getElem? (i := 2) (by decide +kernel)) rfl, tb1 (List.mem_of_getElem? (i := 26) (by decide +kernel)) rfl, rfl, ⟨by decide +kernel, by decide +kernel, by decide +kernel⟩, by decide +kernel, tb1 (List.mem_of_getElem? (i := 25) (by decide +kernel)) rfl, rfl, rfl, by decide, by decide⟩
theorem cwX5 : Cw RX5 TX5 1 5 tyX5 := ⟨uRX5, tyX5_ok, nmX5, rfl, tb1 (List.mem_of_getElem? (i := 172) (by decide +kernel)) rfl, tb1 (List.mem_of_getElem? (i := 5) (by decide +kernel)) rfl⟩
theorem kiM_X5 : Mi M_X5_init := ⟨tb1 (List.mem_of_getElem? (i := 5) (by decide +kernel)) rfl, tb1 (List.mem_of_getElem? (i := 175) (by decide +kernel)) rfl, rfl, ⟨by decide +kernel, by decide +kernel, by decide +kernel⟩, by decide +kernel, tb1 (List.mem_of_getElem? (i := 174) (by decide +kernel)) rfl, rfl, rfl, by decide, by decide⟩
theorem cwX6 : Cw RX6 TX6 3 6 tyX6 := ⟨uRX6, tyX6_ok, nmX6, rfl, tb1 (List.mem_of_getElem? (i := 227) (by decide +kernel)) rfl, tb1 (List.mem_of_getElem? (i := 8) (by decide +kernel)) rfl⟩
theorem kiM_X6 : Mi M_X6_init := ⟨tb1 (List.mem_of_getElem? (i := 8) (by decide +kernel)) rfl, tb1 (List.mem_of_getElem? (i := 230) (by decide +kernel)) rfl, rfl, ⟨by decide +kernel, by decide +kernel, by decide +kernel⟩, by decide +kernel, tb1 (List.mem_of_getElem? (i := 229) (by decide +kernel)) rfl, rfl, rfl, by decide, by decide⟩
theorem cwX7 : Cw RX7 TX7 11 7 tyX7 := ⟨uRX7, tyX7_ok, nmX7, rfl, tb1 (List.mem_of_getElem? (i := 13) (by decide +kernel)) rfl, tb1 (List.mem_of_getElem? (i := 1) (by decide +kernel)) rfl⟩
theorem kiM_X7 : Mi M_X7_init := ⟨tb1 (List.mem_of_getElem? (i := 1) (by decide +kernel)) rfl, tb1 (List.mem_of_getElem? (i := 16) (by decide +kernel)) rfl, rfl, ⟨by decide +kernel, by decide +kernel, by decide +kernel⟩, by decide +kernel, tb1 (List.mem_of_getElem? (i := 15) (by decide +kernel)) rfl, rfl, rfl, by decide, by decide⟩
theorem cwX8 : Cw RX8 TX8 27 8 tyX8 := ⟨uRX8, tyX8_ok, nmX8, rfl, tb3 (List.mem_of_getElem? (i := 238) (by decide +kernel)) rfl, tb1 (List.mem_of_getElem? (i := 9) (by decide +kernel)) rfl⟩
theorem kiM_X8 : Mi M_X8_init := ⟨tb1 (List.mem_of_getElem? (i := 9) (by decide +kernel)) rfl, tb4 (List.mem_of_getElem? (i := 1) (by decide +kernel)) rfl, rfl, ⟨by decide +kernel, by decide +kernel, by decide +kernel⟩, by decide +kernel, tb4 (List.mem_of_getElem? (i := 0) (by decide +kernel)) rfl, rfl, rfl, by decide, by decide⟩
abbrev zX0 : List Value := [.null, .null, .null, .null, .int 0, .int 0]
abbrev zX1 : List Value := [.null, .int 0]
abbrev zX2 : List Value := [.int 0, .int 0, .int 0, .int 0, .int 0, .int 0, .null, .null, .null, .null, .null, .null, .null, .null, .null, .int 0]
abbrev zX3 : List Value := [.null, .int 0, .int 0, .null, .null, .int 0]
abbrev zX4 : List Value := [.null, .int 0, .int 0, .int 0, .int 0, .int 0, .int 0, .int 0]
abbrev zX5 : List Value := [.null]
abbrev zX6 : List Value := [.null, .int 0, .int 0]
abbrev zX7 : List Value := [.null, .null, .null, .null, .null, .null, .null, .null, .null, .int 0, .int 0]
abbrev zX8 : List Value := [.null, .null, .null, .null, .int 0, .null, .int 0, .int 0, .int 0, .int 0, .int 0, .int 0, .int 0, .null, .null, .null, .null, .int 0, .null, .null, .null, .int 0, .null, .int 0, .null, .null, .null]
theorem zX0_ok : ∀ j, j < 6 → defaultValue (tyX0 j) = vp_V zX0 j := by decide +kernel
theorem zX1_ok : ∀ j, j < 2 → defaultValue (tyX1 j) = vp_V zX1 j := by decide +kernel
theorem zX2_ok : ∀ j, j < 16 → defaultValue (tyX2 j) = vp_V zX2 j := by decide +kernel
theorem zX3_ok : ∀ j, j < 6 → defaultValue (tyX3 j) = vp_V zX3 j := by decide +kernel
theorem zX4_ok : ∀ j, j < 8 → defaultValue (tyX4 j) = vp_V zX4 j := by decide +kernel
theorem zX5_ok : ∀ j, j < 1 → defaultValue (tyX5 j) = vp_V zX5 j := by decide +kernel
theorem zX6_ok : ∀ j, j < 3 → defaultValue (tyX6 j) = vp_V zX6 j := by decide +kernel
theorem zX7_ok : ∀ j, j < 11 → defaultValue (tyX7 j) = vp_V zX7 j := by decide +kernel
theorem zX8_ok : ∀ j, j < 27 → defaultValue (tyX8 j) = vp_V zX8 j := by decide +kernel
abbrev fX0 (b : Nat → Nat) : List Value := [.ref (b 0), .ref (b 1), .ref (b 2), .ref (b 3), .int 0, .int 0]
abbrev kX0 (K : Nat → ClassId) (b : Nat → Nat) : va_W := [(b 0, (.inl (K 0, 24, .inl (fun _ => 0)))), (b 1, (.inl (K 0, 24, .inl (fun _ => 0)))), (b 2, (.inl (K 0, 24, .inl (fun _ => 0)))), (b 3, (.inl (K 0, 24, .inl (fun _ => 0))))]
abbrev fX1 (b : Nat → Nat) : List Value := [.ref (b 0), .int 0]
abbrev kX1 (K : Nat → ClassId) (b : Nat → Nat) : va_W := [(b 0, (.inl (K 0, 16, .inl (fun _ => 0))))]
abbrev fX2 (b : Nat → Nat) : List Value := [.int 0, .int 0, .int 0, .int 0, .int 0, .int 0, .ref (b 0), .ref (b 1), .ref (b 2), .ref (b 3), .ref (b 4), .ref (b 5), .ref (b 6), .ref (b 7), .ref (b 8), .int 0]
abbrev kX2 (K : Nat → ClassId) (b : Nat → Nat) : va_W := [(b 0, (.inl (K 0, 8, .inl (fun _ => 0)))), (b 1, (.inl (K 0, 8, .inl (fun _ => 0)))), (b 2, (.inl (K 0, 6, .inl (fun _ => 0)))), (b 3, (.inl (K 0, 6, .inl (fun _ => 0)))), (b 4, (.inl (K 0, 24, .inl (fun _ => 0)))), (b 5, (.inl (K 0, 6, .inl (fun _ => 0)))), (b 6, (.inl (K 0, 6, .inl (fun _ => 0)))), (b 7, (.inl (K 0, 6, .inl (fun _ => 0)))), (b 8, (.inl (K 0, 6, .inl (fun _ => 0))))]
abbrev fX3 (b : Nat → Nat) : List Value := [.ref (b 0), .int 0, .int 0, .ref (b 1), .ref (b 2), .int 0]
abbrev kX3 (K : Nat → ClassId) (b : Nat → Nat) : va_W := [(b 0, (.inl (K 0, 6, .inl (fun _ => 0)))), (b 1, (.inl (K 0, 6, .inl (fun _ => 0)))), (b 2, (.inl (K 0, 4, .inl (fun _ => 0))))]
abbrev fX4 (b : Nat → Nat) : List Value := [.ref (b 0), .int 0, .int 0, .int 0, .int 0, .int 0, .int 0, .int 0]
abbrev kX4 (K : Nat → ClassId) (b : Nat → Nat) : va_W := [(b 0, (.inl (K 0, 120, .inl (fun _ => 0))))]
abbrev fX6 (b : Nat → Nat) : List Value := [.ref (b 0), .int 0, .int (-1)]
abbrev kX6 (K : Nat → ClassId) (b : Nat → Nat) : va_W := [(b 0, (.inl (K 0, 40, .inl (fun _ => 0))))]
abbrev fX5 (b : Nat → Nat) : List Value := [.ref (b 0)]
abbrev kX5 (K : Nat → ClassId) (b : Nat → Nat) : va_W := (b 0, .inr (2, fX2 (fun j => b (j + 1)))) :: kX2 K (fun j => b (j + 1))
theorem oRX0 : Cond.methodLink RX0 3 objectInit ∈ TB := tb1 (List.mem_of_getElem? (i := 150) (by decide +kernel)) rfl
theorem gX0_9 : Cond.fieldLink RX0 9 (TX0 0).1 (TX0 0).2.1 (TX0 0).2.2.1 ∈ TB := tb1 (List.mem_of_getElem? (i := 151) (by decide +kernel)) rfl
theorem gX0_15 : Cond.fieldLink RX0 15 (TX0 1).1 (TX0 1).2.1 (TX0 1).2.2.1 ∈ TB := tb1 (List.mem_of_getElem? (i := 152) (by decide +kernel)) rfl
theorem gX0_18 : Cond.fieldLink RX0 18 (TX0 2).1 (TX0 2).2.1 (TX0 2).2.2.1 ∈ TB := tb1 (List.mem_of_getElem? (i := 153) (by decide +kernel)) rfl
theorem gX0_21 : Cond.fieldLink RX0 21 (TX0 3).1 (TX0 3).2.1 (TX0 3).2.2.1 ∈ TB := tb1 (List.mem_of_getElem? (i := 154) (by decide +kernel)) rfl
theorem ki_X0 {F : Fe} {d : Nat} {Ws : va_W} {kk a : Nat} (hd : 1 ≤ d) (hw : Ws[kk]? = some (a, .inr (0, zX0))) : Kg F d M_X0_init Ws kk a 0 4 96 0 [(0, .ref a)] [] zX0 [] (fun fs cs => ∃ b : Nat → Nat, fs = fX0 b ∧ cs = kX0 F.2.2 b) := by
  have hk := (List.getElem?_eq_some_iff.mp hw).1
  refine kg_aload 0 DM_X0_init_0 rfl ?_
  refine kg_obj DM_X0_init_1 oRX0 obj_in obj_co (by omega) ?_
  refine kg_aload 0 DM_X0_init_4 rfl ?_
  refine kg_bipush (v := 24) DM_X0_init_5 (by decide) ?_
  refine kg_newI (nc := 3) (ns := 72) (N := 24) DM_X0_init_7 ac_int (by decide) (by decide) (by decide) (fun a7 => ?_)
  refine kg_putF 0 hk cwX0 DM_X0_init_9 (by decide) gX0_9 rfl rfl rfl rfl (Nat.le_of_ble_eq_true rfl) ?_
  refine kg_aload 0 DM_X0_init_12 rfl ?_
  refine kg_bipush (v := 24) DM_X0_init_13 (by decide) ?_
  refine kg_newI (nc := 2) (ns := 48) (N := 24) DM_X0_init_15 ac_int (by decide) (by decide) (by decide) (fun a15 => ?_)
  refine kg_putF 1 hk cwX0 DM_X0_init_17 (by decide) gX0_15 rfl rfl rfl rfl (Nat.le_of_ble_eq_true rfl) ?_
  refine kg_aload 0 DM_X0_init_20 rfl ?_
  refine kg_bipush (v := 24) DM_X0_init_21 (by decide) ?_
  refine kg_newI (nc := 1) (ns := 24) (N := 24) DM_X0_init_23 ac_int (by decide) (by decide) (by decide) (fun a23 => ?_)
  refine kg_putF 2 hk cwX0 DM_X0_init_25 (by decide) gX0_18 rfl rfl rfl rfl (Nat.le_of_ble_eq_true rfl) ?_
  refine kg_aload 0 DM_X0_init_28 rfl ?_
  refine kg_bipush (v := 24) DM_X0_init_29 (by decide) ?_
  refine kg_newI (nc := 0) (ns := 0) (N := 24) DM_X0_init_31 ac_int (by decide) (by decide) (by decide) (fun a31 => ?_)
  refine kg_putF 3 hk cwX0 DM_X0_init_33 (by decide) gX0_21 rfl rfl rfl rfl (Nat.le_of_ble_eq_true rfl) ?_
  exact kg_ret DM_X0_init_36 ⟨fun j => [a7, a15, a23, a31].getD j 0, rfl, rfl⟩
theorem oRX1 : Cond.methodLink RX1 3 objectInit ∈ TB := tb1 (List.mem_of_getElem? (i := 217) (by decide +kernel)) rfl
theorem gX1_9 : Cond.fieldLink RX1 9 (TX1 0).1 (TX1 0).2.1 (TX1 0).2.2.1 ∈ TB := tb1 (List.mem_of_getElem? (i := 218) (by decide +kernel)) rfl
theorem ki_X1 {F : Fe} {d : Nat} {Ws : va_W} {kk a : Nat} (hd : 1 ≤ d) (hw : Ws[kk]? = some (a, .inr (1, zX1))) : Kg F d M_X1_init Ws kk a 1 1 16 0 [(0, .ref a)] [] zX1 [] (fun fs cs => ∃ b : Nat → Nat, fs = fX1 b ∧ cs = kX1 F.2.2 b) := by
  have hk := (List.getElem?_eq_some_iff.mp hw).1
  refine kg_aload 0 DM_X1_init_0 rfl ?_
  refine kg_obj DM_X1_init_1 oRX1 obj_in obj_co (by omega) ?_
  refine kg_aload 0 DM_X1_init_4 rfl ?_
  refine kg_bipush (v := 16) DM_X1_init_5 (by decide) ?_
  refine kg_newI (nc := 0) (ns := 0) (N := 16) DM_X1_init_7 ac_int (by decide) (by decide) (by decide) (fun a7 => ?_)
  refine kg_putF 0 hk cwX1 DM_X1_init_9 (by decide) gX1_9 rfl rfl rfl rfl (Nat.le_of_ble_eq_true rfl) ?_
  exact kg_ret DM_X1_init_12 ⟨fun j => [a7].getD j 0, rfl, rfl⟩
theorem oRX2 : Cond.methodLink RX2 3 objectInit ∈ TB := tb1 (List.mem_of_getElem? (i := 62) (by decide +kernel)) rfl
theorem gX2_9 : Cond.fieldLink RX2 9 (TX2 6).1 (TX2 6).2.1 (TX2 6).2.2.1 ∈ TB := tb1 (List.mem_of_getElem? (i := 83) (by decide +kernel)) rfl
theorem gX2_15 : Cond.fieldLink RX2 15 (TX2 7).1 (TX2 7).2.1 (TX2 7).2.2.1 ∈ TB := tb1 (List.mem_of_getElem? (i := 84) (by decide +kernel)) rfl
theorem gX2_18 : Cond.fieldLink RX2 18 (TX2 8).1 (TX2 8).2.1 (TX2 8).2.2.1 ∈ TB := tb1 (List.mem_of_getElem? (i := 85) (by decide +kernel)) rfl
theorem gX2_21 : Cond.fieldLink RX2 21 (TX2 9).1 (TX2 9).2.1 (TX2 9).2.2.1 ∈ TB := tb1 (List.mem_of_getElem? (i := 89) (by decide +kernel)) rfl
theorem gX2_24 : Cond.fieldLink RX2 24 (TX2 10).1 (TX2 10).2.1 (TX2 10).2.2.1 ∈ TB := tb1 (List.mem_of_getElem? (i := 94) (by decide +kernel)) rfl
theorem gX2_27 : Cond.fieldLink RX2 27 (TX2 11).1 (TX2 11).2.1 (TX2 11).2.2.1 ∈ TB := tb1 (List.mem_of_getElem? (i := 95) (by decide +kernel)) rfl
theorem gX2_30 : Cond.fieldLink RX2 30 (TX2 12).1 (TX2 12).2.1 (TX2 12).2.2.1 ∈ TB := tb1 (List.mem_of_getElem? (i := 100) (by decide +kernel)) rfl
theorem gX2_33 : Cond.fieldLink RX2 33 (TX2 13).1 (TX2 13).2.1 (TX2 13).2.2.1 ∈ TB := tb1 (List.mem_of_getElem? (i := 104) (by decide +kernel)) rfl
theorem gX2_36 : Cond.fieldLink RX2 36 (TX2 14).1 (TX2 14).2.1 (TX2 14).2.2.1 ∈ TB := tb1 (List.mem_of_getElem? (i := 107) (by decide +kernel)) rfl
theorem ki_X2 {F : Fe} {d : Nat} {Ws : va_W} {kk a : Nat} (hd : 1 ≤ d) (hw : Ws[kk]? = some (a, .inr (2, zX2))) : Kg F d M_X2_init Ws kk a 2 9 76 0 [(0, .ref a)] [] zX2 [] (fun fs cs => ∃ b : Nat → Nat, fs = fX2 b ∧ cs = kX2 F.2.2 b) := by
  have hk := (List.getElem?_eq_some_iff.mp hw).1
  refine kg_aload 0 DM_X2_init_0 rfl ?_
  refine kg_obj DM_X2_init_1 oRX2 obj_in obj_co (by omega) ?_
  refine kg_aload 0 DM_X2_init_4 rfl ?_
  refine kg_bipush (v := 8) DM_X2_init_5 (by decide) ?_
  refine kg_newI (nc := 8) (ns := 68) (N := 8) DM_X2_init_7 ac_int (by decide) (by decide) (by decide) (fun a7 => ?_)
  refine kg_putF 6 hk cwX2 DM_X2_init_9 (by decide) gX2_9 rfl rfl rfl rfl (Nat.le_of_ble_eq_true rfl) ?_
  refine kg_aload 0 DM_X2_init_12 rfl ?_
  refine kg_bipush (v := 8) DM_X2_init_13 (by decide) ?_
  refine kg_newI (nc := 7) (ns := 60) (N := 8) DM_X2_init_15 ac_int (by decide) (by decide) (by decide) (fun a15 => ?_)
  refine kg_putF 7 hk cwX2 DM_X2_init_17 (by decide) gX2_15 rfl rfl rfl rfl (Nat.le_of_ble_eq_true rfl) ?_
  refine kg_aload 0 DM_X2_init_20 rfl ?_
  refine kg_bipush (v := 6) DM_X2_init_21 (by decide) ?_
  refine kg_newI (nc := 6) (ns := 54) (N := 6) DM_X2_init_23 ac_int (by decide) (by decide) (by decide) (fun a23 => ?_)
  refine kg_putF 8 hk cwX2 DM_X2_init_25 (by decide) gX2_18 rfl rfl rfl rfl (Nat.le_of_ble_eq_true rfl) ?_
  refine kg_aload 0 DM_X2_init_28 rfl ?_
  refine kg_bipush (v := 6) DM_X2_init_29 (by decide) ?_
  refine kg_newI (nc := 5) (ns := 48) (N := 6) DM_X2_init_31 ac_int (by decide) (by decide) (by decide) (fun a31 => ?_)
  refine kg_putF 9 hk cwX2 DM_X2_init_33 (by decide) gX2_21 rfl rfl rfl rfl (Nat.le_of_ble_eq_true rfl) ?_
  refine kg_aload 0 DM_X2_init_36 rfl ?_
  refine kg_bipush (v := 24) DM_X2_init_37 (by decide) ?_
  refine kg_newI (nc := 4) (ns := 24) (N := 24) DM_X2_init_39 ac_int (by decide) (by decide) (by decide) (fun a39 => ?_)
  refine kg_putF 10 hk cwX2 DM_X2_init_41 (by decide) gX2_24 rfl rfl rfl rfl (Nat.le_of_ble_eq_true rfl) ?_
  refine kg_aload 0 DM_X2_init_44 rfl ?_
  refine kg_bipush (v := 6) DM_X2_init_45 (by decide) ?_
  refine kg_newI (nc := 3) (ns := 18) (N := 6) DM_X2_init_47 ac_int (by decide) (by decide) (by decide) (fun a47 => ?_)
  refine kg_putF 11 hk cwX2 DM_X2_init_49 (by decide) gX2_27 rfl rfl rfl rfl (Nat.le_of_ble_eq_true rfl) ?_
  refine kg_aload 0 DM_X2_init_52 rfl ?_
  refine kg_bipush (v := 6) DM_X2_init_53 (by decide) ?_
  refine kg_newI (nc := 2) (ns := 12) (N := 6) DM_X2_init_55 ac_int (by decide) (by decide) (by decide) (fun a55 => ?_)
  refine kg_putF 12 hk cwX2 DM_X2_init_57 (by decide) gX2_30 rfl rfl rfl rfl (Nat.le_of_ble_eq_true rfl) ?_
  refine kg_aload 0 DM_X2_init_60 rfl ?_
  refine kg_bipush (v := 6) DM_X2_init_61 (by decide) ?_
  refine kg_newI (nc := 1) (ns := 6) (N := 6) DM_X2_init_63 ac_int (by decide) (by decide) (by decide) (fun a63 => ?_)
  refine kg_putF 13 hk cwX2 DM_X2_init_65 (by decide) gX2_33 rfl rfl rfl rfl (Nat.le_of_ble_eq_true rfl) ?_
  refine kg_aload 0 DM_X2_init_68 rfl ?_
  refine kg_bipush (v := 6) DM_X2_init_69 (by decide) ?_
  refine kg_newI (nc := 0) (ns := 0) (N := 6) DM_X2_init_71 ac_int (by decide) (by decide) (by decide) (fun a71 => ?_)
  refine kg_putF 14 hk cwX2 DM_X2_init_73 (by decide) gX2_36 rfl rfl rfl rfl (Nat.le_of_ble_eq_true rfl) ?_
  exact kg_ret DM_X2_init_76 ⟨fun j => [a7, a15, a23, a31, a39, a47, a55, a63, a71].getD j 0, rfl, rfl⟩
theorem oRX3 : Cond.methodLink RX3 3 objectInit ∈ TB := tb1 (List.mem_of_getElem? (i := 189) (by decide +kernel)) rfl
theorem gX3_9 : Cond.fieldLink RX3 9 (TX3 0).1 (TX3 0).2.1 (TX3 0).2.2.1 ∈ TB := tb1 (List.mem_of_getElem? (i := 190) (by decide +kernel)) rfl
theorem gX3_15 : Cond.fieldLink RX3 15 (TX3 3).1 (TX3 3).2.1 (TX3 3).2.2.1 ∈ TB := tb1 (List.mem_of_getElem? (i := 196) (by decide +kernel)) rfl
theorem gX3_18 : Cond.fieldLink RX3 18 (TX3 4).1 (TX3 4).2.1 (TX3 4).2.2.1 ∈ TB := tb1 (List.mem_of_getElem? (i := 197) (by decide +kernel)) rfl
theorem ki_X3 {F : Fe} {d : Nat} {Ws : va_W} {kk a : Nat} (hd : 1 ≤ d) (hw : Ws[kk]? = some (a, .inr (3, zX3))) : Kg F d M_X3_init Ws kk a 3 3 16 0 [(0, .ref a)] [] zX3 [] (fun fs cs => ∃ b : Nat → Nat, fs = fX3 b ∧ cs = kX3 F.2.2 b) := by
  have hk := (List.getElem?_eq_some_iff.mp hw).1
  refine kg_aload 0 DM_X3_init_0 rfl ?_
  refine kg_obj DM_X3_init_1 oRX3 obj_in obj_co (by omega) ?_
  refine kg_aload 0 DM_X3_init_4 rfl ?_
  refine kg_bipush (v := 6) DM_X3_init_5 (by decide) ?_
  refine kg_newI (nc := 2) (ns := 10) (N := 6) DM_X3_init_7 ac_int (by decide) (by decide) (by decide) (fun a7 => ?_)
  refine kg_putF 0 hk cwX3 DM_X3_init_9 (by decide) gX3_9 rfl rfl rfl rfl (Nat.le_of_ble_eq_true rfl) ?_
  refine kg_aload 0 DM_X3_init_12 rfl ?_
  refine kg_bipush (v := 6) DM_X3_init_13 (by decide) ?_
  refine kg_newI (nc := 1) (ns := 4) (N := 6) DM_X3_init_15 ac_int (by decide) (by decide) (by decide) (fun a15 => ?_)
  refine kg_putF 3 hk cwX3 DM_X3_init_17 (by decide) gX3_15 rfl rfl rfl rfl (Nat.le_of_ble_eq_true rfl) ?_
  refine kg_aload 0 DM_X3_init_20 rfl ?_
  refine kg_iconst (v := 4) DM_X3_init_21 (by decide) ?_
  refine kg_newI (nc := 0) (ns := 0) (N := 4) DM_X3_init_22 ac_int (by decide) (by decide) (by decide) (fun a22 => ?_)
  refine kg_putF 4 hk cwX3 DM_X3_init_24 (by decide) gX3_18 rfl rfl rfl rfl (Nat.le_of_ble_eq_true rfl) ?_
  exact kg_ret DM_X3_init_27 ⟨fun j => [a7, a15, a22].getD j 0, rfl, rfl⟩
theorem oRX4 : Cond.methodLink RX4 3 objectInit ∈ TB := tb1 (List.mem_of_getElem? (i := 27) (by decide +kernel)) rfl
theorem gX4_9 : Cond.fieldLink RX4 9 (TX4 0).1 (TX4 0).2.1 (TX4 0).2.2.1 ∈ TB := tb1 (List.mem_of_getElem? (i := 28) (by decide +kernel)) rfl
theorem ki_X4 {F : Fe} {d : Nat} {Ws : va_W} {kk a : Nat} (hd : 1 ≤ d) (hw : Ws[kk]? = some (a, .inr (4, zX4))) : Kg F d M_X4_init Ws kk a 4 1 120 0 [(0, .ref a)] [] zX4 [] (fun fs cs => ∃ b : Nat → Nat, fs = fX4 b ∧ cs = kX4 F.2.2 b) := by
  have hk := (List.getElem?_eq_some_iff.mp hw).1
  refine kg_aload 0 DM_X4_init_0 rfl ?_
  refine kg_obj DM_X4_init_1 oRX4 obj_in obj_co (by omega) ?_
  refine kg_aload 0 DM_X4_init_4 rfl ?_
  refine kg_bipush (v := 120) DM_X4_init_5 (by decide) ?_
  refine kg_newI (nc := 0) (ns := 0) (N := 120) DM_X4_init_7 ac_int (by decide) (by decide) (by decide) (fun a7 => ?_)
  refine kg_putF 0 hk cwX4 DM_X4_init_9 (by decide) gX4_9 rfl rfl rfl rfl (Nat.le_of_ble_eq_true rfl) ?_
  exact kg_ret DM_X4_init_12 ⟨fun j => [a7].getD j 0, rfl, rfl⟩
theorem oRX6 : Cond.methodLink RX6 3 objectInit ∈ TB := tb1 (List.mem_of_getElem? (i := 231) (by decide +kernel)) rfl
theorem gX6_9 : Cond.fieldLink RX6 9 (TX6 0).1 (TX6 0).2.1 (TX6 0).2.2.1 ∈ TB := tb1 (List.mem_of_getElem? (i := 232) (by decide +kernel)) rfl
theorem gX6_15 : Cond.fieldLink RX6 15 (TX6 2).1 (TX6 2).2.1 (TX6 2).2.2.1 ∈ TB := tb1 (List.mem_of_getElem? (i := 236) (by decide +kernel)) rfl
theorem ki_X6 {F : Fe} {d : Nat} {Ws : va_W} {kk a : Nat} (hd : 1 ≤ d) (hw : Ws[kk]? = some (a, .inr (6, zX6))) : Kg F d M_X6_init Ws kk a 6 1 40 0 [(0, .ref a)] [] zX6 [] (fun fs cs => ∃ b : Nat → Nat, fs = fX6 b ∧ cs = kX6 F.2.2 b) := by
  have hk := (List.getElem?_eq_some_iff.mp hw).1
  refine kg_aload 0 DM_X6_init_0 rfl ?_
  refine kg_obj DM_X6_init_1 oRX6 obj_in obj_co (by omega) ?_
  refine kg_aload 0 DM_X6_init_4 rfl ?_
  refine kg_bipush (v := 40) DM_X6_init_5 (by decide) ?_
  refine kg_newI (nc := 0) (ns := 0) (N := 40) DM_X6_init_7 ac_int (by decide) (by decide) (by decide) (fun a7 => ?_)
  refine kg_putF 0 hk cwX6 DM_X6_init_9 (by decide) gX6_9 rfl rfl rfl rfl (Nat.le_of_ble_eq_true rfl) ?_
  refine kg_aload 0 DM_X6_init_12 rfl ?_
  refine kg_iconst (v := (-1)) DM_X6_init_13 (by decide) ?_
  refine kg_putV 2 hk cwX6 DM_X6_init_14 (by decide) gX6_15 rfl rfl rfl (Nat.le_of_ble_eq_true rfl) ?_
  exact kg_ret DM_X6_init_17 ⟨fun j => [a7].getD j 0, rfl, rfl⟩
theorem oRX5 : Cond.methodLink RX5 3 objectInit ∈ TB := tb1 (List.mem_of_getElem? (i := 176) (by decide +kernel)) rfl
theorem clX5_9 : Cond.classLink RX5 9 RX2 ∈ TB := tb1 (List.mem_of_getElem? (i := 177) (by decide +kernel)) rfl
theorem nlX5_11 : Cond.methodLinkNest RX5 11 (mN M_X2_init) "AlphaCourt" ∈ lw_tbl := List.mem_append_right _ (List.mem_append_left _ (List.mem_of_getElem? (i := 178) (by decide +kernel)))
theorem gX5_12 : Cond.fieldLink RX5 12 (TX5 0).1 (TX5 0).2.1 (TX5 0).2.2.1 ∈ TB := tb1 (List.mem_of_getElem? (i := 179) (by decide +kernel)) rfl
theorem ki_X5 {F : Fe} {d : Nat} {Ws : va_W} {kk a : Nat} (hd : 2 ≤ d) (hw : Ws[kk]? = some (a, .inr (5, zX5))) : Kg F d M_X5_init Ws kk a 5 10 92 0 [(0, .ref a)] [] zX5 [] (fun fs cs => ∃ b : Nat → Nat, fs = fX5 b ∧ cs = kX5 F.2.2 b) := by
  have hk := (List.getElem?_eq_some_iff.mp hw).1
  refine kg_aload 0 DM_X5_init_0 rfl ?_
  refine kg_obj DM_X5_init_1 oRX5 obj_in obj_co (by omega) ?_
  refine kg_aload 0 DM_X5_init_4 rfl ?_
  refine kg_new (nc := 9) (ns := 76) DM_X5_init_5 clX5_9 cwX2 zX2_ok (fun a5 => ?_)
  refine kg_dup DM_X5_init_8 rfl ?_
  refine kg_call (nc := 0) (ns := 0) (nc' := 9) (ns' := 76) (d' := 1) "AlphaCourt" kiM_X2 DM_X5_init_9 nlX5_11 (by omega) (Nat.le_of_ble_eq_true rfl) (fun Ws kk hw => ki_X2 (by decide) hw) (fun fs' cs' hq => ?_)
  obtain ⟨b9, rfl, rfl⟩ := hq
  refine kg_putF 0 hk cwX5 DM_X5_init_12 (by decide) gX5_12 rfl rfl rfl rfl (Nat.le_of_ble_eq_true rfl) ?_
  exact kg_ret DM_X5_init_15 ⟨fun j => match j with | 0 => a5 | j + 1 => b9 j, rfl, rfl⟩
