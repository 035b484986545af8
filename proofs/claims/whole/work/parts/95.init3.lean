/-! The constructor of AlphaCourt. -/
set_option maxHeartbeats 20000000 in
set_option maxRecDepth 40000 in
theorem ki_X7 {F : Fe} {d : Nat} {Ws : va_W} {kk a : Nat} (hd : 3 ≤ d) (hw : Ws[kk]? = some (a, .inr (7, zX7))) : Kg F d M_X7_init Ws kk a 7 82 1085 0 [(0, .ref a)] [] zX7 [] (fun fs cs => ∃ b : Nat → Nat, fs = fX7 b ∧ cs = kX7 F.2.2 b) := by
  have hk := (List.getElem?_eq_some_iff.mp hw).1
  refine kg_aload 0 DM_X7_init_0 rfl ?_
  refine kg_obj DM_X7_init_1 oRX7 obj_in obj_co (by omega) ?_
  refine kg_aload 0 DM_X7_init_4 rfl ?_
  refine kg_bipush (v := 8) DM_X7_init_5 (by decide) ?_
  refine kg_newQ (nc := 81) (ns := 1077) (N := 8) (t := 2) (B := RX6) DM_X7_init_7 clX7_9 (fun U h => ⟨h.2.1, rfl⟩) (by decide) (by decide) (by decide) (fun a7 => ?_)
  refine kg_putF 0 hk cwX7 DM_X7_init_10 (by decide) gX7_11 rfl rfl rfl rfl (Nat.le_of_ble_eq_true rfl) ?_
  refine kg_fs (fs' := [.ref a7, .null, .null, .null, .null, .null, .null, .null, .null, .int 0, .int 0]) rfl ?_
  refine kg_aload 0 DM_X7_init_13 rfl ?_
  refine kg_new (nc := 80) (ns := 1069) DM_X7_init_14 clX7_15 cwX4 zX4_ok (fun a14 => ?_)
  refine kg_dup DM_X7_init_17 rfl ?_
  refine kg_call (nc := 79) (ns := 949) (nc' := 1) (ns' := 120) (d' := 1) "AlphaCourt" kiM_X4 DM_X7_init_18 nlX7_17 (by omega) (Nat.le_of_ble_eq_true rfl) (fun Ws kk hw => ki_X4 (by decide) hw) (fun fs' cs' hq => ?_)
  obtain ⟨b18, rfl, rfl⟩ := hq
  refine kg_putF 1 hk cwX7 DM_X7_init_21 (by decide) gX7_18 rfl rfl rfl rfl (Nat.le_of_ble_eq_true rfl) ?_
  refine kg_fs (fs' := [.ref a7, .ref a14, .null, .null, .null, .null, .null, .null, .null, .int 0, .int 0]) rfl ?_
  refine kg_aload 0 DM_X7_init_24 rfl ?_
  refine kg_new (nc := 78) (ns := 933) DM_X7_init_25 clX7_22 cwX2 zX2_ok (fun a25 => ?_)
  refine kg_dup DM_X7_init_28 rfl ?_
  refine kg_call (nc := 69) (ns := 857) (nc' := 9) (ns' := 76) (d' := 1) "AlphaCourt" kiM_X2 DM_X7_init_29 nlX7_24 (by omega) (Nat.le_of_ble_eq_true rfl) (fun Ws kk hw => ki_X2 (by decide) hw) (fun fs' cs' hq => ?_)
  obtain ⟨b29, rfl, rfl⟩ := hq
  refine kg_putF 2 hk cwX7 DM_X7_init_32 (by decide) gX7_25 rfl rfl rfl rfl (Nat.le_of_ble_eq_true rfl) ?_
  refine kg_fs (fs' := [.ref a7, .ref a14, .ref a25, .null, .null, .null, .null, .null, .null, .int 0, .int 0]) rfl ?_
  refine kg_aload 0 DM_X7_init_35 rfl ?_
  refine kg_new (nc := 68) (ns := 841) DM_X7_init_36 clX7_22 cwX2 zX2_ok (fun a36 => ?_)
  refine kg_dup DM_X7_init_39 rfl ?_
  refine kg_call (nc := 59) (ns := 765) (nc' := 9) (ns' := 76) (d' := 1) "AlphaCourt" kiM_X2 DM_X7_init_40 nlX7_24 (by omega) (Nat.le_of_ble_eq_true rfl) (fun Ws kk hw => ki_X2 (by decide) hw) (fun fs' cs' hq => ?_)
  obtain ⟨b40, rfl, rfl⟩ := hq
  refine kg_putF 3 hk cwX7 DM_X7_init_43 (by decide) gX7_29 rfl rfl rfl rfl (Nat.le_of_ble_eq_true rfl) ?_
  refine kg_fs (fs' := [.ref a7, .ref a14, .ref a25, .ref a36, .null, .null, .null, .null, .null, .int 0, .int 0]) rfl ?_
  refine kg_aload 0 DM_X7_init_46 rfl ?_
  refine kg_iconst (v := 2) DM_X7_init_47 (by decide) ?_
  refine kg_newQ (nc := 58) (ns := 763) (N := 2) (t := 3) (B := RX2) DM_X7_init_48 clX7_22 (fun U h => ⟨h.2.2.1, rfl⟩) (by decide) (by decide) (by decide) (fun a48 => ?_)
  refine kg_putF 4 hk cwX7 DM_X7_init_51 (by decide) gX7_32 rfl rfl rfl rfl (Nat.le_of_ble_eq_true rfl) ?_
  refine kg_fs (fs' := [.ref a7, .ref a14, .ref a25, .ref a36, .ref a48, .null, .null, .null, .null, .int 0, .int 0]) rfl ?_
  refine kg_aload 0 DM_X7_init_54 rfl ?_
  refine kg_new (nc := 57) (ns := 757) DM_X7_init_55 clX7_36 cwX0 zX0_ok (fun a55 => ?_)
  refine kg_dup DM_X7_init_58 rfl ?_
  refine kg_call (nc := 53) (ns := 661) (nc' := 4) (ns' := 96) (d' := 1) "AlphaCourt" kiM_X0 DM_X7_init_59 nlX7_38 (by omega) (Nat.le_of_ble_eq_true rfl) (fun Ws kk hw => ki_X0 (by decide) hw) (fun fs' cs' hq => ?_)
  obtain ⟨b59, rfl, rfl⟩ := hq
  refine kg_putF 5 hk cwX7 DM_X7_init_62 (by decide) gX7_39 rfl rfl rfl rfl (Nat.le_of_ble_eq_true rfl) ?_
  refine kg_fs (fs' := [.ref a7, .ref a14, .ref a25, .ref a36, .ref a48, .ref a55, .null, .null, .null, .int 0, .int 0]) rfl ?_
  refine kg_aload 0 DM_X7_init_65 rfl ?_
  refine kg_new (nc := 52) (ns := 660) DM_X7_init_66 clX7_43 cwX5 zX5_ok (fun a66 => ?_)
  refine kg_dup DM_X7_init_69 rfl ?_
  refine kg_call (nc := 42) (ns := 568) (nc' := 10) (ns' := 92) (d' := 2) "AlphaCourt" kiM_X5 DM_X7_init_70 nlX7_45 (by omega) (Nat.le_of_ble_eq_true rfl) (fun Ws kk hw => ki_X5 (by decide) hw) (fun fs' cs' hq => ?_)
  obtain ⟨b70, rfl, rfl⟩ := hq
  refine kg_putF 6 hk cwX7 DM_X7_init_73 (by decide) gX7_46 rfl rfl rfl rfl (Nat.le_of_ble_eq_true rfl) ?_
  refine kg_fs (fs' := [.ref a7, .ref a14, .ref a25, .ref a36, .ref a48, .ref a55, .ref a66, .null, .null, .int 0, .int 0]) rfl ?_
  refine kg_aload 0 DM_X7_init_76 rfl ?_
  refine kg_new (nc := 41) (ns := 562) DM_X7_init_77 clX7_50 cwX3 zX3_ok (fun a77 => ?_)
  refine kg_dup DM_X7_init_80 rfl ?_
  refine kg_call (nc := 38) (ns := 546) (nc' := 3) (ns' := 16) (d' := 1) "AlphaCourt" kiM_X3 DM_X7_init_81 nlX7_52 (by omega) (Nat.le_of_ble_eq_true rfl) (fun Ws kk hw => ki_X3 (by decide) hw) (fun fs' cs' hq => ?_)
  obtain ⟨b81, rfl, rfl⟩ := hq
  refine kg_putF 7 hk cwX7 DM_X7_init_84 (by decide) gX7_53 rfl rfl rfl rfl (Nat.le_of_ble_eq_true rfl) ?_
  refine kg_fs (fs' := [.ref a7, .ref a14, .ref a25, .ref a36, .ref a48, .ref a55, .ref a66, .ref a77, .null, .int 0, .int 0]) rfl ?_
  refine kg_aload 0 DM_X7_init_87 rfl ?_
  refine kg_new (nc := 37) (ns := 544) DM_X7_init_88 clX7_57 cwX1 zX1_ok (fun a88 => ?_)
  refine kg_dup DM_X7_init_91 rfl ?_
  refine kg_call (nc := 36) (ns := 528) (nc' := 1) (ns' := 16) (d' := 1) "AlphaCourt" kiM_X1 DM_X7_init_92 nlX7_59 (by omega) (Nat.le_of_ble_eq_true rfl) (fun Ws kk hw => ki_X1 (by decide) hw) (fun fs' cs' hq => ?_)
  obtain ⟨b92, rfl, rfl⟩ := hq
  refine kg_putF 8 hk cwX7 DM_X7_init_95 (by decide) gX7_60 rfl rfl rfl rfl (Nat.le_of_ble_eq_true rfl) ?_
  refine kg_fs (fs' := [.ref a7, .ref a14, .ref a25, .ref a36, .ref a48, .ref a55, .ref a66, .ref a77, .ref a88, .int 0, .int 0]) rfl ?_
  refine kg_iconst (v := 0) DM_X7_init_98 (by decide) ?_
  refine kg_istore (vs' := [(1, .int 0), (0, .ref a)]) DM_X7_init_99 (by decide) rfl ?_
  refine row_step (nc := 34) (ns := 485) (i := 0) (i' := 1) hd hk rfl (by decide) (show ¬ ((0 : Int32) < 0 ∨ 8 ≤ (0 : Int32).toNatClampNeg) by decide) (by decide) (fun r0 s0 => ?_)
  refine row_step (nc := 32) (ns := 442) (i := 1) (i' := 2) hd hk rfl (by decide) (show ¬ ((1 : Int32) < 0 ∨ 8 ≤ (1 : Int32).toNatClampNeg) by decide) (by decide) (fun r1 s1 => ?_)
  refine row_step (nc := 30) (ns := 399) (i := 2) (i' := 3) hd hk rfl (by decide) (show ¬ ((2 : Int32) < 0 ∨ 8 ≤ (2 : Int32).toNatClampNeg) by decide) (by decide) (fun r2 s2 => ?_)
  refine row_step (nc := 28) (ns := 356) (i := 3) (i' := 4) hd hk rfl (by decide) (show ¬ ((3 : Int32) < 0 ∨ 8 ≤ (3 : Int32).toNatClampNeg) by decide) (by decide) (fun r3 s3 => ?_)
  refine row_step (nc := 26) (ns := 313) (i := 4) (i' := 5) hd hk rfl (by decide) (show ¬ ((4 : Int32) < 0 ∨ 8 ≤ (4 : Int32).toNatClampNeg) by decide) (by decide) (fun r4 s4 => ?_)
  refine row_step (nc := 24) (ns := 270) (i := 5) (i' := 6) hd hk rfl (by decide) (show ¬ ((5 : Int32) < 0 ∨ 8 ≤ (5 : Int32).toNatClampNeg) by decide) (by decide) (fun r5 s5 => ?_)
  refine row_step (nc := 22) (ns := 227) (i := 6) (i' := 7) hd hk rfl (by decide) (show ¬ ((6 : Int32) < 0 ∨ 8 ≤ (6 : Int32).toNatClampNeg) by decide) (by decide) (fun r6 s6 => ?_)
  refine row_step (nc := 20) (ns := 184) (i := 7) (i' := 8) hd hk rfl (by decide) (show ¬ ((7 : Int32) < 0 ∨ 8 ≤ (7 : Int32).toNatClampNeg) by decide) (by decide) (fun r7 s7 => ?_)
  refine kg_iload 0 DM_X7_init_100 rfl ?_
  refine kg_bipush (v := 8) DM_X7_init_101 (by decide) ?_
  refine kg_ge 125 DM_X7_init_103 (by decide) (fun _ => ?_) (fun z => absurd (by decide) z)
  refine kg_iconst (v := 0) DM_X7_init_125 (by decide) ?_
  refine kg_istore (vs' := [(1, .int 0), (0, .ref a)]) DM_X7_init_126 (by decide) rfl ?_
  refine img_step (nc := 10) (ns := 92) (i := 0) (i' := 1) hd hk rfl rfl (by decide) (show ¬ ((0 : Int32) < 0 ∨ 2 ≤ (0 : Int32).toNatClampNeg) by decide) (by decide) (fun c0 d0 => ?_)
  refine img_step (nc := 0) (ns := 0) (i := 1) (i' := 2) hd hk rfl rfl (by decide) (show ¬ ((1 : Int32) < 0 ∨ 2 ≤ (1 : Int32).toNatClampNeg) by decide) (by decide) (fun c1 d1 => ?_)
  refine kg_iload 0 DM_X7_init_127 rfl ?_
  refine kg_iconst (v := 2) DM_X7_init_128 (by decide) ?_
  refine kg_ge 151 DM_X7_init_129 (by decide) (fun _ => ?_) (fun z => absurd (by decide) z)
  exact kg_ret DM_X7_init_151 ⟨fun j => [a7, a14, b18 0, a25, b29 0, b29 1, b29 2, b29 3, b29 4, b29 5, b29 6, b29 7, b29 8, a36, b40 0, b40 1, b40 2, b40 3, b40 4, b40 5, b40 6, b40 7, b40 8, a48, a55, b59 0, b59 1, b59 2, b59 3, a66, b70 0, b70 1, b70 2, b70 3, b70 4, b70 5, b70 6, b70 7, b70 8, b70 9, a77, b81 0, b81 1, b81 2, a88, b92 0, r0, s0, r1, s1, r2, s2, r3, s3, r4, s4, r5, s5, r6, s6, r7, s7, c0, d0 0, d0 1, d0 2, d0 3, d0 4, d0 5, d0 6, d0 7, d0 8, c1, d1 0, d1 1, d1 2, d1 3, d1 4, d1 5, d1 6, d1 7, d1 8].getD j 0, rfl, rfl⟩
