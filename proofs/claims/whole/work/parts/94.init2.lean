/-! The constructors of AlphaCourt and of the reference. -/
theorem oRX7 : Cond.methodLink RX7 1 objectInit ∈ TB := tb1 (List.mem_of_getElem? (i := 17) (by decide +kernel)) rfl
theorem clX7_9 : Cond.classLink RX7 9 RX6 ∈ TB := tb1 (List.mem_of_getElem? (i := 20) (by decide +kernel)) rfl
theorem gX7_11 : Cond.fieldLink RX7 11 (TX7 0).1 (TX7 0).2.1 (TX7 0).2.2.1 ∈ TB := tb2 (List.mem_of_getElem? (i := 5) (by decide +kernel)) rfl
theorem clX7_15 : Cond.classLink RX7 15 RX4 ∈ TB := tb1 (List.mem_of_getElem? (i := 22) (by decide +kernel)) rfl
theorem nlX7_17 : Cond.methodLinkNest RX7 17 (mN M_X4_init) "AlphaCourt" ∈ lw_tbl := List.mem_append_right _ (List.mem_append_left _ (List.mem_of_getElem? (i := 24) (by decide +kernel)))
theorem gX7_18 : Cond.fieldLink RX7 18 (TX7 1).1 (TX7 1).2.1 (TX7 1).2.2.1 ∈ TB := tb2 (List.mem_of_getElem? (i := 6) (by decide +kernel)) rfl
theorem clX7_22 : Cond.classLink RX7 22 RX2 ∈ TB := tb1 (List.mem_of_getElem? (i := 57) (by decide +kernel)) rfl
theorem nlX7_24 : Cond.methodLinkNest RX7 24 (mN M_X2_init) "AlphaCourt" ∈ lw_tbl := List.mem_append_right _ (List.mem_append_left _ (List.mem_of_getElem? (i := 59) (by decide +kernel)))
theorem gX7_25 : Cond.fieldLink RX7 25 (TX7 2).1 (TX7 2).2.1 (TX7 2).2.2.1 ∈ TB := tb2 (List.mem_of_getElem? (i := 7) (by decide +kernel)) rfl
theorem gX7_29 : Cond.fieldLink RX7 29 (TX7 3).1 (TX7 3).2.1 (TX7 3).2.2.1 ∈ TB := tb2 (List.mem_of_getElem? (i := 8) (by decide +kernel)) rfl
theorem gX7_32 : Cond.fieldLink RX7 32 (TX7 4).1 (TX7 4).2.1 (TX7 4).2.2.1 ∈ TB := tb2 (List.mem_of_getElem? (i := 9) (by decide +kernel)) rfl
theorem clX7_36 : Cond.classLink RX7 36 RX0 ∈ TB := tb1 (List.mem_of_getElem? (i := 145) (by decide +kernel)) rfl
theorem nlX7_38 : Cond.methodLinkNest RX7 38 (mN M_X0_init) "AlphaCourt" ∈ lw_tbl := List.mem_append_right _ (List.mem_append_left _ (List.mem_of_getElem? (i := 147) (by decide +kernel)))
theorem gX7_39 : Cond.fieldLink RX7 39 (TX7 5).1 (TX7 5).2.1 (TX7 5).2.2.1 ∈ TB := tb2 (List.mem_of_getElem? (i := 10) (by decide +kernel)) rfl
theorem clX7_43 : Cond.classLink RX7 43 RX5 ∈ TB := tb1 (List.mem_of_getElem? (i := 171) (by decide +kernel)) rfl
theorem nlX7_45 : Cond.methodLinkNest RX7 45 (mN M_X5_init) "AlphaCourt" ∈ lw_tbl := List.mem_append_right _ (List.mem_append_left _ (List.mem_of_getElem? (i := 173) (by decide +kernel)))
theorem gX7_46 : Cond.fieldLink RX7 46 (TX7 6).1 (TX7 6).2.1 (TX7 6).2.2.1 ∈ TB := tb2 (List.mem_of_getElem? (i := 11) (by decide +kernel)) rfl
theorem clX7_50 : Cond.classLink RX7 50 RX3 ∈ TB := tb1 (List.mem_of_getElem? (i := 184) (by decide +kernel)) rfl
theorem nlX7_52 : Cond.methodLinkNest RX7 52 (mN M_X3_init) "AlphaCourt" ∈ lw_tbl := List.mem_append_right _ (List.mem_append_left _ (List.mem_of_getElem? (i := 186) (by decide +kernel)))
theorem gX7_53 : Cond.fieldLink RX7 53 (TX7 7).1 (TX7 7).2.1 (TX7 7).2.2.1 ∈ TB := tb2 (List.mem_of_getElem? (i := 12) (by decide +kernel)) rfl
theorem clX7_57 : Cond.classLink RX7 57 RX1 ∈ TB := tb1 (List.mem_of_getElem? (i := 212) (by decide +kernel)) rfl
theorem nlX7_59 : Cond.methodLinkNest RX7 59 (mN M_X1_init) "AlphaCourt" ∈ lw_tbl := List.mem_append_right _ (List.mem_append_left _ (List.mem_of_getElem? (i := 214) (by decide +kernel)))
theorem gX7_60 : Cond.fieldLink RX7 60 (TX7 8).1 (TX7 8).2.1 (TX7 8).2.2.1 ∈ TB := tb2 (List.mem_of_getElem? (i := 13) (by decide +kernel)) rfl
theorem oRX8 : Cond.methodLink RX8 1 objectInit ∈ TB := tb4 (List.mem_of_getElem? (i := 2) (by decide +kernel)) rfl
theorem gX8_7 : Cond.fieldLink RX8 7 (TX8 0).1 (TX8 0).2.1 (TX8 0).2.2.1 ∈ TB := tb4 (List.mem_of_getElem? (i := 4) (by decide +kernel)) rfl
theorem gX8_13 : Cond.fieldLink RX8 13 (TX8 1).1 (TX8 1).2.1 (TX8 1).2.2.1 ∈ TB := tb4 (List.mem_of_getElem? (i := 5) (by decide +kernel)) rfl
theorem gX8_16 : Cond.fieldLink RX8 16 (TX8 2).1 (TX8 2).2.1 (TX8 2).2.2.1 ∈ TB := tb4 (List.mem_of_getElem? (i := 6) (by decide +kernel)) rfl
theorem gX8_19 : Cond.fieldLink RX8 19 (TX8 3).1 (TX8 3).2.1 (TX8 3).2.2.1 ∈ TB := tb4 (List.mem_of_getElem? (i := 7) (by decide +kernel)) rfl
theorem gX8_22 : Cond.fieldLink RX8 22 (TX8 5).1 (TX8 5).2.1 (TX8 5).2.2.1 ∈ TB := tb4 (List.mem_of_getElem? (i := 9) (by decide +kernel)) rfl
theorem gX8_25 : Cond.fieldLink RX8 25 (TX8 13).1 (TX8 13).2.1 (TX8 13).2.2.1 ∈ TB := tb4 (List.mem_of_getElem? (i := 17) (by decide +kernel)) rfl
theorem gX8_28 : Cond.fieldLink RX8 28 (TX8 14).1 (TX8 14).2.1 (TX8 14).2.2.1 ∈ TB := tb4 (List.mem_of_getElem? (i := 18) (by decide +kernel)) rfl
theorem gX8_31 : Cond.fieldLink RX8 31 (TX8 15).1 (TX8 15).2.1 (TX8 15).2.2.1 ∈ TB := tb4 (List.mem_of_getElem? (i := 19) (by decide +kernel)) rfl
theorem gX8_34 : Cond.fieldLink RX8 34 (TX8 16).1 (TX8 16).2.1 (TX8 16).2.2.1 ∈ TB := tb4 (List.mem_of_getElem? (i := 20) (by decide +kernel)) rfl
theorem gX8_37 : Cond.fieldLink RX8 37 (TX8 18).1 (TX8 18).2.1 (TX8 18).2.2.1 ∈ TB := tb4 (List.mem_of_getElem? (i := 22) (by decide +kernel)) rfl
theorem gX8_40 : Cond.fieldLink RX8 40 (TX8 19).1 (TX8 19).2.1 (TX8 19).2.2.1 ∈ TB := tb4 (List.mem_of_getElem? (i := 23) (by decide +kernel)) rfl
theorem gX8_44 : Cond.fieldLink RX8 44 (TX8 20).1 (TX8 20).2.1 (TX8 20).2.2.1 ∈ TB := tb4 (List.mem_of_getElem? (i := 24) (by decide +kernel)) rfl
theorem gX8_47 : Cond.fieldLink RX8 47 (TX8 22).1 (TX8 22).2.1 (TX8 22).2.2.1 ∈ TB := tb4 (List.mem_of_getElem? (i := 26) (by decide +kernel)) rfl
theorem gX8_50 : Cond.fieldLink RX8 50 (TX8 24).1 (TX8 24).2.1 (TX8 24).2.2.1 ∈ TB := tb4 (List.mem_of_getElem? (i := 28) (by decide +kernel)) rfl
theorem gX8_53 : Cond.fieldLink RX8 53 (TX8 25).1 (TX8 25).2.1 (TX8 25).2.2.1 ∈ TB := tb4 (List.mem_of_getElem? (i := 29) (by decide +kernel)) rfl
theorem gX8_56 : Cond.fieldLink RX8 56 (TX8 26).1 (TX8 26).2.1 (TX8 26).2.2.1 ∈ TB := tb4 (List.mem_of_getElem? (i := 30) (by decide +kernel)) rfl
theorem nlX7_64 : Cond.methodLinkNest RX7 64 (mN M_X6_init) "AlphaCourt" ∈ lw_tbl := List.mem_append_right _ (List.mem_append_left _ (List.mem_of_getElem? (i := 228) (by decide +kernel)))
theorem nX8_59 : Cond.constant RX8 59 (-1000000) ∈ TB := tb4 (List.mem_of_getElem? (i := 3) (by decide +kernel)) rfl
def rowsF (b : Nat → Nat) : Nat → Option Nat := va_up (va_up (va_up (va_up (va_up (va_up (va_up (va_up (fun _ => none) (0 : Int32).toNatClampNeg (some (b 46))) (1 : Int32).toNatClampNeg (some (b 48))) (2 : Int32).toNatClampNeg (some (b 50))) (3 : Int32).toNatClampNeg (some (b 52))) (4 : Int32).toNatClampNeg (some (b 54))) (5 : Int32).toNatClampNeg (some (b 56))) (6 : Int32).toNatClampNeg (some (b 58))) (7 : Int32).toNatClampNeg (some (b 60))
def imgsF (b : Nat → Nat) : Nat → Option Nat := va_up (va_up (fun _ => none) (0 : Int32).toNatClampNeg (some (b 62))) (1 : Int32).toNatClampNeg (some (b 72))
def laneF : Nat → Int32 := upd (upd (upd (upd (upd (upd (upd (upd (fun _ => 0) (0 : Int32).toNatClampNeg (-1000000)) (1 : Int32).toNatClampNeg (-1000000)) (2 : Int32).toNatClampNeg (-1000000)) (3 : Int32).toNatClampNeg (-1000000)) (4 : Int32).toNatClampNeg (-1000000)) (5 : Int32).toNatClampNeg (-1000000)) (6 : Int32).toNatClampNeg (-1000000)) (7 : Int32).toNatClampNeg (-1000000)
abbrev fX7 (b : Nat → Nat) : List Value := [.ref (b 0), .ref (b 1), .ref (b 3), .ref (b 13), .ref (b 23), .ref (b 24), .ref (b 29), .ref (b 40), .ref (b 44), .int 0, .int 0]
def kX7 (K : Nat → ClassId) (b : Nat → Nat) : va_W := ([(b 0, (.inl (K 2, 8, .inr (.inr (.inr (.inr (rowsF b)))))))]) ++ (((b 1, .inr (4, fX4 (fun j => b (j + 2)))) :: kX4 K (fun j => b (j + 2))) ++ (((b 3, .inr (2, fX2 (fun j => b (j + 4)))) :: kX2 K (fun j => b (j + 4))) ++ (((b 13, .inr (2, fX2 (fun j => b (j + 14)))) :: kX2 K (fun j => b (j + 14))) ++ (([(b 23, (.inl (K 3, 2, .inr (.inr (.inr (.inr (imgsF b)))))))]) ++ (((b 24, .inr (0, fX0 (fun j => b (j + 25)))) :: kX0 K (fun j => b (j + 25))) ++ (((b 29, .inr (5, fX5 (fun j => b (j + 30)))) :: kX5 K (fun j => b (j + 30))) ++ (((b 40, .inr (3, fX3 (fun j => b (j + 41)))) :: kX3 K (fun j => b (j + 41))) ++ (((b 44, .inr (1, fX1 (fun j => b (j + 45)))) :: kX1 K (fun j => b (j + 45))) ++ (((b 46, .inr (6, fX6 (fun j => b (j + 47)))) :: kX6 K (fun j => b (j + 47))) ++ (((b 48, .inr (6, fX6 (fun j => b (j + 49)))) :: kX6 K (fun j => b (j + 49))) ++ (((b 50, .inr (6, fX6 (fun j => b (j + 51)))) :: kX6 K (fun j => b (j + 51))) ++ (((b 52, .inr (6, fX6 (fun j => b (j + 53)))) :: kX6 K (fun j => b (j + 53))) ++ (((b 54, .inr (6, fX6 (fun j => b (j + 55)))) :: kX6 K (fun j => b (j + 55))) ++ (((b 56, .inr (6, fX6 (fun j => b (j + 57)))) :: kX6 K (fun j => b (j + 57))) ++ (((b 58, .inr (6, fX6 (fun j => b (j + 59)))) :: kX6 K (fun j => b (j + 59))) ++ (((b 60, .inr (6, fX6 (fun j => b (j + 61)))) :: kX6 K (fun j => b (j + 61))) ++ (((b 62, .inr (2, fX2 (fun j => b (j + 63)))) :: kX2 K (fun j => b (j + 63))) ++ (((b 72, .inr (2, fX2 (fun j => b (j + 73)))) :: kX2 K (fun j => b (j + 73)))))))))))))))))))))
abbrev fX8 (b : Nat → Nat) : List Value := [.ref (b 0), .ref (b 1), .ref (b 2), .ref (b 3), .int 0, .ref (b 4), .int 0, .int 0, .int 0, .int 0, .int 0, .int 0, .int 0, .ref (b 5), .ref (b 6), .ref (b 7), .ref (b 8), .int 0, .ref (b 9), .ref (b 10), .ref (b 11), .int 0, .ref (b 12), .int 0, .ref (b 13), .ref (b 14), .ref (b 15)]
def kX8 (K : Nat → ClassId) (b : Nat → Nat) : va_W := [(b 0, (.inl (K 0, 8, .inl (laneF)))), (b 1, (.inl (K 0, 8, .inl (fun _ => 0)))), (b 2, (.inl (K 0, 320, .inl (fun _ => 0)))), (b 3, (.inl (K 0, 40, .inl (fun _ => 0)))), (b 4, (.inl (K 0, 120, .inl (fun _ => 0)))), (b 5, (.inl (K 0, 91, .inl (fun _ => 0)))), (b 6, (.inl (K 0, 91, .inl (fun _ => 0)))), (b 7, (.inl (K 0, 91, .inl (fun _ => 0)))), (b 8, (.inl (K 0, 2184, .inl (fun _ => 0)))), (b 9, (.inl (K 0, 182, .inl (fun _ => 0)))), (b 10, (.inl (K 1, 2, .inl (fun _ => 0)))), (b 11, (.inl (K 0, 16, .inl (fun _ => 0)))), (b 12, (.inl (K 0, 6, .inl (fun _ => 0)))), (b 13, (.inl (K 0, 6, .inl (fun _ => 0)))), (b 14, (.inl (K 0, 6, .inl (fun _ => 0)))), (b 15, (.inl (K 0, 6, .inl (fun _ => 0))))]
theorem kg_fs {F : Fe} {d : Nat} {y : Mth} {ws : va_W} {k q ci nc ns pc : Nat} {vs : List (Nat × Value)} {st fs fs' : List Value} {cs : va_W} {Q : List Value → va_W → Prop} (e : fs = fs') (h : Kg F d y ws k q ci nc ns pc vs st fs' cs Q) : Kg F d y ws k q ci nc ns pc vs st fs cs Q := by rw [e]; exact h
section P94
variable {F : Fe} {d : Nat} {Ws : va_W} {kk a nc ns aR : Nat} {fs : List Value} {tl cs : va_W} {f : Nat → Option Nat} {i i' : Int32} {Q : List Value → va_W → Prop}
theorem row_step (hd : 3 ≤ d) (hk : kk < Ws.length) (hf : fs[0]? = some (.ref aR)) (hi : ¬ (8 : Int32) ≤ i) (hv : vp_in i 8) (hi' : i + Int32.ofInt 1 = i') (h : ∀ b b' : Nat, Kg F d M_X7_init Ws kk a 7 nc ns 100 [(1, .int i'), (0, .ref a)] [] fs ((aR, (.inl (F.2.2 2, 8, .inr (.inr (.inr (.inr (va_up f i.toNatClampNeg (some b)))))))) :: (tl ++ [(b, .inr (6, fX6 (fun _ => b'))), (b', .inl (F.2.2 0, 40, .inl (fun _ => 0)))])) Q) : Kg F d M_X7_init Ws kk a 7 (nc + 2) (ns + 43) 100 [(1, .int i), (0, .ref a)] [] fs ((aR, (.inl (F.2.2 2, 8, .inr (.inr (.inr (.inr (f))))))) :: tl) Q := by
  refine kg_iload 0 DM_X7_init_100 rfl ?_
  refine kg_bipush (v := 8) DM_X7_init_101 (by decide) ?_
  refine kg_ge 125 DM_X7_init_103 (by decide) (fun z => absurd z hi) (fun _ => ?_)
  refine kg_aload 1 DM_X7_init_106 rfl ?_
  refine kg_get 0 hk cwX7 DM_X7_init_107 (by decide) gX7_11 hf ?_
  refine kg_iload 0 DM_X7_init_110 rfl ?_
  refine kg_new (nc := nc + 1) (ns := ns + 40) DM_X7_init_111 clX7_9 cwX6 zX6_ok (fun b => ?_)
  refine kg_dup DM_X7_init_114 rfl ?_
  refine kg_call (nc := nc) (ns := ns) (nc' := 1) (ns' := 40) (d' := 1) "AlphaCourt" kiM_X6 DM_X7_init_115 nlX7_64 (by omega) (Nat.le_of_ble_eq_true rfl) (fun Ws kk hw => ki_X6 (by decide) hw) (fun fs' cs' hq => ?_)
  obtain ⟨b', rfl, rfl⟩ := hq
  refine kg_aast (r := (RX6, TX6, 3)) (cv' := 6) (vf := fX6 b') 0 (tl.length + 1) 2 rfl rfl rfl ?_ hv DM_X7_init_118 ?_
  · rw [List.cons_append, List.getElem?_cons_succ, List.getElem?_append_right (Nat.le_refl _), Nat.sub_self]; rfl
  refine kg_iinc 0 DM_X7_init_119 rfl hi' (by decide) rfl ?_
  refine kg_goto 100 DM_X7_init_122 (by decide) ?_
  exact h b (b' 0)
theorem img_step {aI : Nat} (hd : 3 ≤ d) (hk : kk < Ws.length) (hf : fs[4]? = some (.ref aI)) (hc : cs[23]? = some (aI, (.inl (F.2.2 3, 2, .inr (.inr (.inr (.inr (f)))))))) (hi : ¬ (2 : Int32) ≤ i) (hv : vp_in i 2) (hi' : i + Int32.ofInt 1 = i') (h : ∀ (b : Nat) (b' : Nat → Nat), Kg F d M_X7_init Ws kk a 7 nc ns 127 [(1, .int i'), (0, .ref a)] [] fs ((cs ++ (b, .inr (2, fX2 b')) :: kX2 F.2.2 b').set 23 (aI, (.inl (F.2.2 3, 2, .inr (.inr (.inr (.inr (va_up f i.toNatClampNeg (some b))))))))) Q) : Kg F d M_X7_init Ws kk a 7 (nc + 10) (ns + 92) 127 [(1, .int i), (0, .ref a)] [] fs cs Q := by
  refine kg_iload 0 DM_X7_init_127 rfl ?_
  refine kg_iconst (v := 2) DM_X7_init_128 (by decide) ?_
  refine kg_ge 151 DM_X7_init_129 (by decide) (fun z => absurd z hi) (fun _ => ?_)
  refine kg_aload 1 DM_X7_init_132 rfl ?_
  refine kg_get 4 hk cwX7 DM_X7_init_133 (by decide) gX7_32 hf ?_
  refine kg_iload 0 DM_X7_init_136 rfl ?_
  refine kg_new (nc := nc + 9) (ns := ns + 76) DM_X7_init_137 clX7_22 cwX2 zX2_ok (fun b => ?_)
  refine kg_dup DM_X7_init_140 rfl ?_
  refine kg_call (nc := nc) (ns := ns) (nc' := 9) (ns' := 76) (d' := 1) "AlphaCourt" kiM_X2 DM_X7_init_141 nlX7_24 (by omega) (Nat.le_of_ble_eq_true rfl) (fun Ws kk hw => ki_X2 (by decide) hw) (fun fs' cs' hq => ?_)
  obtain ⟨b', rfl, rfl⟩ := hq
  refine kg_aast (r := (RX2, TX2, 16)) (cv' := 2) (vf := fX2 b') (f := f) 23 cs.length 3 rfl rfl ?_ ?_ hv DM_X7_init_144 ?_
  · rw [List.getElem?_append_left (List.getElem?_eq_some_iff.mp hc).1]; exact hc
  · rw [List.getElem?_append_right (Nat.le_refl _), Nat.sub_self]; rfl
  refine kg_iinc 0 DM_X7_init_145 rfl hi' (by decide) rfl ?_
  refine kg_goto 127 DM_X7_init_148 (by decide) ?_
  exact h b b'
theorem lane_step {g : Nat → Int32} (hk : kk < Ws.length) (hf : fs[0]? = some (.ref aR)) (hi : ¬ (8 : Int32) ≤ i) (hv : vp_in i 8) (hi' : i + Int32.ofInt 1 = i') (h : Kg F d M_X8_init Ws kk a 8 nc ns 136 [(1, .int i'), (0, .ref a)] [] fs ((aR, .inl (F.2.2 0, 8, .inl (upd g i.toNatClampNeg (-1000000)))) :: tl) Q) : Kg F d M_X8_init Ws kk a 8 nc ns 136 [(1, .int i), (0, .ref a)] [] fs ((aR, .inl (F.2.2 0, 8, .inl g)) :: tl) Q := by
  refine kg_iload 0 DM_X8_init_136 rfl ?_
  refine kg_bipush (v := 8) DM_X8_init_137 (by decide) ?_
  refine kg_ge 156 DM_X8_init_139 (by decide) (fun z => absurd z hi) (fun _ => ?_)
  refine kg_aload 1 DM_X8_init_142 rfl ?_
  refine kg_get 0 hk cwX8 DM_X8_init_143 (by decide) gX8_7 hf ?_
  refine kg_iload 0 DM_X8_init_146 rfl ?_
  refine kg_ldc (v := -1000000) DM_X8_init_147 nX8_59 ?_
  refine kg_iast (n := 8) (f := g) 0 rfl hv DM_X8_init_149 ?_
  refine kg_iinc 0 DM_X8_init_150 rfl hi' (by decide) rfl ?_
  refine kg_goto 136 DM_X8_init_153 (by decide) ?_
  exact h
end P94
set_option maxHeartbeats 20000000 in
set_option maxRecDepth 40000 in
theorem ki_X8 {F : Fe} {d : Nat} {Ws : va_W} {kk a : Nat} (hd : 1 ≤ d) (hw : Ws[kk]? = some (a, .inr (8, zX8))) : Kg F d M_X8_init Ws kk a 8 16 3177 0 [(0, .ref a)] [] zX8 [] (fun fs cs => ∃ b : Nat → Nat, fs = fX8 b ∧ cs = kX8 F.2.2 b) := by
  have hk := (List.getElem?_eq_some_iff.mp hw).1
  refine kg_aload 0 DM_X8_init_0 rfl ?_
  refine kg_obj DM_X8_init_1 oRX8 obj_in obj_co (by omega) ?_
  refine kg_aload 0 DM_X8_init_4 rfl ?_
  refine kg_bipush (v := 8) DM_X8_init_5 (by decide) ?_
  refine kg_newI (nc := 15) (ns := 3169) (N := 8) DM_X8_init_7 ac_int (by decide) (by decide) (by decide) (fun a7 => ?_)
  refine kg_putF 0 hk cwX8 DM_X8_init_9 (by decide) gX8_7 rfl rfl rfl rfl (Nat.le_of_ble_eq_true rfl) ?_
  refine kg_fs (fs' := [.ref a7, .null, .null, .null, .int 0, .null, .int 0, .int 0, .int 0, .int 0, .int 0, .int 0, .int 0, .null, .null, .null, .null, .int 0, .null, .null, .null, .int 0, .null, .int 0, .null, .null, .null]) rfl ?_
  refine kg_aload 0 DM_X8_init_12 rfl ?_
  refine kg_bipush (v := 8) DM_X8_init_13 (by decide) ?_
  refine kg_newI (nc := 14) (ns := 3161) (N := 8) DM_X8_init_15 ac_int (by decide) (by decide) (by decide) (fun a15 => ?_)
  refine kg_putF 1 hk cwX8 DM_X8_init_17 (by decide) gX8_13 rfl rfl rfl rfl (Nat.le_of_ble_eq_true rfl) ?_
  refine kg_fs (fs' := [.ref a7, .ref a15, .null, .null, .int 0, .null, .int 0, .int 0, .int 0, .int 0, .int 0, .int 0, .int 0, .null, .null, .null, .null, .int 0, .null, .null, .null, .int 0, .null, .int 0, .null, .null, .null]) rfl ?_
  refine kg_aload 0 DM_X8_init_20 rfl ?_
  refine kg_sipush (v := 320) DM_X8_init_21 (by decide) ?_
  refine kg_newI (nc := 13) (ns := 2841) (N := 320) DM_X8_init_24 ac_int (by decide) (by decide) (by decide) (fun a24 => ?_)
  refine kg_putF 2 hk cwX8 DM_X8_init_26 (by decide) gX8_16 rfl rfl rfl rfl (Nat.le_of_ble_eq_true rfl) ?_
  refine kg_fs (fs' := [.ref a7, .ref a15, .ref a24, .null, .int 0, .null, .int 0, .int 0, .int 0, .int 0, .int 0, .int 0, .int 0, .null, .null, .null, .null, .int 0, .null, .null, .null, .int 0, .null, .int 0, .null, .null, .null]) rfl ?_
  refine kg_aload 0 DM_X8_init_29 rfl ?_
  refine kg_bipush (v := 40) DM_X8_init_30 (by decide) ?_
  refine kg_newI (nc := 12) (ns := 2801) (N := 40) DM_X8_init_32 ac_int (by decide) (by decide) (by decide) (fun a32 => ?_)
  refine kg_putF 3 hk cwX8 DM_X8_init_34 (by decide) gX8_19 rfl rfl rfl rfl (Nat.le_of_ble_eq_true rfl) ?_
  refine kg_fs (fs' := [.ref a7, .ref a15, .ref a24, .ref a32, .int 0, .null, .int 0, .int 0, .int 0, .int 0, .int 0, .int 0, .int 0, .null, .null, .null, .null, .int 0, .null, .null, .null, .int 0, .null, .int 0, .null, .null, .null]) rfl ?_
  refine kg_aload 0 DM_X8_init_37 rfl ?_
  refine kg_bipush (v := 120) DM_X8_init_38 (by decide) ?_
  refine kg_newI (nc := 11) (ns := 2681) (N := 120) DM_X8_init_40 ac_int (by decide) (by decide) (by decide) (fun a40 => ?_)
  refine kg_putF 5 hk cwX8 DM_X8_init_42 (by decide) gX8_22 rfl rfl rfl rfl (Nat.le_of_ble_eq_true rfl) ?_
  refine kg_fs (fs' := [.ref a7, .ref a15, .ref a24, .ref a32, .int 0, .ref a40, .int 0, .int 0, .int 0, .int 0, .int 0, .int 0, .int 0, .null, .null, .null, .null, .int 0, .null, .null, .null, .int 0, .null, .int 0, .null, .null, .null]) rfl ?_
  refine kg_aload 0 DM_X8_init_45 rfl ?_
  refine kg_bipush (v := 91) DM_X8_init_46 (by decide) ?_
  refine kg_newI (nc := 10) (ns := 2590) (N := 91) DM_X8_init_48 ac_int (by decide) (by decide) (by decide) (fun a48 => ?_)
  refine kg_putF 13 hk cwX8 DM_X8_init_50 (by decide) gX8_25 rfl rfl rfl rfl (Nat.le_of_ble_eq_true rfl) ?_
  refine kg_fs (fs' := [.ref a7, .ref a15, .ref a24, .ref a32, .int 0, .ref a40, .int 0, .int 0, .int 0, .int 0, .int 0, .int 0, .int 0, .ref a48, .null, .null, .null, .int 0, .null, .null, .null, .int 0, .null, .int 0, .null, .null, .null]) rfl ?_
  refine kg_aload 0 DM_X8_init_53 rfl ?_
  refine kg_bipush (v := 91) DM_X8_init_54 (by decide) ?_
  refine kg_newI (nc := 9) (ns := 2499) (N := 91) DM_X8_init_56 ac_int (by decide) (by decide) (by decide) (fun a56 => ?_)
  refine kg_putF 14 hk cwX8 DM_X8_init_58 (by decide) gX8_28 rfl rfl rfl rfl (Nat.le_of_ble_eq_true rfl) ?_
  refine kg_fs (fs' := [.ref a7, .ref a15, .ref a24, .ref a32, .int 0, .ref a40, .int 0, .int 0, .int 0, .int 0, .int 0, .int 0, .int 0, .ref a48, .ref a56, .null, .null, .int 0, .null, .null, .null, .int 0, .null, .int 0, .null, .null, .null]) rfl ?_
  refine kg_aload 0 DM_X8_init_61 rfl ?_
  refine kg_bipush (v := 91) DM_X8_init_62 (by decide) ?_
  refine kg_newI (nc := 8) (ns := 2408) (N := 91) DM_X8_init_64 ac_int (by decide) (by decide) (by decide) (fun a64 => ?_)
  refine kg_putF 15 hk cwX8 DM_X8_init_66 (by decide) gX8_31 rfl rfl rfl rfl (Nat.le_of_ble_eq_true rfl) ?_
  refine kg_fs (fs' := [.ref a7, .ref a15, .ref a24, .ref a32, .int 0, .ref a40, .int 0, .int 0, .int 0, .int 0, .int 0, .int 0, .int 0, .ref a48, .ref a56, .ref a64, .null, .int 0, .null, .null, .null, .int 0, .null, .int 0, .null, .null, .null]) rfl ?_
  refine kg_aload 0 DM_X8_init_69 rfl ?_
  refine kg_sipush (v := 2184) DM_X8_init_70 (by decide) ?_
  refine kg_newI (nc := 7) (ns := 224) (N := 2184) DM_X8_init_73 ac_int (by decide) (by decide) (by decide) (fun a73 => ?_)
  refine kg_putF 16 hk cwX8 DM_X8_init_75 (by decide) gX8_34 rfl rfl rfl rfl (Nat.le_of_ble_eq_true rfl) ?_
  refine kg_fs (fs' := [.ref a7, .ref a15, .ref a24, .ref a32, .int 0, .ref a40, .int 0, .int 0, .int 0, .int 0, .int 0, .int 0, .int 0, .ref a48, .ref a56, .ref a64, .ref a73, .int 0, .null, .null, .null, .int 0, .null, .int 0, .null, .null, .null]) rfl ?_
  refine kg_aload 0 DM_X8_init_78 rfl ?_
  refine kg_sipush (v := 182) DM_X8_init_79 (by decide) ?_
  refine kg_newI (nc := 6) (ns := 42) (N := 182) DM_X8_init_82 ac_int (by decide) (by decide) (by decide) (fun a82 => ?_)
  refine kg_putF 18 hk cwX8 DM_X8_init_84 (by decide) gX8_37 rfl rfl rfl rfl (Nat.le_of_ble_eq_true rfl) ?_
  refine kg_fs (fs' := [.ref a7, .ref a15, .ref a24, .ref a32, .int 0, .ref a40, .int 0, .int 0, .int 0, .int 0, .int 0, .int 0, .int 0, .ref a48, .ref a56, .ref a64, .ref a73, .int 0, .ref a82, .null, .null, .int 0, .null, .int 0, .null, .null, .null]) rfl ?_
  refine kg_aload 0 DM_X8_init_87 rfl ?_
  refine kg_iconst (v := 2) DM_X8_init_88 (by decide) ?_
  refine kg_newZ (nc := 5) (ns := 40) (N := 2) DM_X8_init_89 ac_bool (by decide) (by decide) (by decide) (fun a89 => ?_)
  refine kg_putF 19 hk cwX8 DM_X8_init_91 (by decide) gX8_40 rfl rfl rfl rfl (Nat.le_of_ble_eq_true rfl) ?_
  refine kg_fs (fs' := [.ref a7, .ref a15, .ref a24, .ref a32, .int 0, .ref a40, .int 0, .int 0, .int 0, .int 0, .int 0, .int 0, .int 0, .ref a48, .ref a56, .ref a64, .ref a73, .int 0, .ref a82, .ref a89, .null, .int 0, .null, .int 0, .null, .null, .null]) rfl ?_
  refine kg_aload 0 DM_X8_init_94 rfl ?_
  refine kg_bipush (v := 16) DM_X8_init_95 (by decide) ?_
  refine kg_newI (nc := 4) (ns := 24) (N := 16) DM_X8_init_97 ac_int (by decide) (by decide) (by decide) (fun a97 => ?_)
  refine kg_putF 20 hk cwX8 DM_X8_init_99 (by decide) gX8_44 rfl rfl rfl rfl (Nat.le_of_ble_eq_true rfl) ?_
  refine kg_fs (fs' := [.ref a7, .ref a15, .ref a24, .ref a32, .int 0, .ref a40, .int 0, .int 0, .int 0, .int 0, .int 0, .int 0, .int 0, .ref a48, .ref a56, .ref a64, .ref a73, .int 0, .ref a82, .ref a89, .ref a97, .int 0, .null, .int 0, .null, .null, .null]) rfl ?_
  refine kg_aload 0 DM_X8_init_102 rfl ?_
  refine kg_bipush (v := 6) DM_X8_init_103 (by decide) ?_
  refine kg_newI (nc := 3) (ns := 18) (N := 6) DM_X8_init_105 ac_int (by decide) (by decide) (by decide) (fun a105 => ?_)
  refine kg_putF 22 hk cwX8 DM_X8_init_107 (by decide) gX8_47 rfl rfl rfl rfl (Nat.le_of_ble_eq_true rfl) ?_
  refine kg_fs (fs' := [.ref a7, .ref a15, .ref a24, .ref a32, .int 0, .ref a40, .int 0, .int 0, .int 0, .int 0, .int 0, .int 0, .int 0, .ref a48, .ref a56, .ref a64, .ref a73, .int 0, .ref a82, .ref a89, .ref a97, .int 0, .ref a105, .int 0, .null, .null, .null]) rfl ?_
  refine kg_aload 0 DM_X8_init_110 rfl ?_
  refine kg_bipush (v := 6) DM_X8_init_111 (by decide) ?_
  refine kg_newI (nc := 2) (ns := 12) (N := 6) DM_X8_init_113 ac_int (by decide) (by decide) (by decide) (fun a113 => ?_)
  refine kg_putF 24 hk cwX8 DM_X8_init_115 (by decide) gX8_50 rfl rfl rfl rfl (Nat.le_of_ble_eq_true rfl) ?_
  refine kg_fs (fs' := [.ref a7, .ref a15, .ref a24, .ref a32, .int 0, .ref a40, .int 0, .int 0, .int 0, .int 0, .int 0, .int 0, .int 0, .ref a48, .ref a56, .ref a64, .ref a73, .int 0, .ref a82, .ref a89, .ref a97, .int 0, .ref a105, .int 0, .ref a113, .null, .null]) rfl ?_
  refine kg_aload 0 DM_X8_init_118 rfl ?_
  refine kg_bipush (v := 6) DM_X8_init_119 (by decide) ?_
  refine kg_newI (nc := 1) (ns := 6) (N := 6) DM_X8_init_121 ac_int (by decide) (by decide) (by decide) (fun a121 => ?_)
  refine kg_putF 25 hk cwX8 DM_X8_init_123 (by decide) gX8_53 rfl rfl rfl rfl (Nat.le_of_ble_eq_true rfl) ?_
  refine kg_fs (fs' := [.ref a7, .ref a15, .ref a24, .ref a32, .int 0, .ref a40, .int 0, .int 0, .int 0, .int 0, .int 0, .int 0, .int 0, .ref a48, .ref a56, .ref a64, .ref a73, .int 0, .ref a82, .ref a89, .ref a97, .int 0, .ref a105, .int 0, .ref a113, .ref a121, .null]) rfl ?_
  refine kg_aload 0 DM_X8_init_126 rfl ?_
  refine kg_bipush (v := 6) DM_X8_init_127 (by decide) ?_
  refine kg_newI (nc := 0) (ns := 0) (N := 6) DM_X8_init_129 ac_int (by decide) (by decide) (by decide) (fun a129 => ?_)
  refine kg_putF 26 hk cwX8 DM_X8_init_131 (by decide) gX8_56 rfl rfl rfl rfl (Nat.le_of_ble_eq_true rfl) ?_
  refine kg_fs (fs' := [.ref a7, .ref a15, .ref a24, .ref a32, .int 0, .ref a40, .int 0, .int 0, .int 0, .int 0, .int 0, .int 0, .int 0, .ref a48, .ref a56, .ref a64, .ref a73, .int 0, .ref a82, .ref a89, .ref a97, .int 0, .ref a105, .int 0, .ref a113, .ref a121, .ref a129]) rfl ?_
  refine kg_iconst (v := 0) DM_X8_init_134 (by decide) ?_
  refine kg_istore (vs' := [(1, .int 0), (0, .ref a)]) DM_X8_init_135 (by decide) rfl ?_
  refine lane_step (i := 0) (i' := 1) hk rfl (by decide) (show ¬ ((0 : Int32) < 0 ∨ 8 ≤ (0 : Int32).toNatClampNeg) by decide) (by decide) ?_
  refine lane_step (i := 1) (i' := 2) hk rfl (by decide) (show ¬ ((1 : Int32) < 0 ∨ 8 ≤ (1 : Int32).toNatClampNeg) by decide) (by decide) ?_
  refine lane_step (i := 2) (i' := 3) hk rfl (by decide) (show ¬ ((2 : Int32) < 0 ∨ 8 ≤ (2 : Int32).toNatClampNeg) by decide) (by decide) ?_
  refine lane_step (i := 3) (i' := 4) hk rfl (by decide) (show ¬ ((3 : Int32) < 0 ∨ 8 ≤ (3 : Int32).toNatClampNeg) by decide) (by decide) ?_
  refine lane_step (i := 4) (i' := 5) hk rfl (by decide) (show ¬ ((4 : Int32) < 0 ∨ 8 ≤ (4 : Int32).toNatClampNeg) by decide) (by decide) ?_
  refine lane_step (i := 5) (i' := 6) hk rfl (by decide) (show ¬ ((5 : Int32) < 0 ∨ 8 ≤ (5 : Int32).toNatClampNeg) by decide) (by decide) ?_
  refine lane_step (i := 6) (i' := 7) hk rfl (by decide) (show ¬ ((6 : Int32) < 0 ∨ 8 ≤ (6 : Int32).toNatClampNeg) by decide) (by decide) ?_
  refine lane_step (i := 7) (i' := 8) hk rfl (by decide) (show ¬ ((7 : Int32) < 0 ∨ 8 ≤ (7 : Int32).toNatClampNeg) by decide) (by decide) ?_
  refine kg_iload 0 DM_X8_init_136 rfl ?_
  refine kg_bipush (v := 8) DM_X8_init_137 (by decide) ?_
  refine kg_ge 156 DM_X8_init_139 (by decide) (fun _ => ?_) (fun z => absurd (by decide) z)
  exact kg_ret DM_X8_init_156 ⟨fun j => [a7, a15, a24, a32, a40, a48, a56, a64, a73, a82, a89, a97, a105, a113, a121, a129].getD j 0, rfl, rfl⟩
