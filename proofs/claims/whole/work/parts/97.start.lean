/-! The start: the tables, the constructors, the loop. -/
/-! THE CLAIM OUT OF ONE WALK OF THE LAW'S BODY. Your part is whole_start (and what it stands on); all else here is the same for every law, but numbers. -/
def R_law : String := "AlphaCourtLaw"
def lw_P (b : Addr) (xs : List Int32) (args : Array Value) (s : State) : Prop := args = #[.ref b] ∧ s.IntsAt b xs ∧ xs.length ≤ 384 ∧ (Jvm.Cond.and given_1 narrow_1).before args s = true
def lw_Q (_ : Array Value) (s : State) (o : Outcome) (t : State) : Prop := o = .returned (some (.int 1)) ∧ Framed s o t [] 600000 7302250
def lw_Z (below : List Frame) (a : Array Value) (s : State) : State → Prop := fun t => ∃ o, t.status = .running ∧ Ended t below o ∧ lw_Q a s o t
/-- the law's own end, with 1 on the stack, nothing written that was there before, its room as the claim has it -/
theorem lw_ret {p : Program} {l : Launch} {e : Env} {s : State} {m : MethodId} {below : List Frame} {meth : Method} {c : Code} {b : Nat} (hx : p.tables.exec = Jvm.exec) (hb : c.code = code) (hr : meth.sig.returnType = ret) (hlocks : meth.locks = false) {pc : Nat} {H : Heap} {ls : Array Slot} (hdg : decode code pc = .ok (.ireturn, 1)) : W p l e room_1 s m #[Value.ref b] below meth c H [] 600000 7302250 (lw_Z below #[Value.ref b] s) (F0 m pc ls [.int 1]) := by
  intro T hT X
  obtain ⟨fs, hret, hrun, hended, hW, hframe⟩ := X.leave (v := some (.int 1)) (hlocks := hlocks) (fun h => by rw [hr] at h; cases h)
  have hmeth' : T.vm.method? m = some meth := X.method'
  refine ⟨T.setFrames fs, ?_, .returned (some (.int 1)), hrun, hended, rfl, ⟨_, rfl⟩, hW, hframe⟩
  jvm_step X.here [X.here.top, hx, hb, hdg, hmeth', hr, ret, narrow_b1]
  (try refine ⟨rfl, ?_⟩); (try refine ⟨rfl, ?_⟩)
  first | (intro acts; rw [hret _ acts rfl rfl rfl]) | rw [hret _ _ rfl rfl rfl]
  exact Steps.refl _
/-- what holds at the law's entry: the machine, the code, the tables' words (any of lw_tbl by 'hts w (by decide +kernel)'), the script of L ints xs at the cell b, what the Statement gives of the start (any of its parts by flat_of_before) -/
def lw_At (p : Program) (s : State) (m : MethodId) (meth : Method) (c : Code) (b L : Nat) (xs : Nat → Int32) : Prop :=
  p.tables.exec = Jvm.exec ∧ c.code = code ∧ meth.sig.returnType = ret ∧ c.maxLocals = 4 ∧ s.vm.findClass R_law = some m.cls ∧ (∀ w ∈ lw_tbl, w.before #[Value.ref b] s = true) ∧ va_X b L xs s s.heap ∧ b < s.heap.size ∧ meth.locks = false ∧ (Jvm.Cond.and given_1 narrow_1).before #[Value.ref b] s = true
theorem clL_7 : Cond.classLink RL 7 RX7 ∈ TB := tb1 (List.mem_of_getElem? (i := 12) (by decide +kernel)) rfl
theorem clL_10 : Cond.classLink RL 10 RX8 ∈ TB := tb3 (List.mem_of_getElem? (i := 237) (by decide +kernel)) rfl
theorem mlL_9 : Cond.methodLink RL 9 (mN M_X7_init) ∈ TB := tb1 (List.mem_of_getElem? (i := 14) (by decide +kernel)) rfl
theorem mlL_12 : Cond.methodLink RL 12 (mN M_X8_init) ∈ TB := tb3 (List.mem_of_getElem? (i := 239) (by decide +kernel)) rfl
theorem ao_row : Cond.arrayOver (.object "AlphaCourt$Row") ∈ lw_tbl := List.mem_append_right _ (List.mem_append_left _ (List.mem_of_getElem? (i := 21) (by decide +kernel)))
theorem ao_court : Cond.arrayOver (.object "AlphaCourt$Court") ∈ lw_tbl := List.mem_append_right _ (List.mem_append_left _ (List.mem_of_getElem? (i := 144) (by decide +kernel)))
def roT (i : Nat) : List Int := ([[-1, 0, 1, 1, 0, 4], [1, 1, 1, 1, 2, 0], [10, 11, 12, 11, 13, 14], [20, 21, 24, 22, 23, 23]] : List (List Int)).getD i []
def roF (xs : Nat → Int32) : Nat → Nat → Int := fun i j => if i = 4 then (xs j).toInt else (roT i).getD j 0
theorem ls_0 : Cond.laysStatic "AlphaCourt" "WIDER_KIND" "[I" ∈ lw_tbl := List.mem_append_right _ (List.mem_append_right _ (List.mem_append_right _ (List.mem_append_left _ (List.mem_of_getElem? (i := 201) (by decide +kernel)))))
theorem li_0 : Cond.initialized "AlphaCourt" ∈ lw_tbl := List.mem_append_right _ (List.mem_append_left _ (List.mem_of_getElem? (i := 1) (by decide +kernel)))
theorem tab_0 {s : State} {b : Nat} {A : Nat → Prop} (hgv : (Jvm.Cond.and given_1 narrow_1).before #[Value.ref b] s = true) (hts : ∀ w ∈ lw_tbl, w.before #[Value.ref b] s = true) (hA : ∀ a : Nat, a < s.heap.size → ¬ A a) : ∃ t : Nat, va_T .int t 6 (fun j => .int (Int32.ofInt ((roT 0).getD j 0))) A s s.heap ∧ va_Z "AlphaCourt" "WIDER_KIND" "[I" (.ref t) A s s.heap := by
  have hs := flat_of_before _ hgv
  obtain ⟨t, ht, hT⟩ := va_Tof (tm := (.static "AlphaCourt" "WIDER_KIND" "[I")) (ty := .int) (N := 6) (f := fun j => .int (Int32.ofInt ((roT 0).getD j 0))) (A := A) (by decide) (hs (Cond.arrayOf (.static "AlphaCourt" "WIDER_KIND" "[I") .int) (by decide +kernel)) (va_eqt (hs (Cond.eq (.length (.static "AlphaCourt" "WIDER_KIND" "[I")) (.int 6)) (by decide +kernel))) (fun j hj => by
    rcases (show j = 0 ∨ j = 1 ∨ j = 2 ∨ j = 3 ∨ j = 4 ∨ j = 5 by omega) with q | q | q | q | q | q <;> subst q
    · exact (va_eqt (hs (Cond.eq (.elem (.static "AlphaCourt" "WIDER_KIND" "[I") (.int 0)) (.int (-1))) (by decide +kernel))).trans rfl
    · exact (va_eqt (hs (Cond.eq (.elem (.static "AlphaCourt" "WIDER_KIND" "[I") (.int 1)) (.int 0)) (by decide +kernel))).trans rfl
    · exact (va_eqt (hs (Cond.eq (.elem (.static "AlphaCourt" "WIDER_KIND" "[I") (.int 2)) (.int 1)) (by decide +kernel))).trans rfl
    · exact (va_eqt (hs (Cond.eq (.elem (.static "AlphaCourt" "WIDER_KIND" "[I") (.int 3)) (.int 1)) (by decide +kernel))).trans rfl
    · exact (va_eqt (hs (Cond.eq (.elem (.static "AlphaCourt" "WIDER_KIND" "[I") (.int 4)) (.int 0)) (by decide +kernel))).trans rfl
    · exact (va_eqt (hs (Cond.eq (.elem (.static "AlphaCourt" "WIDER_KIND" "[I") (.int 5)) (.int 4)) (by decide +kernel))).trans rfl) hA
  exact ⟨t, hT, va_Zof (hts _ ls_0) (hts _ li_0) ht hA⟩
theorem ls_1 : Cond.laysStatic "AlphaCourt" "GROUP" "[I" ∈ lw_tbl := List.mem_append_right _ (List.mem_append_right _ (List.mem_append_left _ (List.mem_of_getElem? (i := 233) (by decide +kernel))))
theorem li_1 : Cond.initialized "AlphaCourt" ∈ lw_tbl := List.mem_append_right _ (List.mem_append_left _ (List.mem_of_getElem? (i := 1) (by decide +kernel)))
theorem tab_1 {s : State} {b : Nat} {A : Nat → Prop} (hgv : (Jvm.Cond.and given_1 narrow_1).before #[Value.ref b] s = true) (hts : ∀ w ∈ lw_tbl, w.before #[Value.ref b] s = true) (hA : ∀ a : Nat, a < s.heap.size → ¬ A a) : ∃ t : Nat, va_T .int t 6 (fun j => .int (Int32.ofInt ((roT 1).getD j 0))) A s s.heap ∧ va_Z "AlphaCourt" "GROUP" "[I" (.ref t) A s s.heap := by
  have hs := flat_of_before _ hgv
  obtain ⟨t, ht, hT⟩ := va_Tof (tm := (.static "AlphaCourt" "GROUP" "[I")) (ty := .int) (N := 6) (f := fun j => .int (Int32.ofInt ((roT 1).getD j 0))) (A := A) (by decide) (hs (Cond.arrayOf (.static "AlphaCourt" "GROUP" "[I") .int) (by decide +kernel)) (va_eqt (hs (Cond.eq (.length (.static "AlphaCourt" "GROUP" "[I")) (.int 6)) (by decide +kernel))) (fun j hj => by
    rcases (show j = 0 ∨ j = 1 ∨ j = 2 ∨ j = 3 ∨ j = 4 ∨ j = 5 by omega) with q | q | q | q | q | q <;> subst q
    · exact (va_eqt (hs (Cond.eq (.elem (.static "AlphaCourt" "GROUP" "[I") (.int 0)) (.int 1)) (by decide +kernel))).trans rfl
    · exact (va_eqt (hs (Cond.eq (.elem (.static "AlphaCourt" "GROUP" "[I") (.int 1)) (.int 1)) (by decide +kernel))).trans rfl
    · exact (va_eqt (hs (Cond.eq (.elem (.static "AlphaCourt" "GROUP" "[I") (.int 2)) (.int 1)) (by decide +kernel))).trans rfl
    · exact (va_eqt (hs (Cond.eq (.elem (.static "AlphaCourt" "GROUP" "[I") (.int 3)) (.int 1)) (by decide +kernel))).trans rfl
    · exact (va_eqt (hs (Cond.eq (.elem (.static "AlphaCourt" "GROUP" "[I") (.int 4)) (.int 2)) (by decide +kernel))).trans rfl
    · exact (va_eqt (hs (Cond.eq (.elem (.static "AlphaCourt" "GROUP" "[I") (.int 5)) (.int 0)) (by decide +kernel))).trans rfl) hA
  exact ⟨t, hT, va_Zof (hts _ ls_1) (hts _ li_1) ht hA⟩
theorem ls_2 : Cond.laysStatic "AlphaCourt$Asks" "SIZE_BODY" "[I" ∈ lw_tbl := List.mem_append_right _ (List.mem_append_right _ (List.mem_append_right _ (List.mem_append_left _ (List.mem_of_getElem? (i := 211) (by decide +kernel)))))
theorem li_2 : Cond.initialized "AlphaCourt$Asks" ∈ lw_tbl := List.mem_append_right _ (List.mem_append_left _ (List.mem_of_getElem? (i := 7) (by decide +kernel)))
theorem tab_2 {s : State} {b : Nat} {A : Nat → Prop} (hgv : (Jvm.Cond.and given_1 narrow_1).before #[Value.ref b] s = true) (hts : ∀ w ∈ lw_tbl, w.before #[Value.ref b] s = true) (hA : ∀ a : Nat, a < s.heap.size → ¬ A a) : ∃ t : Nat, va_T .int t 6 (fun j => .int (Int32.ofInt ((roT 2).getD j 0))) A s s.heap ∧ va_Z "AlphaCourt$Asks" "SIZE_BODY" "[I" (.ref t) A s s.heap := by
  have hs := flat_of_before _ hgv
  obtain ⟨t, ht, hT⟩ := va_Tof (tm := (.static "AlphaCourt$Asks" "SIZE_BODY" "[I")) (ty := .int) (N := 6) (f := fun j => .int (Int32.ofInt ((roT 2).getD j 0))) (A := A) (by decide) (hs (Cond.arrayOf (.static "AlphaCourt$Asks" "SIZE_BODY" "[I") .int) (by decide +kernel)) (va_eqt (hs (Cond.eq (.length (.static "AlphaCourt$Asks" "SIZE_BODY" "[I")) (.int 6)) (by decide +kernel))) (fun j hj => by
    rcases (show j = 0 ∨ j = 1 ∨ j = 2 ∨ j = 3 ∨ j = 4 ∨ j = 5 by omega) with q | q | q | q | q | q <;> subst q
    · exact (va_eqt (hs (Cond.eq (.elem (.static "AlphaCourt$Asks" "SIZE_BODY" "[I") (.int 0)) (.int 10)) (by decide +kernel))).trans rfl
    · exact (va_eqt (hs (Cond.eq (.elem (.static "AlphaCourt$Asks" "SIZE_BODY" "[I") (.int 1)) (.int 11)) (by decide +kernel))).trans rfl
    · exact (va_eqt (hs (Cond.eq (.elem (.static "AlphaCourt$Asks" "SIZE_BODY" "[I") (.int 2)) (.int 12)) (by decide +kernel))).trans rfl
    · exact (va_eqt (hs (Cond.eq (.elem (.static "AlphaCourt$Asks" "SIZE_BODY" "[I") (.int 3)) (.int 11)) (by decide +kernel))).trans rfl
    · exact (va_eqt (hs (Cond.eq (.elem (.static "AlphaCourt$Asks" "SIZE_BODY" "[I") (.int 4)) (.int 13)) (by decide +kernel))).trans rfl
    · exact (va_eqt (hs (Cond.eq (.elem (.static "AlphaCourt$Asks" "SIZE_BODY" "[I") (.int 5)) (.int 14)) (by decide +kernel))).trans rfl) hA
  exact ⟨t, hT, va_Zof (hts _ ls_2) (hts _ li_2) ht hA⟩
theorem ls_3 : Cond.laysStatic "AlphaCourt$Asks" "MARK_BODY" "[I" ∈ lw_tbl := List.mem_append_right _ (List.mem_append_right _ (List.mem_append_right _ (List.mem_append_left _ (List.mem_of_getElem? (i := 213) (by decide +kernel)))))
theorem li_3 : Cond.initialized "AlphaCourt$Asks" ∈ lw_tbl := List.mem_append_right _ (List.mem_append_left _ (List.mem_of_getElem? (i := 7) (by decide +kernel)))
theorem tab_3 {s : State} {b : Nat} {A : Nat → Prop} (hgv : (Jvm.Cond.and given_1 narrow_1).before #[Value.ref b] s = true) (hts : ∀ w ∈ lw_tbl, w.before #[Value.ref b] s = true) (hA : ∀ a : Nat, a < s.heap.size → ¬ A a) : ∃ t : Nat, va_T .int t 6 (fun j => .int (Int32.ofInt ((roT 3).getD j 0))) A s s.heap ∧ va_Z "AlphaCourt$Asks" "MARK_BODY" "[I" (.ref t) A s s.heap := by
  have hs := flat_of_before _ hgv
  obtain ⟨t, ht, hT⟩ := va_Tof (tm := (.static "AlphaCourt$Asks" "MARK_BODY" "[I")) (ty := .int) (N := 6) (f := fun j => .int (Int32.ofInt ((roT 3).getD j 0))) (A := A) (by decide) (hs (Cond.arrayOf (.static "AlphaCourt$Asks" "MARK_BODY" "[I") .int) (by decide +kernel)) (va_eqt (hs (Cond.eq (.length (.static "AlphaCourt$Asks" "MARK_BODY" "[I")) (.int 6)) (by decide +kernel))) (fun j hj => by
    rcases (show j = 0 ∨ j = 1 ∨ j = 2 ∨ j = 3 ∨ j = 4 ∨ j = 5 by omega) with q | q | q | q | q | q <;> subst q
    · exact (va_eqt (hs (Cond.eq (.elem (.static "AlphaCourt$Asks" "MARK_BODY" "[I") (.int 0)) (.int 20)) (by decide +kernel))).trans rfl
    · exact (va_eqt (hs (Cond.eq (.elem (.static "AlphaCourt$Asks" "MARK_BODY" "[I") (.int 1)) (.int 21)) (by decide +kernel))).trans rfl
    · exact (va_eqt (hs (Cond.eq (.elem (.static "AlphaCourt$Asks" "MARK_BODY" "[I") (.int 2)) (.int 24)) (by decide +kernel))).trans rfl
    · exact (va_eqt (hs (Cond.eq (.elem (.static "AlphaCourt$Asks" "MARK_BODY" "[I") (.int 3)) (.int 22)) (by decide +kernel))).trans rfl
    · exact (va_eqt (hs (Cond.eq (.elem (.static "AlphaCourt$Asks" "MARK_BODY" "[I") (.int 4)) (.int 23)) (by decide +kernel))).trans rfl
    · exact (va_eqt (hs (Cond.eq (.elem (.static "AlphaCourt$Asks" "MARK_BODY" "[I") (.int 5)) (.int 23)) (by decide +kernel))).trans rfl) hA
  exact ⟨t, hT, va_Zof (hts _ ls_3) (hts _ li_3) ht hA⟩
theorem LF_eq {K : Nat → ClassId} {q0 q8 : Nat} {b b8 : Nat → Nat} {x : Nat × va_E} : wv (wv ([] ++ [x]) 0 q0 7 (fX7 b) (kX7 K b) ++ [(q8, .inr (8, zX8))]) 83 q8 8 (fX8 b8) (kX8 K b8) = LF K q0 b q8 b8 := by
  have e1 : wv ([] ++ [x]) 0 q0 7 (fX7 b) (kX7 K b) = (q0, .inr (7, fX7 b)) :: kX7 K b := rfl
  have e2 : ((q0, (.inr (7, fX7 b) : va_E)) :: kX7 K b).length = 83 := rfl
  rw [e1]
  show (((q0, (.inr (7, fX7 b) : va_E)) :: kX7 K b) ++ [(q8, (.inr (8, zX8) : va_E))]).set 83 (q8, (.inr (8, fX8 b8) : va_E)) ++ kX8 K b8 = _
  rw [List.set_append_right _ _ (by rw [e2]; exact Nat.le_refl _), e2, List.append_assoc]
  rfl

set_option maxHeartbeats 8000000 in
set_option maxRecDepth 40000 in
theorem whole_start {p : Program} {e : Env} {s : State} {m : MethodId} {below : List Frame} {meth : Method} {c : Code} (l : Launch) (hflags : l.flags = flags0) {b L : Nat} {xs : Nat → Int32} (hL : L ≤ 384) (C0 : lw_At p s m meth c b L xs) : W p l e room_1 s m #[Value.ref b] below meth c s.heap [] 0 0 (lw_Z below #[Value.ref b] s) (entryFrame m ([Value.ref b] : List Value).toArray 4) := by
  obtain ⟨hx, hb, hr, hml, hown, hts0, hX, hbl, hlocks, hgv⟩ := id C0
  have hts : ∀ w ∈ TB, w.before #[Value.ref b] s = true := fun w hw => hts0 w (List.mem_filter.mp hw).1
  have hA : ∀ q : Nat, s.heap.size ≤ q → (fun q : Nat => s.heap.size ≤ q) q := fun _ h => h
  have hAn : ∀ a : Nat, a < s.heap.size → ¬ (fun q : Nat => s.heap.size ≤ q) a := fun a h => Nat.not_le.mpr h
  obtain ⟨c0, j0, n0⟩ := u_known (C := RX0) (T := TX0) (N := 6) (n := 6) hts uRX0 (hts _ cwX0.2.2.2.2.1)
  obtain ⟨c1, j1, n1⟩ := u_known (C := RX1) (T := TX1) (N := 2) (n := 2) hts uRX1 (hts _ cwX1.2.2.2.2.1)
  obtain ⟨c2, j2, n2⟩ := u_known (C := RX2) (T := TX2) (N := 16) (n := 16) hts uRX2 (hts _ cwX2.2.2.2.2.1)
  obtain ⟨c3, j3, n3⟩ := u_known (C := RX3) (T := TX3) (N := 6) (n := 6) hts uRX3 (hts _ cwX3.2.2.2.2.1)
  obtain ⟨c4, j4, n4⟩ := u_known (C := RX4) (T := TX4) (N := 8) (n := 8) hts uRX4 (hts _ cwX4.2.2.2.2.1)
  obtain ⟨c5, j5, n5⟩ := u_known (C := RX5) (T := TX5) (N := 1) (n := 1) hts uRX5 (hts _ cwX5.2.2.2.2.1)
  obtain ⟨c6, j6, n6⟩ := u_known (C := RX6) (T := TX6) (N := 3) (n := 3) hts uRX6 (hts _ cwX6.2.2.2.2.1)
  obtain ⟨c7, j7, n7⟩ := u_known (C := RX7) (T := TX7) (N := 11) (n := 11) hts uRX7 (hts _ cwX7.2.2.2.2.1)
  obtain ⟨c8, j8, n8⟩ := u_known (C := RX8) (T := TX8) (N := 27) (n := 27) hts uRX8 (hts _ cwX8.2.2.2.2.1)
  obtain ⟨D, hKc⟩ : ∃ D : va_G, ∀ (k : Nat) (q : vw_C), vwCl[k]? = some q → u_Kn s q.1 q.2.1 q.2.2 (D.1 k) (D.2 k) := by
    refine ⟨(fun k => [c0, c1, c2, c3, c4, c5, c6, c7, c8].getD k c0, fun k => [j0, j1, j2, j3, j4, j5, j6, j7, j8].getD k j0), ?_⟩
    intro k q hq
    match k, hq with
    | 0, hq => cases hq; exact n0
    | 1, hq => cases hq; exact n1
    | 2, hq => cases hq; exact n2
    | 3, hq => cases hq; exact n3
    | 4, hq => cases hq; exact n4
    | 5, hq => cases hq; exact n5
    | 6, hq => cases hq; exact n6
    | 7, hq => cases hq; exact n7
    | 8, hq => cases hq; exact n8
    | k + 9, hq => simp [vwCl] at hq
  obtain ⟨k0, kk0, cp0, x1, x2, x3⟩ := Cond.arrayClass_spec (hts _ ac_int)
  obtain ⟨k1, kk1, cp1, w1, w2, w3⟩ := Cond.arrayClass_spec (hts _ ac_bool)
  obtain ⟨cp2, k2, kk2, y1, -, y2, y3, y4⟩ := Cond.arrayOver_spec (hts0 _ ao_row)
  obtain ⟨cp3, k3, kk3, z1, -, z2, z3, z4⟩ := Cond.arrayOver_spec (hts0 _ ao_court)
  obtain ⟨K, hK⟩ : ∃ K : Nat → ClassId, va_K D vwCl (tyK K) s := by
    refine ⟨fun k => [k0, k1, k2, k3].getD k k0, hKc, ?_⟩
    intro k q hq
    match k, hq with
    | 0, hq => cases hq; exact ⟨fun n z => ⟨fun k h => (by cases h), kk0, x2, cp0, x3⟩, x1⟩
    | 1, hq => cases hq; exact ⟨fun n z => ⟨fun k h => (by cases h), kk1, w2, cp1, w3⟩, w1⟩
    | 2, hq => cases hq; exact ⟨fun n z => ⟨fun k h => (by cases h), kk2, y2, cp2, y3⟩, kk2, cp2, y2, y3, y1, y4⟩
    | 3, hq => cases hq; exact ⟨fun n z => ⟨fun k h => (by cases h), kk3, z2, cp3, z3⟩, kk3, cp3, z2, z3, z1, z4⟩
    | k + 4, hq => simp [tyK] at hq
  have hN : Nk (l, D, K) s := ⟨hK, va_AO.of (hts0 _ ao_row), va_AO.of (hts0 _ ao_court), fun a i y h hm => va_tabs rfl rfl (hts0 _ hm)⟩
  have hS : va_S (fun q : Nat => s.heap.size ≤ q) s.heap s.heap [] := va_S.rf
  have hP : va_P D vwCl [] s.heap := fun k q h => by simp at h
  have hD : va_D (fun q : Nat => s.heap.size ≤ q) [] := ⟨fun i j p q h => by simp at h, fun k q h => by simp at h⟩
  have hl := lv_entry ([.ref b]) (n := 4) (Nat.le_of_ble_eq_true rfl)
  rw [lg_entry_eq]
  generalize (lg_sl ([.ref b]) ++ List.replicate (4 - (lg_sl ([.ref b])).length) Slot.unset).toArray = ls at hl ⊢
  have hl : lv_has ls 4 [(0, .ref b)] := hl
  refine va_new (D := D) (cl := vwCl) (ci := 7) (fs := zX7) (C := RX7) (T := TX7) (N := 11) hx hb hts uRX7 tyX7 tyX7_ok hown (hts _ clL_7) (hts _ cwX7.2.2.2.2.1) (hts _ cwX7.2.2.2.2.2) hK hP hD hS hA rfl zX7_ok (Nat.le_of_ble_eq_true rfl) (Nat.le_of_ble_eq_true rfl) DM_law_0 (fun q0 H1 hP1 hD1 hS1 => ?_)
  refine lv_dup hx hb DM_law_3 rfl ?_
  have at1 : (([] : va_W) ++ [(q0, .inr (7, zX7))])[0]? = some (q0, .inr (7, zX7)) := rfl
  refine kw_go (F := (l, D, K)) (kk := 0) (a := q0) (ci := 7) (Q := fun fs cs => ∃ b : Nat → Nat, fs = fX7 b ∧ cs = kX7 K b) (av := ((Value.ref q0) :: ([] : List Value)).toArray) (mc := 82) (ms := 1085) (rest := [.ref q0]) (va_runI (As := []) (rest := [.ref q0]) ⟨hx, hb, hml, hown, hts⟩ (kmet (F := (l, D, K)) (d := 3) (sz := H1.size) kiM_X7 at1 (ki_X7 (by decide) at1)) (cwI 0 hts (mw_good kiM_X7.2.1) rfl rfl rfl (hts _ kiM_X7.1) (hts _ mlL_9) (hts _ kiM_X7.2.2.2.2.2.1) rfl kiM_X7.2.2.2.1 ⟨Nat.le_of_ble_eq_true rfl, Nat.le_of_ble_eq_true rfl⟩) ⟨pck_blind, fun U hU hW => ⟨rfl, by rw [hU], by rw [hU]; exact hP1, hN.moved hW, hD1.weaken (fun _ _ _ _ => trivial)⟩⟩ rfl rfl hl.1 rfl (lv_room (Nat.le_of_ble_eq_true rfl)) DM_law_4 ⟨Nat.le_of_ble_eq_true rfl, Nat.le_of_ble_eq_true rfl⟩) hD1 hS1 hA (fun fs' cs' H2 locs2 hq hP2 hD2 hS2 => ?_)
  obtain ⟨bb, rfl, rfl⟩ := hq
  refine lv_astore_n (lv' := [(1, .ref q0), (0, .ref b)]) hx hb DM_law_7 rfl hl (by decide) rfl (fun ls hl => ?_)
  refine va_new (D := D) (cl := vwCl) (ci := 8) (fs := zX8) (C := RX8) (T := TX8) (N := 27) hx hb hts uRX8 tyX8 tyX8_ok hown (hts _ clL_10) (hts _ cwX8.2.2.2.2.1) (hts _ cwX8.2.2.2.2.2) hK hP2 hD2 hS2 hA rfl zX8_ok (Nat.le_of_ble_eq_true rfl) (Nat.le_of_ble_eq_true rfl) DM_law_8 (fun q8 H3 hP3 hD3 hS3 => ?_)
  refine lv_dup hx hb DM_law_11 rfl ?_
  have at2 : (wv (([] : va_W) ++ [(q0, .inr (7, zX7))]) 0 q0 7 (fX7 bb) (kX7 K bb) ++ [(q8, .inr (8, zX8))])[83]? = some (q8, .inr (8, zX8)) := rfl
  refine kw_go (F := (l, D, K)) (kk := 83) (a := q8) (ci := 8) (Q := fun fs cs => ∃ b : Nat → Nat, fs = fX8 b ∧ cs = kX8 K b) (av := ((Value.ref q8) :: ([] : List Value)).toArray) (mc := 16) (ms := 3177) (rest := [.ref q8]) (va_runI (As := []) (rest := [.ref q8]) ⟨hx, hb, hml, hown, hts⟩ (kmet (F := (l, D, K)) (d := 3) (sz := H3.size) kiM_X8 at2 (ki_X8 (by decide) at2)) (cwI 0 hts (mw_good kiM_X8.2.1) rfl rfl rfl (hts _ kiM_X8.1) (hts _ mlL_12) (hts _ kiM_X8.2.2.2.2.2.1) rfl kiM_X8.2.2.2.1 ⟨Nat.le_of_ble_eq_true rfl, Nat.le_of_ble_eq_true rfl⟩) ⟨pck_blind, fun U hU hW => ⟨rfl, by rw [hU], by rw [hU]; exact hP3, hN.moved hW, hD3.weaken (fun _ _ _ _ => trivial)⟩⟩ rfl rfl hl.1 rfl (lv_room (Nat.le_of_ble_eq_true rfl)) DM_law_12 ⟨Nat.le_of_ble_eq_true rfl, Nat.le_of_ble_eq_true rfl⟩) hD3 hS3 hA (fun fs' cs' H5 locs5 hq hP5 hD5 hS5 => ?_)
  obtain ⟨b8, rfl, rfl⟩ := hq
  rw [LF_eq] at hP5 hD5
  refine lv_astore_n (lv' := [(2, .ref q8), (1, .ref q0), (0, .ref b)]) hx hb DM_law_15 rfl hl (by decide) rfl (fun ls hl => ?_)
  refine lv_iconst (v := 0) hx hb DM_law_16 (by decide) ?_
  refine lv_istore_n (lv' := [(3, .int 0), (2, .ref q8), (1, .ref q0), (0, .ref b)]) hx hb DM_law_17 rfl hl (by decide) rfl (fun ls hl => ?_)
  obtain ⟨t0, T0, Z0⟩ := tab_0 hgv hts0 hAn
  obtain ⟨t1, T1, Z1⟩ := tab_1 hgv hts0 hAn
  obtain ⟨t2, T2, Z2⟩ := tab_2 hgv hts0 hAn
  obtain ⟨t3, T3, Z3⟩ := tab_3 hgv hts0 hAn
  have T4 : va_T .int b L (fun j => .int (Int32.ofInt ((xs j).toInt))) (fun q : Nat => s.heap.size ≤ q) s s.heap := by
    obtain ⟨scr, g1, g2, g3, g4, g5⟩ := hX
    refine ⟨scr, g1, g2, g3, Nat.le_of_eq g4.symm, by rw [g4] <;> rfl, fun j hj => ?_, Nat.not_le.mpr hbl⟩
    rw [g5 j hj]
    show some (Value.int (xs j)) = some (Value.int (Int32.ofInt (xs j).toInt))
    rw [Int32.ofInt_toInt]
  obtain ⟨E, eE⟩ : ∃ E, E = E0 l s.heap.size q0 bb q8 b8 (fun i => [t0, t1, t2, t3, b].getD i 0) D K (roF xs) L := ⟨_, rfl⟩
  have la : ∀ k, k < 100 → (LF K q0 bb q8 b8)[k]? = some (eA E k, ent E mu0 k) := fun k hk => by rw [eE]; exact la_all k hk
  have eS' : eS E = L := by rw [eE]; rfl
  have hE : Eok E := ⟨fun i j hi hj h => hD5.1 i j _ _ (la i hi) (la j hj) h, fun i hi => by
    have := hD5.2 i _ (la i hi)
    have e1 : eZ E = s.heap.size := by rw [eE]; rfl
    rw [e1]; exact this, by rw [eS']; omega⟩
  have hP6 : va_P (eD E) vwCl (wl E mu0) H5 := fun k x hx => by
    obtain ⟨hk, rfl⟩ := wl_some hx
    have := hP5 k _ (la k hk)
    rw [eE] at this ⊢
    exact this
  have hSt : St E s s.heap := by
    rw [eE]
    refine ⟨hK, fun i hi => ?_, fun i hi => ?_, fun a i b n d h hm => va_tabs rfl rfl (hts0 _ hm)⟩
    · match i, hi with
      | 0, _ => exact T0
      | 1, _ => exact T1
      | 2, _ => exact T2
      | 3, _ => exact T3
      | 4, _ => exact T4
    · match i, hi with
      | 0, _ => exact Z0
      | 1, _ => exact Z1
      | 2, _ => exact Z2
      | 3, _ => exact Z3
  have hRo : RoOk E := by rw [eE]; exact fun j hj => ⟨rfl, rfl, rfl, rfl⟩
  have hSr : ∀ j, inR (eR E 4 j) := fun j => by rw [eE]; exact inR_of (xs j)
  have G := lw_loop (E := E) (Q := fun v _ => v = some (.inl 1)) hRo hSr (by rw [eS']; exact hL) (fun _ => rfl) (L + 1) 0 (by decide) (by rw [eS']; omega) (by decide) mu0 Inv_0
  have eL : eLn E = l := by rw [eE]; rfl
  have fE : fr E = fun q : Nat => s.heap.size ≤ q := by rw [eE]; rfl
  have t104 : eA E 104 = b := by rw [eE]; rfl
  have t00 : eA E 0 = q0 := by rw [eE]; rfl
  have t83 : eA E 83 = q8 := by rw [eE]; rfl
  have G1 := G p e room_1 s m #[Value.ref b] below meth c H5 locs5
  rw [eL] at G1
  refine G1 _ _ ls _ ⟨hE, hx, hb, hml, hown, hts, ⟨Nat.le_of_ble_eq_true rfl, Nat.le_of_ble_eq_true rfl⟩, ⟨Nat.le_of_ble_eq_true rfl, Nat.le_of_ble_eq_true rfl⟩, hSt⟩ hP6 (by rw [fE]; exact hS5) ⟨hl.1, hl.2.1, fun i v hv => ?_⟩ (fun v μ' H' locs' pc' ls' hq hP' hS' hro => ?_)
  · match i, hv with
    | 0, hv => cases hv; show ls[0]? = some (.val (.ref (eA E 104))); rw [t104]; exact lv_at hl 3 rfl
    | 1, hv => cases hv; show ls[1]? = some (.val (.ref (eA E 0))); rw [t00]; exact lv_at hl 2 rfl
    | 2, hv => cases hv; show ls[2]? = some (.val (.ref (eA E 83))); rw [t83]; exact lv_at hl 1 rfl
    | 3, hv => cases hv; exact lv_at hl 0 rfl
    | i + 4, hv => simp at hv
  · subst hq
    rw [fE] at hS'
    exact va_forget hS'.2.2 (W.widen (k := 600000) (n := 7302250) (Nat.le_of_ble_eq_true rfl) (Nat.le_of_ble_eq_true rfl) (lw_ret hx hb hr hlocks hro.1))
