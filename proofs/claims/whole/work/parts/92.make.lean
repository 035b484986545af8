/-! Constructors: a world that grows. -/
abbrev Fe : Type := Launch × va_G × (Nat → ClassId)
def tyK (K : Nat → ClassId) : List (ClassId × FieldType) := [(K 0, .int), (K 1, .boolean), (K 2, .object "AlphaCourt$Row"), (K 3, .object "AlphaCourt$Court")]
/-- what the tables say, beside the words -/
def Nk (F : Fe) (U : State) : Prop := va_K F.2.1 vwCl (tyK F.2.2) U ∧ va_AO "AlphaCourt$Row" U ∧ va_AO "AlphaCourt$Court" U ∧ ∀ (a : String) (i : Nat) (y : MethodName) (h : String), Cond.methodLinkNest a i y h ∈ lw_tbl → va_Nw (.methodLinkNest a i y h) U
theorem Nk.moved {F : Fe} {s U : State} (h : Nk F s) (hW : s.WarmedH U.vm) : Nk F U := ⟨va_K.moved hW.alike h.1, h.2.1.moved hW.alike, h.2.2.1.moved hW.alike, fun a i y hh hm => va_Nw.warmM hW (h.2.2.2 a i y hh hm)⟩
theorem Nk.same {F : Fe} {s U : State} (h : Nk F s) (hv : s.vm = U.vm) : Nk F U := by
  have hvm : s.vm.Alike U.vm := by rw [← hv]; exact Vm.Alike.refl s.vm
  exact ⟨va_K.moved hvm h.1, h.2.1.moved hvm, h.2.2.1.moved hvm, fun a i y hh hm => va_Nw.same rfl hv (h.2.2.2 a i y hh hm)⟩
def Kx (F : Fe) (y : Mth) (d : Nat) (p : Program) (R : Room) (s : State) (m : MethodId) (args : Array Value) (meth : Method) (c : Code) : Prop :=
  p.tables.exec = Jvm.exec ∧ c.code = mC y ∧ c.maxLocals = mL y ∧ s.vm.findClass (mO y) = some m.cls ∧ (∀ w ∈ TB, w.before args s = true) ∧ (d ≤ R.frames ∧ 40 * d + 24 ≤ R.locals) ∧ Nk F s ∧ meth.name = "<init>"
def wv (ws : va_W) (k q ci : Nat) (fs : List Value) (cs : va_W) : va_W := ws.set k (q, .inr (ci, fs)) ++ cs
/-- from here the constructor comes to its end: nc cells of ns slots are still to come; its own object (cell k, at q) has the fields fs, the new cells are cs -/
def Kg (F : Fe) (d : Nat) (y : Mth) (ws : va_W) (k q ci nc ns pc : Nat) (vs : List (Nat × Value)) (st fs : List Value) (cs : va_W) (Q : List Value → va_W → Prop) : Prop :=
  ∀ (p : Program) (e : Env) (R : Room) (s : State) (m : MethodId) (args : Array Value) (below : List Frame) (meth : Method) (c : Code) (H : Heap) (locs : List Loc) (cells slots : Nat) (lsA : Array Slot) (QQ : State → Prop) (A : Nat → Prop),
    Kx F y d p R s m args meth c → (cells + nc ≤ R.cells ∧ slots + ns ≤ R.slots) → va_P F.2.1 vwCl (wv ws k q ci fs cs) H → va_D A (wv ws k q ci fs cs) → va_S A s.heap H locs → (∀ x, s.heap.size ≤ x → A x) → lv_has lsA (mL y) vs →
    (∀ (fs' : List Value) (cs' : va_W) (H' : Heap) (locs' : List Loc) (pc' : Nat) (ls' : Array Slot), Q fs' cs' → va_P F.2.1 vwCl (wv ws k q ci fs' cs') H' → va_D A (wv ws k q ci fs' cs') → va_S A s.heap H' locs' → decode (mC y) pc' = .ok (.return_, 1) →
      W p F.1 e R s m args below meth c H' locs' (cells + nc) (slots + ns) QQ (F0 m pc' ls' [])) →
    W p F.1 e R s m args below meth c H locs cells slots QQ (F0 m pc lsA st)
theorem wv_at {ws : va_W} {k q ci : Nat} {fs : List Value} {cs : va_W} (hk : k < ws.length) : (wv ws k q ci fs cs)[k]? = some (q, .inr (ci, fs)) := by
  unfold wv
  rw [List.getElem?_append_left (by rw [List.length_set]; exact hk), List.getElem?_set_self hk]
theorem wv_set {ws : va_W} {k q ci : Nat} {fs fs' : List Value} {cs : va_W} (hk : k < ws.length) : (wv ws k q ci fs cs).set k (q, .inr (ci, fs')) = wv ws k q ci fs' cs := by
  unfold wv
  rw [List.set_append_left _ _ (by rw [List.length_set]; exact hk), List.set_set]
theorem wv_push {ws : va_W} {k q ci : Nat} {fs : List Value} {cs : va_W} {x : Nat × va_E} : wv ws k q ci fs cs ++ [x] = wv ws k q ci fs (cs ++ [x]) := by
  unfold wv; rw [List.append_assoc]
theorem wv_cat {ws : va_W} {k q ci : Nat} {fs : List Value} {cs : va_W} {j : Nat} : (wv ws k q ci fs cs)[ws.length + j]? = cs[j]? := by
  unfold wv
  rw [List.getElem?_append_right (by rw [List.length_set]; omega), List.length_set, Nat.add_sub_cancel_left]
theorem wv_cset {ws : va_W} {k q ci : Nat} {fs : List Value} {cs : va_W} {j : Nat} {x : Nat × va_E} : (wv ws k q ci fs cs).set (ws.length + j) x = wv ws k q ci fs (cs.set j x) := by
  unfold wv
  rw [List.set_append_right _ _ (by rw [List.length_set]; omega), List.length_set, Nat.add_sub_cancel_left]
theorem set_same {α : Type} {l : List α} {k : Nat} {x : α} (h : l[k]? = some x) : l.set k x = l := by
  refine List.ext_getElem? fun j => ?_
  by_cases e : j = k
  · subst e
    rw [List.getElem?_set_self (List.getElem?_eq_some_iff.mp h).1, h]
  · rw [List.getElem?_set_ne (Ne.symm e)]
section K92
variable {F : Fe} {d : Nat} {y : Mth} {ws : va_W} {k q ci nc ns pc : Nat} {vs : List (Nat × Value)} {st fs : List Value} {cs : va_W} {Q : List Value → va_W → Prop}
theorem kg_ret (hd : decode (mC y) pc = .ok (.return_, 1)) (h : Q fs cs) : Kg F d y ws k q ci 0 0 pc vs [] fs cs Q := by
  intro p e R s m args below meth c H locs cells slots lsA QQ A C hc hP hD hS hA hl hr
  exact hr fs cs H locs pc lsA h hP hD hS hd
theorem kg_aload {n : Fin 4} {x : Nat} (j : Nat) (hd : decode (mC y) pc = .ok (.aload_n n, 1)) (hj : vs[j]? = some ((n : Nat), .ref x)) (h : Kg F d y ws k q ci nc ns (pc + 1) vs (.ref x :: st) fs cs Q) : Kg F d y ws k q ci nc ns pc vs st fs cs Q := by
  intro p e R s m args below meth c H locs cells slots lsA QQ A C hc hP hD hS hA hl hr
  exact lv_aload_n C.1 C.2.1 hd rfl (lv_at hl j hj) (h p e R s m args below meth c H locs cells slots lsA QQ A C hc hP hD hS hA hl hr)
theorem kg_iload {n : Fin 4} {x : Int32} (j : Nat) (hd : decode (mC y) pc = .ok (.iload_n n, 1)) (hj : vs[j]? = some ((n : Nat), .int x)) (h : Kg F d y ws k q ci nc ns (pc + 1) vs (.int x :: st) fs cs Q) : Kg F d y ws k q ci nc ns pc vs st fs cs Q := by
  intro p e R s m args below meth c H locs cells slots lsA QQ A C hc hP hD hS hA hl hr
  exact lv_iload_n C.1 C.2.1 hd rfl (lv_at hl j hj) (h p e R s m args below meth c H locs cells slots lsA QQ A C hc hP hD hS hA hl hr)
theorem kg_istore {n : Fin 4} {x : Int32} {vs' : List (Nat × Value)} (hd : decode (mC y) pc = .ok (.istore_n n, 1)) (hn : (n : Nat) < mL y) (hv : ((n : Nat), Value.int x) :: vs.filter (fun q => !(q.1 == (n : Nat)) && !(q.1 + 1 == (n : Nat) && q.2.category == 2)) = vs') (h : Kg F d y ws k q ci nc ns (pc + 1) vs' st fs cs Q) : Kg F d y ws k q ci nc ns pc vs (.int x :: st) fs cs Q := by
  intro p e R s m args below meth c H locs cells slots lsA QQ A C hc hP hD hS hA hl hr
  exact lv_istore_n C.1 C.2.1 hd rfl hl hn hv (fun ls' h' => h p e R s m args below meth c H locs cells slots ls' QQ A C hc hP hD hS hA h' hr)
theorem kg_iinc {i : Nat} {n : Int} {x v : Int32} {vs' : List (Nat × Value)} (j : Nat) (hd : decode (mC y) pc = .ok (.iinc i n, 3)) (hj : vs[j]? = some (i, .int x)) (hxv : x + Int32.ofInt n = v) (hn : i < mL y) (hv : (i, Value.int v) :: vs.filter (fun q => !(q.1 == i) && !(q.1 + 1 == i && q.2.category == 2)) = vs') (h : Kg F d y ws k q ci nc ns (pc + 3) vs' st fs cs Q) : Kg F d y ws k q ci nc ns pc vs st fs cs Q := by
  intro p e R s m args below meth c H locs cells slots lsA QQ A C hc hP hD hS hA hl hr
  exact lv_iinc C.1 C.2.1 hd hl hj hxv hn hv (fun ls' h' => h p e R s m args below meth c H locs cells slots ls' QQ A C hc hP hD hS hA h' hr)
theorem kg_iconst {n : Int} {v : Int32} (hd : decode (mC y) pc = .ok (.iconst n, 1)) (hv : Int32.ofInt n = v) (h : Kg F d y ws k q ci nc ns (pc + 1) vs (.int v :: st) fs cs Q) : Kg F d y ws k q ci nc ns pc vs st fs cs Q := by
  intro p e R s m args below meth c H locs cells slots lsA QQ A C hc hP hD hS hA hl hr
  exact lv_iconst C.1 C.2.1 hd hv (h p e R s m args below meth c H locs cells slots lsA QQ A C hc hP hD hS hA hl hr)
theorem kg_bipush {n : Int} {v : Int32} (hd : decode (mC y) pc = .ok (.bipush n, 2)) (hv : (Int8.ofInt n).toInt32 = v) (h : Kg F d y ws k q ci nc ns (pc + 2) vs (.int v :: st) fs cs Q) : Kg F d y ws k q ci nc ns pc vs st fs cs Q := by
  intro p e R s m args below meth c H locs cells slots lsA QQ A C hc hP hD hS hA hl hr
  exact lv_bipush C.1 C.2.1 hd hv (h p e R s m args below meth c H locs cells slots lsA QQ A C hc hP hD hS hA hl hr)
theorem kg_sipush {n : Int} {v : Int32} (hd : decode (mC y) pc = .ok (.sipush n, 3)) (hv : (Int16.ofInt n).toInt32 = v) (h : Kg F d y ws k q ci nc ns (pc + 3) vs (.int v :: st) fs cs Q) : Kg F d y ws k q ci nc ns pc vs st fs cs Q := by
  intro p e R s m args below meth c H locs cells slots lsA QQ A C hc hP hD hS hA hl hr
  exact lv_sipush C.1 C.2.1 hd hv (h p e R s m args below meth c H locs cells slots lsA QQ A C hc hP hD hS hA hl hr)
theorem kg_ldc {idx : Nat} {v : Int32} (hd : decode (mC y) pc = .ok (.ldc idx, 2)) (hw : Cond.constant (mO y) idx v ∈ TB) (h : Kg F d y ws k q ci nc ns (pc + 2) vs (.int v :: st) fs cs Q) : Kg F d y ws k q ci nc ns pc vs st fs cs Q := by
  intro p e R s m args below meth c H locs cells slots lsA QQ A C hc hP hD hS hA hl hr
  exact lv_ldc C.1 C.2.1 C.2.2.2.1 (C.2.2.2.2.1 _ hw) hd (h p e R s m args below meth c H locs cells slots lsA QQ A C hc hP hD hS hA hl hr)
theorem kg_dup {v : Value} (hd : decode (mC y) pc = .ok (.dup, 1)) (hv : v.category = 1) (h : Kg F d y ws k q ci nc ns (pc + 1) vs (v :: v :: st) fs cs Q) : Kg F d y ws k q ci nc ns pc vs (v :: st) fs cs Q := by
  intro p e R s m args below meth c H locs cells slots lsA QQ A C hc hP hD hS hA hl hr
  exact lv_dup C.1 C.2.1 hd hv (h p e R s m args below meth c H locs cells slots lsA QQ A C hc hP hD hS hA hl hr)
theorem kg_goto {off : Int} (t : Nat) (hd : decode (mC y) pc = .ok (.goto off, 3)) (ht : (pc : Int) + off = (t : Int)) (h : Kg F d y ws k q ci nc ns t vs st fs cs Q) : Kg F d y ws k q ci nc ns pc vs st fs cs Q := by
  intro p e R s m args below meth c H locs cells slots lsA QQ A C hc hP hD hS hA hl hr
  exact lv_goto C.1 C.2.1 hd ht (h p e R s m args below meth c H locs cells slots lsA QQ A C hc hP hD hS hA hl hr)
theorem kg_ge {off : Int} {a b : Int32} (t : Nat) (hd : decode (mC y) pc = .ok (.if_icmp .ge off, 3)) (ht : (pc : Int) + off = (t : Int)) (h1 : b ≤ a → Kg F d y ws k q ci nc ns t vs st fs cs Q) (h2 : ¬ b ≤ a → Kg F d y ws k q ci nc ns (pc + 3) vs st fs cs Q) : Kg F d y ws k q ci nc ns pc vs (.int b :: .int a :: st) fs cs Q := by
  intro p e R s m args below meth c H locs cells slots lsA QQ A C hc hP hD hS hA hl hr
  exact lv_icmp_ge C.1 C.2.1 hd ht (fun z => h1 z p e R s m args below meth c H locs cells slots lsA QQ A C hc hP hD hS hA hl hr) (fun z => h2 z p e R s m args below meth c H locs cells slots lsA QQ A C hc hP hD hS hA hl hr)
theorem kg_obj {idx : Nat} {a : Nat} (hd : decode (mC y) pc = .ok (.invokespecial idx, 3)) (h1 : Cond.methodLink (mO y) idx objectInit ∈ TB) (h2 : Cond.instanceMethod objectInit ∈ TB) (h3 : Cond.code objectInit ⟨#[0xb1]⟩ 1 none ∈ TB) (hdd : 1 ≤ d) (h : Kg F d y ws k q ci nc ns (pc + 3) vs [] fs cs Q) : Kg F d y ws k q ci nc ns pc vs [.ref a] fs cs Q := by
  intro p e R s m args below meth c H locs cells slots lsA QQ A C hc hP hD hS hA hl hr
  obtain ⟨hx, hb, hml, hown, hts, hR, hN, hn⟩ := id C
  have rm := lv_room (m := m) (pc := pc) (ls := lsA) (rest := [Value.ref a]) (st := ([] : List Value)) (Nat.zero_le 8)
  refine W.objInit hx hb hown (hts _ h1) (hts _ h2) (hts _ h3) rfl (by rw [hml]; exact hl.1) rfl hd (Nat.le_trans hdd hR.1) ?_ ?_
  · have := hR.2; omega
  · exact W.eq (g2 := F0 m (pc + 3) lsA []) rfl (h p e R s m args below meth c H locs cells slots lsA QQ A C hc hP hD hS hA hl hr)
theorem kg_newI {n : Int32} {N : Nat} (hd : decode (mC y) pc = .ok (.newarray .int, 2)) (hw : Cond.arrayClass .int ∈ TB) (hn : ¬ n < 0) (hN : n.toNatClampNeg = N) (hbt : N * componentBytes .int ≤ 536870912) (h : ∀ a : Nat, Kg F d y ws k q ci nc ns (pc + 2) vs (.ref a :: st) fs (cs ++ [(a, .inl (F.2.2 0, N, .inl (fun _ => 0)))]) Q) : Kg F d y ws k q ci (nc + 1) (ns + N) pc vs (.int n :: st) fs cs Q := by
  intro p e R s m args below meth c H locs cells slots lsA QQ A C hc hP hD hS hA hl hr
  obtain ⟨hx, hb, hml, hown, hts, hR, hN', hnm⟩ := id C
  refine va_newa (atype := .int) (ty := .int) (a0 := (N, .inl (fun _ => 0))) hx hb (hts _ hw) rfl hN'.1 hP hD hS hA (fun _ => rfl) hn hN hbt (by omega) (by omega) hd (fun a cA H1 hK1 hP1 hD1 hS1 => ?_)
  have e1 : s.vm.findClass ("[" ++ FieldType.int.toString) = some cA := (hK1.2 4 (cA, .int) rfl).2
  have e2 : s.vm.findClass ("[" ++ FieldType.int.toString) = some (F.2.2 0) := (hN'.1.2 0 (F.2.2 0, .int) rfl).2
  have e3 : cA = F.2.2 0 := Option.some.inj (e1.symm.trans e2)
  subst e3
  rw [wv_push] at hP1 hD1
  refine h a p e R s m args below meth c H1 locs (cells + 1) (slots + N) lsA QQ A C (by omega) hP1 hD1 hS1 hA hl (fun fs' cs' H' locs' pc' ls' x1 x2 x3 x4 x5 => ?_)
  have := hr fs' cs' H' locs' pc' ls' x1 x2 x3 x4 x5
  rwa [show cells + 1 + nc = cells + (nc + 1) by omega, show slots + N + ns = slots + (ns + N) by omega]
theorem kg_newZ {n : Int32} {N : Nat} (hd : decode (mC y) pc = .ok (.newarray .boolean, 2)) (hw : Cond.arrayClass .boolean ∈ TB) (hn : ¬ n < 0) (hN : n.toNatClampNeg = N) (hbt : N * componentBytes .boolean ≤ 536870912) (h : ∀ a : Nat, Kg F d y ws k q ci nc ns (pc + 2) vs (.ref a :: st) fs (cs ++ [(a, .inl (F.2.2 1, N, .inl (fun _ => 0)))]) Q) : Kg F d y ws k q ci (nc + 1) (ns + N) pc vs (.int n :: st) fs cs Q := by
  intro p e R s m args below meth c H locs cells slots lsA QQ A C hc hP hD hS hA hl hr
  obtain ⟨hx, hb, hml, hown, hts, hR, hN', hnm⟩ := id C
  refine va_newa (atype := .boolean) (ty := .boolean) (a0 := (N, .inl (fun _ => 0))) hx hb (hts _ hw) rfl hN'.1 hP hD hS hA (fun _ => rfl) hn hN hbt (by omega) (by omega) hd (fun a cA H1 hK1 hP1 hD1 hS1 => ?_)
  have e1 : s.vm.findClass ("[" ++ FieldType.boolean.toString) = some cA := (hK1.2 4 (cA, .boolean) rfl).2
  have e2 : s.vm.findClass ("[" ++ FieldType.boolean.toString) = some (F.2.2 1) := (hN'.1.2 1 (F.2.2 1, .boolean) rfl).2
  have e3 : cA = F.2.2 1 := Option.some.inj (e1.symm.trans e2)
  subst e3
  rw [wv_push] at hP1 hD1
  refine h a p e R s m args below meth c H1 locs (cells + 1) (slots + N) lsA QQ A C (by omega) hP1 hD1 hS1 hA hl (fun fs' cs' H' locs' pc' ls' x1 x2 x3 x4 x5 => ?_)
  have := hr fs' cs' H' locs' pc' ls' x1 x2 x3 x4 x5
  rwa [show cells + 1 + nc = cells + (nc + 1) by omega, show slots + N + ns = slots + (ns + N) by omega]
theorem kg_newQ {n : Int32} {N idx t : Nat} {B : String} (hd : decode (mC y) pc = .ok (.anewarray idx, 3)) (hw : Cond.classLink (mO y) idx B ∈ TB) (ht : ∀ U, Nk F U → va_AO B U ∧ ((tyK F.2.2)[t]? = some (F.2.2 t, .object B))) (hn : ¬ n < 0) (hN : n.toNatClampNeg = N) (hbt : N * 4 ≤ 536870912) (h : ∀ a : Nat, Kg F d y ws k q ci nc ns (pc + 3) vs (.ref a :: st) fs (cs ++ [(a, .inl (F.2.2 t, N, .inr (.inr (.inr (.inr (fun _ => none))))))]) Q) : Kg F d y ws k q ci (nc + 1) (ns + N) pc vs (.int n :: st) fs cs Q := by
  intro p e R s m args below meth c H locs cells slots lsA QQ A C hc hP hD hS hA hl hr
  obtain ⟨hx, hb, hml, hown, hts, hR, hN', hnm⟩ := id C
  refine va_newq (C := B) hx hb hown (hts _ hw) (ht s hN').1 hN'.1 hP hD hS hA hn hN hbt (by omega) (by omega) hd (fun a cA H1 hK1 hP1 hD1 hS1 => ?_)
  obtain ⟨-, -, -, -, -, e1⟩ := (hK1.2 4 (cA, .object B) rfl).2
  obtain ⟨-, -, -, -, -, e2⟩ := (hN'.1.2 t (F.2.2 t, .object B) (ht s hN').2).2
  have e3 : cA = F.2.2 t := Option.some.inj (e1.symm.trans e2)
  subst e3
  rw [wv_push] at hP1 hD1
  refine h a p e R s m args below meth c H1 locs (cells + 1) (slots + N) lsA QQ A C (by omega) hP1 hD1 hS1 hA hl (fun fs' cs' H' locs' pc' ls' x1 x2 x3 x4 x5 => ?_)
  have := hr fs' cs' H' locs' pc' ls' x1 x2 x3 x4 x5
  rwa [show cells + 1 + nc = cells + (nc + 1) by omega, show slots + N + ns = slots + (ns + N) by omega]
/-- the words of a made class -/
def Cw (B : String) (T : u_T) (N ci : Nat) (ty : Nat → FieldType) : Prop := (∀ w ∈ u_ws B T N, w ∈ TB) ∧ (∀ k, k < N → parseFieldDescriptor (T k).2.2.1 = some (ty k)) ∧ (∀ a, a < N → ∀ b, b < N → a ≠ b → (T a).2.1 ≠ (T b).2.1) ∧ vwCl[ci]? = some (B, T, N) ∧ Cond.instantiable B N ∈ TB ∧ Cond.initialized B ∈ TB
theorem kg_new {B : String} {T : u_T} {N ci' idx : Nat} {ty : Nat → FieldType} {f0 : List Value} (hd : decode (mC y) pc = .ok (.new idx, 3)) (hw : Cond.classLink (mO y) idx B ∈ TB) (hB : Cw B T N ci' ty) (hf : ∀ j, j < N → defaultValue (ty j) = vp_V f0 j) (h : ∀ a : Nat, Kg F d y ws k q ci nc ns (pc + 3) vs (.ref a :: st) fs (cs ++ [(a, .inr (ci', f0))]) Q) : Kg F d y ws k q ci (nc + 1) (ns + N) pc vs st fs cs Q := by
  intro p e R s m args below meth c H locs cells slots lsA QQ A C hc hP hD hS hA hl hr
  obtain ⟨hx, hb, hml, hown, hts, hR, hN', hnm⟩ := id C
  obtain ⟨b1, b2, b3, b4, b5, b6⟩ := hB
  refine va_new (ci := ci') (fs := f0) (C := B) (T := T) (N := N) hx hb hts b1 ty b2 hown (hts _ hw) (hts _ b5) (hts _ b6) hN'.1 hP hD hS hA b4 hf (by omega) (by omega) hd (fun a H1 hP1 hD1 hS1 => ?_)
  rw [wv_push] at hP1 hD1
  refine h a p e R s m args below meth c H1 locs (cells + 1) (slots + N) lsA QQ A C (by omega) hP1 hD1 hS1 hA hl (fun fs' cs' H' locs' pc' ls' x1 x2 x3 x4 x5 => ?_)
  have := hr fs' cs' H' locs' pc' ls' x1 x2 x3 x4 x5
  rwa [show cells + 1 + nc = cells + (nc + 1) by omega, show slots + N + ns = slots + (ns + N) by omega]
theorem kg_putF {T : u_T} {N idx : Nat} {ty : Nat → FieldType} {v : Value} (j : Nat) (hk : k < ws.length) (hB : Cw (mO y) T N ci ty) (hd : decode (mC y) pc = .ok (.putfield idx, 3)) (hj : j < N) (hlk : Cond.fieldLink (mO y) idx (T j).1 (T j).2.1 (T j).2.2.1 ∈ TB) (hfin : (T j).2.2.2 = true) (hdecl : (T j).1 = mO y) (hn : narrow (ty j) v = v) (hfit : fits (ty j) v = true) (hl' : j < fs.length) (h : Kg F d y ws k q ci nc ns (pc + 3) vs st (fs.set j v) cs Q) : Kg F d y ws k q ci nc ns pc vs (v :: .ref q :: st) fs cs Q := by
  intro p e R s m args below meth c H locs cells slots lsA QQ A C hc hP hD hS hA hl hr
  obtain ⟨hx, hb, hml, hown, hts, hR, hN', hnm⟩ := id C
  obtain ⟨b1, b2, b3, b4, b5, b6⟩ := hB
  refine va_putF (ci := ci) (v := v) (ty := ty j) (C := mO y) (T := T) (N := N) hx hb hts b1 ty b2 b3 hown hN'.1 hP hD hS k (wv_at hk) b4 j hj (hts _ hlk) (fun _ h9 => h9) hfin hnm hdecl (b2 j hj) hn hfit hl' hd (fun H1 locs1 hP1 hD1 hS1 => ?_)
  rw [wv_set hk] at hP1 hD1
  exact h p e R s m args below meth c H1 locs1 cells slots lsA QQ A C hc hP1 hD1 hS1 hA hl hr
theorem kg_putV {T : u_T} {N idx : Nat} {ty : Nat → FieldType} {v : Value} (j : Nat) (hk : k < ws.length) (hB : Cw (mO y) T N ci ty) (hd : decode (mC y) pc = .ok (.putfield idx, 3)) (hj : j < N) (hlk : Cond.fieldLink (mO y) idx (T j).1 (T j).2.1 (T j).2.2.1 ∈ TB) (hfin : (T j).2.2.2 = false) (hn : narrow (ty j) v = v) (hfit : fits (ty j) v = true) (hl' : j < fs.length) (h : Kg F d y ws k q ci nc ns (pc + 3) vs st (fs.set j v) cs Q) : Kg F d y ws k q ci nc ns pc vs (v :: .ref q :: st) fs cs Q := by
  intro p e R s m args below meth c H locs cells slots lsA QQ A C hc hP hD hS hA hl hr
  obtain ⟨hx, hb, hml, hown, hts, hR, hN', hnm⟩ := id C
  obtain ⟨b1, b2, b3, b4, b5, b6⟩ := hB
  refine va_put (ci := ci) (v := v) (ty := ty j) (C := mO y) (T := T) (N := N) hx hb hts b1 ty b2 b3 hown hN'.1 hP hD hS k (wv_at hk) b4 j hj (hts _ hlk) (fun _ h9 => h9) hfin (b2 j hj) hn hfit hl' hd (fun H1 locs1 hP1 hD1 hS1 => ?_)
  rw [wv_set hk] at hP1 hD1
  exact h p e R s m args below meth c H1 locs1 cells slots lsA QQ A C hc hP1 hD1 hS1 hA hl hr
theorem kg_get {T : u_T} {N idx : Nat} {ty : Nat → FieldType} {v : Value} (j : Nat) (hk : k < ws.length) (hB : Cw (mO y) T N ci ty) (hd : decode (mC y) pc = .ok (.getfield idx, 3)) (hj : j < N) (hlk : Cond.fieldLink (mO y) idx (T j).1 (T j).2.1 (T j).2.2.1 ∈ TB) (hv : fs[j]? = some v) (h : Kg F d y ws k q ci nc ns (pc + 3) vs (v :: st) fs cs Q) : Kg F d y ws k q ci nc ns pc vs (.ref q :: st) fs cs Q := by
  intro p e R s m args below meth c H locs cells slots lsA QQ A C hc hP hD hS hA hl hr
  obtain ⟨hx, hb, hml, hown, hts, hR, hN', hnm⟩ := id C
  obtain ⟨b1, b2, b3, b4, b5, b6⟩ := hB
  exact va_get (ci := ci) (v := v) (C := mO y) (T := T) (N := N) hx hb hts b1 hown hN'.1 hP k (wv_at hk) b4 j hj (hts _ hlk) (fun _ h9 => h9) hv hd (h p e R s m args below meth c H locs cells slots lsA QQ A C hc hP hD hS hA hl hr)
/-- a reference laid into a row of references -/
theorem kg_aast {a n v cv' : Nat} {vf : List Value} {i : Int32} {f : Nat → Option Nat} {r : vw_C} (ja jv t : Nat) (ht : (tyK F.2.2)[t]? = some (F.2.2 t, .object r.1)) (hr' : vwCl[cv']? = some r) (ha : cs[ja]? = some (a, .inl (F.2.2 t, n, .inr (.inr (.inr (.inr f)))))) (hv : cs[jv]? = some (v, .inr (cv', vf))) (hi : vp_in i n) (hd : decode (mC y) pc = .ok (.aastore, 1)) (h : Kg F d y ws k q ci nc ns (pc + 1) vs st fs (cs.set ja (a, .inl (F.2.2 t, n, .inr (.inr (.inr (.inr (va_up f i.toNatClampNeg (some v)))))))) Q) : Kg F d y ws k q ci nc ns pc vs (.ref v :: .int i :: .ref a :: st) fs cs Q := by
  intro p e R s m args below meth c H locs cells slots lsA QQ A C hc hP hD hS hA hl hr
  obtain ⟨hx, hb, hml, hown, hts, hR, hN', hnm⟩ := id C
  refine va_astq (r := r) hx hb hN'.1 hP hD hS (ws.length + ja) t (ws.length + jv) cv' (wv_cat.trans ha) ht (wv_cat.trans hv) hr' hi hd (fun H1 locs1 hP1 hD1 hS1 => ?_)
  rw [wv_cset] at hP1 hD1
  exact h p e R s m args below meth c H1 locs1 cells slots lsA QQ A C hc hP1 hD1 hS1 hA hl hr
theorem kg_iast {a n : Nat} {i x : Int32} {f : Nat → Int32} (ja : Nat) (ha : cs[ja]? = some (a, .inl (F.2.2 0, n, .inl f))) (hi : vp_in i n) (hd : decode (mC y) pc = .ok (.iastore, 1)) (h : Kg F d y ws k q ci nc ns (pc + 1) vs st fs (cs.set ja (a, .inl (F.2.2 0, n, .inl (upd f i.toNatClampNeg x)))) Q) : Kg F d y ws k q ci nc ns pc vs (.int x :: .int i :: .ref a :: st) fs cs Q := by
  intro p e R s m args below meth c H locs cells slots lsA QQ A C hc hP hD hS hA hl hr
  obtain ⟨hx, hb, hml, hown, hts, hR, hN', hnm⟩ := id C
  refine va_iast hx hb hN'.1 hP hD hS (ws.length + ja) 0 (wv_cat.trans ha) rfl hi hd (fun H1 locs1 hP1 hD1 hS1 => ?_)
  rw [wv_cset] at hP1 hD1
  exact h p e R s m args below meth c H1 locs1 cells slots lsA QQ A C hc hP1 hD1 hS1 hA hl hr
end K92
/-- a constructor's own words -/
def Mi (y : Mth) : Prop := Cond.initialized (mO y) ∈ TB ∧ Cond.code (mN y) (mC y) (mL y) none ∈ TB ∧ (mN y).cls = mO y ∧ ((mN y).cls ≠ "java/lang/invoke/MethodHandle" ∧ (mN y).cls ≠ "java/lang/invoke/VarHandle" ∧ (parseMethodDescriptor (mN y).desc).map (fun d => d.parameters.length) = some 0) ∧ plainName (mN y).cls = true ∧ Cond.instanceMethod (mN y) ∈ TB ∧ (mN y).name = "<init>" ∧ mR y = none ∧ 1 ≤ mL y ∧ mL y ≤ 21
def rmK (d nc ns : Nat) : Room := { frames := d, cells := nc, slots := ns, locals := 40 * d + 24 }
def PcK (F : Fe) (Ws : va_W) (a sz : Nat) : Array Value → State → Prop := va_Pc [.ref a] (fun U => U.heap.size = sz ∧ va_P F.2.1 vwCl Ws U.heap ∧ Nk F U ∧ va_D (fun _ => True) Ws)
def QcK (F : Fe) (Ws : va_W) (kk a ci sz : Nat) (Q : List Value → va_W → Prop) : Array Value → State → Outcome → State → Prop := va_Qv (fun u : List Value × va_W => Q u.1 u.2) (fun u t => va_P F.2.1 vwCl (wv Ws kk a ci u.1 u.2) t.heap ∧ va_D (va_A Ws sz) (wv Ws kk a ci u.1 u.2)) (va_A Ws sz)
theorem kmet {F : Fe} {d nc ns : Nat} {y : Mth} {Ws : va_W} {kk a ci sz : Nat} {f0 : List Value} {Q : List Value → va_W → Prop} (hM : Mi y) (hw : Ws[kk]? = some (a, .inr (ci, f0))) (h : Kg F d y Ws kk a ci nc ns 0 [(0, .ref a)] [] f0 [] Q) : Met F.1 (mN y) (mW y) (rmK d nc ns) (PcK F Ws a sz) (QcK F Ws kk a ci sz Q) nc ns (va_A Ws sz) := by
  obtain ⟨m1, m2, m3, m4, m5, m6, m7, m8, m9, m10⟩ := hM
  refine Met.ofW (cc := mC y) (maxL := mL y) (ret := mR y) m5 rfl ?_
  intro p e s m args below meth c s₁ B hml hv
  obtain ⟨rfl, hsz, hP, hN, hD0⟩ := hv
  have hx := B.exec
  have hb := B.bytes
  have hr := B.returns
  have hts := atoms_spec (ws := mW y) B.pre
  have hown : s.vm.findClass (mN y).cls = some m.cls := findClass_of_methodNamed B.named
  rw [m3] at hown
  have hlocks := B.notSynchronized
  have hin : meth.name = "<init>" := (name_of_methodNamed B.named B.method).1.trans m7
  subst hsz
  have hD := hD0.self (sz := s.heap.size)
  have e0 : wv Ws kk a ci f0 [] = Ws := by unfold wv; rw [List.append_nil, set_same hw]
  have hl := lv_entry ([.ref a]) (n := mL y) m9
  rw [lg_entry_eq]
  refine h p e _ s m _ below meth c s.heap [] 0 0 _ _ (va_A Ws s.heap.size) ⟨hx, hb, hml, hown, fun w hw => hts w (List.mem_cons_of_mem _ hw), ⟨Nat.le_refl d, Nat.le_refl _⟩, hN, hin⟩ ⟨Nat.le_of_eq (Nat.zero_add _), Nat.le_of_eq (Nat.zero_add _)⟩ (by rw [e0]; exact hP) (by rw [e0]; exact hD) va_S.rf (fun x hx => Or.inr hx) hl (fun fs' cs' H' locs' pc' ls' hq hP' hD' hS' hdd => ?_)
  rw [Nat.zero_add, Nat.zero_add]
  exact W.vret hx hb (by rw [hr]; exact m8) (fun t ht hW => ⟨⟨(fs', cs'), rfl, hq, by rw [ht]; exact hP', hD'⟩, hS'.F ht⟩) hS'.2.2 hdd
theorem pck_blind {F : Fe} {Ws : va_W} {a sz : Nat} : FrameBlind (PcK F Ws a sz) := by
  intro v U g mk h
  obtain ⟨h1, h2, h3, h4, h5⟩ := h
  exact ⟨h1, h2, h3, Nk.same (U := U.calling g mk v) h4 rfl, h5⟩
theorem mw_good {y : Mth} (h : Cond.code (mN y) (mC y) (mL y) (mR y) ∈ TB) : GoodIn TB (mW y) := tb_gi (fun w hw => by
  rcases List.mem_cons.mp hw with q | q
  · rw [q]; exact h
  · exact q)
/-- behind a constructor's call -/
theorem kw_go {F : Fe} {p : Program} {e : Env} {R : Room} {s : State} {m : MethodId} {args : Array Value} {below : List Frame} {meth : Method} {c : Code} {H : Heap} {locs : List Loc} {cells slots mc ms pc kk a ci : Nat} {ls : Array Slot} {st0 rest : List Value} {QQ : State → Prop} {A : Nat → Prop} {Ws : va_W} {Q : List Value → va_W → Prop} {av : Array Value}
    (run : va_Run p F.1 e R s m args below meth c H locs cells slots mc ms (F0 m pc ls st0) rest (QcK F Ws kk a ci H.size Q av) (va_A Ws H.size)) (hD : va_D A Ws) (hS : va_S A s.heap H locs) (hA : ∀ x, s.heap.size ≤ x → A x)
    (go : ∀ (fs' : List Value) (cs' : va_W) (H1 : Heap) (locs1 : List Loc), Q fs' cs' → va_P F.2.1 vwCl (wv Ws kk a ci fs' cs') H1 → va_D A (wv Ws kk a ci fs' cs') → va_S A s.heap H1 locs1 → W p F.1 e R s m args below meth c H1 locs1 (cells + mc) (slots + ms) QQ (F0 m (pc + 3) ls rest)) :
    W p F.1 e R s m args below meth c H locs cells slots QQ (F0 m pc ls st0) := by
  have free : ∀ x, va_A Ws H.size x → A x := fun x hx => by
    rcases hx with ⟨k, e, hk⟩ | hx
    · exact hD.2 k _ hk
    · exact hA x (Nat.le_trans hS.1 hx)
  refine va_callv run hS (fun x _ hx => free x hx) free (fun u t H1 locs1 ht hvm hp hB hz hk hS1 => ?_)
  exact go u.1 u.2 H1 locs1 hp (by rw [← ht]; exact hB.1) (hB.2.weaken (fun k x _ hx => free _ hx)) hS1
theorem kg_call {F : Fe} {d d' nc ns nc' ns' idx : Nat} {y y' : Mth} {ws : va_W} {k q ci ci' pc a : Nat} {vs : List (Nat × Value)} {st fs f0 : List Value} {cs : va_W} {Q Q' : List Value → va_W → Prop} (host : String) (hM : Mi y') (hd : decode (mC y) pc = .ok (.invokespecial idx, 3)) (hlk : Cond.methodLinkNest (mO y) idx (mN y') host ∈ lw_tbl) (hdd : d' + 1 ≤ d) (hsz : (st.map fun v => v.category).sum ≤ 8)
    (hcal : ∀ (Ws : va_W) (kk : Nat), Ws[kk]? = some (a, .inr (ci', f0)) → Kg F d' y' Ws kk a ci' nc' ns' 0 [(0, .ref a)] [] f0 [] Q')
    (h : ∀ (fs' : List Value) (cs' : va_W), Q' fs' cs' → Kg F d y ws k q ci nc ns (pc + 3) vs st fs (cs ++ (a, .inr (ci', fs')) :: cs') Q) : Kg F d y ws k q ci (nc + nc') (ns + ns') pc vs (.ref a :: st) fs (cs ++ [(a, .inr (ci', f0))]) Q := by
  intro p e R s m args below meth c H locs cells slots lsA QQ A C hc hP hD hS hA hl hr
  obtain ⟨hx, hb, hml, hown, hts, hR, hN', hnm⟩ := id C
  obtain ⟨m1, m2, m3, m4, m5, m6, m7, m8, m9, m10⟩ := id hM
  have at1 : (wv ws k q ci fs (cs ++ [(a, .inr (ci', f0))]))[ws.length + cs.length]? = some (a, .inr (ci', f0)) := by
    rw [wv_cat, List.getElem?_append_right (Nat.le_refl _), Nat.sub_self]; rfl
  have hMet := kmet (sz := H.size) hM at1 (hcal _ _ at1)
  refine kw_go (kk := ws.length + cs.length) (ci := ci') (Q := Q') (av := ((Value.ref a) :: ([] : List Value)).toArray) (mc := nc') (ms := ns') (rest := st) (va_runIN (As := []) (rest := st) ⟨hx, hb, hml, hown, hts⟩ hMet ⟨va_cnB 0 hts (mw_good (by rw [m8]; exact m2)) (by unfold mW; rw [m8]) rfl rfl (hN'.2.2.2 _ _ _ _ hlk) (by rw [m3]; exact hts _ m1) m4 ⟨?_, ?_⟩, m7, hts _ m6⟩ ⟨pck_blind, fun U hU hW => ⟨rfl, by rw [hU], by rw [hU]; exact hP, hN'.moved hW, hD.weaken (fun _ _ _ _ => trivial)⟩⟩ rfl rfl hl.1 rfl (lv_room hsz) hd ⟨by omega, by omega⟩) hD hS hA (fun fs' cs' H1 locs1 hq hP1 hD1 hS1 => ?_)
  · exact Nat.le_trans hdd hR.1
  · show 8 + (mL y' + 11) + (40 * d' + 24) ≤ R.locals
    have := hR.2
    omega
  · have e1 : wv (wv ws k q ci fs (cs ++ [(a, .inr (ci', f0))])) (ws.length + cs.length) a ci' fs' cs' = wv ws k q ci fs (cs ++ (a, .inr (ci', fs')) :: cs') := by
      show (wv ws k q ci fs (cs ++ [(a, .inr (ci', f0))])).set (ws.length + cs.length) (a, .inr (ci', fs')) ++ cs' = _
      rw [wv_cset, List.set_append_right _ _ (Nat.le_refl _), Nat.sub_self]
      unfold wv
      rw [List.append_assoc, List.append_assoc]; rfl
    rw [e1] at hP1 hD1
    refine h fs' cs' hq p e R s m args below meth c H1 locs1 (cells + nc') (slots + ns') lsA QQ A C (by omega) hP1 hD1 hS1 hA hl (fun fs2 cs2 H' locs' pc' ls' x1 x2 x3 x4 x5 => ?_)
    have := hr fs2 cs2 H' locs' pc' ls' x1 x2 x3 x4 x5
    rwa [show cells + nc' + nc = cells + (nc + nc') by omega, show slots + ns' + ns = slots + (ns + ns') by omega]
