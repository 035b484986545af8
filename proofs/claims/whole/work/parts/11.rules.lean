/-- what holds of the machine in a body of the method y, with room for d frames more -/
def Cx (E : Ex) (y : Mth) (d : Nat) (p : Program) (R : Room) (s : State) (m : MethodId) (args : Array Value) (c : Code) (cells slots : Nat) : Prop :=
  Eok E ∧ p.tables.exec = Jvm.exec ∧ c.code = mC y ∧ c.maxLocals = mL y ∧ s.vm.findClass (mO y) = some m.cls ∧ (∀ w ∈ TB, w.before args s = true) ∧ (d ≤ R.frames ∧ 40 * d + 24 ≤ R.locals) ∧ (cells ≤ R.cells ∧ slots ≤ R.slots) ∧ St E s s.heap
def retOk (y : Mth) (pc : Nat) : Option Vl → Prop
  | none => decode (mC y) pc = .ok (.return_, 1) ∧ mR y = none
  | some (.inl x) => decode (mC y) pc = .ok (.ireturn, 1) ∧ (mR y = some .int ∨ (mR y = some .boolean ∧ (x = 0 ∨ x = 1)))
  | some (.inr _) => decode (mC y) pc = .ok (.areturn, 1) ∧ ∃ C, mR y = some (.object C)
/-- from here the method comes to its end, with an answer and a memory as Q has it -/
def Gg (E : Ex) (d : Nat) (y : Mth) (pc : Nat) (ls : List (Option Vl)) (st : List Vl) (μ : Mem) (Q : Option Vl → Mem → Prop) : Prop :=
  ∀ (p : Program) (e : Env) (R : Room) (s : State) (m : MethodId) (args : Array Value) (below : List Frame) (meth : Method) (c : Code) (H : Heap) (locs : List Loc) (cells slots : Nat) (lsA : Array Slot) (QQ : State → Prop),
    Cx E y d p R s m args c cells slots → va_P (eD E) vwCl (wl E μ) H → va_S (fr E) s.heap H locs → LcS E lsA (mL y) ls →
    (∀ (v : Option Vl) (μ' : Mem) (H' : Heap) (locs' : List Loc) (pc' : Nat) (ls' : Array Slot), Q v μ' → va_P (eD E) vwCl (wl E μ') H' → va_S (fr E) s.heap H' locs' → retOk y pc' v →
      W p (eLn E) e R s m args below meth c H' locs' cells slots QQ (F0 m pc' ls' (v.toList.map (tv E)))) →
    W p (eLn E) e R s m args below meth c H locs cells slots QQ (F0 m pc lsA (st.map (tv E)))
def Cl (E : Ex) (d : Nat) (y : Mth) (as : List Vl) (μ : Mem) (Q : Option Vl → Mem → Prop) : Prop := Gg E d y 0 (en0 (mL y) as) [] μ Q
theorem inR_eq0 {x : Int} (h : inR x) : Int32.ofInt x = 0 ↔ x = 0 := inR_eq h inR0
theorem inR_ne0 {x : Int} (h : inR x) : ¬ Int32.ofInt x = 0 ↔ x ≠ 0 := not_congr (inR_eq h inR0)
theorem inR_lt0 {x : Int} (h : inR x) : Int32.ofInt x < 0 ↔ x < 0 := inR_lt h inR0
theorem inR_ge0 {x : Int} (h : inR x) : 0 ≤ Int32.ofInt x ↔ x ≥ 0 := inR_le inR0 h
theorem inR_gt0 {x : Int} (h : inR x) : 0 < Int32.ofInt x ↔ x > 0 := inR_lt inR0 h
theorem inR_le0 {x : Int} (h : inR x) : Int32.ofInt x ≤ 0 ↔ x ≤ 0 := inR_le h inR0
theorem inR_eq2 {x y : Int} (h : inR x) (k : inR y) : Int32.ofInt x = Int32.ofInt y ↔ x = y := inR_eq h k
theorem inR_ne2 {x y : Int} (h : inR x) (k : inR y) : ¬ Int32.ofInt x = Int32.ofInt y ↔ x ≠ y := not_congr (inR_eq h k)
theorem inR_lt2 {x y : Int} (h : inR x) (k : inR y) : Int32.ofInt x < Int32.ofInt y ↔ x < y := inR_lt h k
theorem inR_ge2 {x y : Int} (h : inR x) (k : inR y) : Int32.ofInt y ≤ Int32.ofInt x ↔ x ≥ y := inR_le k h
theorem inR_gt2 {x y : Int} (h : inR x) (k : inR y) : Int32.ofInt y < Int32.ofInt x ↔ x > y := inR_lt k h
theorem inR_le2 {x y : Int} (h : inR x) (k : inR y) : Int32.ofInt x ≤ Int32.ofInt y ↔ x ≤ y := inR_le h k
section Rules
variable {E : Ex} {d : Nat} {y : Mth} {pc q : Nat} {ls : List (Option Vl)} {st : List Vl} {μ : Mem} {Q : Option Vl → Mem → Prop}
theorem Gg.mono {d' : Nat} (h : d ≤ d') (k : Gg E d y pc ls st μ Q) : Gg E d' y pc ls st μ Q := by
  intro p e R s m args below meth c H locs cells slots lsA QQ C
  obtain ⟨h1, h2, h3, h4, h5, h6, h7, h8, h9⟩ := C
  exact k p e R s m args below meth c H locs cells slots lsA QQ ⟨h1, h2, h3, h4, h5, h6, ⟨Nat.le_trans h h7.1, by have := h7.2; omega⟩, h8, h9⟩
theorem Gg.imp {Q' : Option Vl → Mem → Prop} (k : Gg E d y pc ls st μ Q) (h : ∀ v μ', Q v μ' → Q' v μ') : Gg E d y pc ls st μ Q' := by
  intro p e R s m args below meth c H locs cells slots lsA QQ C hP hS hl hr
  exact k p e R s m args below meth c H locs cells slots lsA QQ C hP hS hl (fun v μ' H' locs' pc' ls' hq => hr v μ' H' locs' pc' ls' (h v μ' hq))
theorem Cl.mono {d' : Nat} {as : List Vl} (h : d ≤ d') (k : Cl E d y as μ Q) : Cl E d' y as μ Q := Gg.mono h k
theorem Cl.imp {Q' : Option Vl → Mem → Prop} {as : List Vl} (k : Cl E d y as μ Q) (h : ∀ v μ', Q v μ' → Q' v μ') : Cl E d y as μ Q' := Gg.imp k h
theorem r_iconst {n : Int} (hd : decode (mC y) pc = .ok (.iconst n, 1)) (hq : pc + 1 = q) (k : Gg E d y q ls (.inl n :: st) μ Q) : Gg E d y pc ls st μ Q := by
  intro p e R s m args below meth c H locs cells slots lsA QQ C hP hS hl hr
  obtain ⟨hE, hx, hb, hml, hown, hts, hR, hc, hSt⟩ := id C
  subst hq
  exact lv_iconst (v := Int32.ofInt n) hx hb hd rfl (k p e R s m args below meth c H locs cells slots lsA QQ C hP hS hl hr)
theorem r_bipush {n : Int} (hd : decode (mC y) pc = .ok (.bipush n, 2)) (hq : pc + 2 = q) (hv : (Int8.ofInt n).toInt32 = Int32.ofInt n) (k : Gg E d y q ls (.inl n :: st) μ Q) : Gg E d y pc ls st μ Q := by
  intro p e R s m args below meth c H locs cells slots lsA QQ C hP hS hl hr
  obtain ⟨hE, hx, hb, hml, hown, hts, hR, hc, hSt⟩ := id C
  subst hq
  exact lv_bipush (v := Int32.ofInt n) hx hb hd hv (k p e R s m args below meth c H locs cells slots lsA QQ C hP hS hl hr)
theorem r_sipush {n : Int} (hd : decode (mC y) pc = .ok (.sipush n, 3)) (hq : pc + 3 = q) (hv : (Int16.ofInt n).toInt32 = Int32.ofInt n) (k : Gg E d y q ls (.inl n :: st) μ Q) : Gg E d y pc ls st μ Q := by
  intro p e R s m args below meth c H locs cells slots lsA QQ C hP hS hl hr
  obtain ⟨hE, hx, hb, hml, hown, hts, hR, hc, hSt⟩ := id C
  subst hq
  exact lv_sipush (v := Int32.ofInt n) hx hb hd hv (k p e R s m args below meth c H locs cells slots lsA QQ C hP hS hl hr)
theorem r_ldc {idx : Nat} {n : Int} (hd : decode (mC y) pc = .ok (.ldc idx, 2)) (hq : pc + 2 = q) (hw : Cond.constant (mO y) idx (Int32.ofInt n) ∈ TB) (k : Gg E d y q ls (.inl n :: st) μ Q) : Gg E d y pc ls st μ Q := by
  intro p e R s m args below meth c H locs cells slots lsA QQ C hP hS hl hr
  obtain ⟨hE, hx, hb, hml, hown, hts, hR, hc, hSt⟩ := id C
  subst hq
  exact lv_ldc (v := Int32.ofInt n) hx hb hown (hts _ hw) hd (k p e R s m args below meth c H locs cells slots lsA QQ C hP hS hl hr)
theorem r_ldcw {idx : Nat} {n : Int} (hd : decode (mC y) pc = .ok (.ldc_w idx, 3)) (hq : pc + 3 = q) (hw : Cond.constant (mO y) idx (Int32.ofInt n) ∈ TB) (k : Gg E d y q ls (.inl n :: st) μ Q) : Gg E d y pc ls st μ Q := by
  intro p e R s m args below meth c H locs cells slots lsA QQ C hP hS hl hr
  obtain ⟨hE, hx, hb, hml, hown, hts, hR, hc, hSt⟩ := id C
  subst hq
  exact lv_ldcw (v := Int32.ofInt n) hx hb hown (hts _ hw) hd (k p e R s m args below meth c H locs cells slots lsA QQ C hP hS hl hr)
theorem r_iloadn {n : Fin 4} {x : Int} (hd : decode (mC y) pc = .ok (.iload_n n, 1)) (hq : pc + 1 = q) (hx0 : ls[(n : Nat)]? = some (some (.inl x))) (k : Gg E d y q ls (.inl x :: st) μ Q) : Gg E d y pc ls st μ Q := by
  intro p e R s m args below meth c H locs cells slots lsA QQ C hP hS hl hr
  obtain ⟨hE, hx, hb, hml, hown, hts, hR, hc, hSt⟩ := id C
  subst hq
  exact lv_iload_n hx hb hd rfl (hl.2.2 _ _ hx0) (k p e R s m args below meth c H locs cells slots lsA QQ C hP hS hl hr)
theorem r_iload {n : Nat} {x : Int} (hd : decode (mC y) pc = .ok (.iload n, 2)) (hq : pc + 2 = q) (hx0 : ls[n]? = some (some (.inl x))) (k : Gg E d y q ls (.inl x :: st) μ Q) : Gg E d y pc ls st μ Q := by
  intro p e R s m args below meth c H locs cells slots lsA QQ C hP hS hl hr
  obtain ⟨hE, hx, hb, hml, hown, hts, hR, hc, hSt⟩ := id C
  subst hq
  exact lv_iload hx hb hd (hl.2.2 _ _ hx0) (k p e R s m args below meth c H locs cells slots lsA QQ C hP hS hl hr)
theorem r_aloadn {n : Fin 4} {x : Nat} (hd : decode (mC y) pc = .ok (.aload_n n, 1)) (hq : pc + 1 = q) (hx0 : ls[(n : Nat)]? = some (some (.inr x))) (k : Gg E d y q ls (.inr x :: st) μ Q) : Gg E d y pc ls st μ Q := by
  intro p e R s m args below meth c H locs cells slots lsA QQ C hP hS hl hr
  obtain ⟨hE, hx, hb, hml, hown, hts, hR, hc, hSt⟩ := id C
  subst hq
  exact lv_aload_n hx hb hd rfl (hl.2.2 _ _ hx0) (k p e R s m args below meth c H locs cells slots lsA QQ C hP hS hl hr)
theorem r_aload {n : Nat} {x : Nat} (hd : decode (mC y) pc = .ok (.aload n, 2)) (hq : pc + 2 = q) (hx0 : ls[n]? = some (some (.inr x))) (k : Gg E d y q ls (.inr x :: st) μ Q) : Gg E d y pc ls st μ Q := by
  intro p e R s m args below meth c H locs cells slots lsA QQ C hP hS hl hr
  obtain ⟨hE, hx, hb, hml, hown, hts, hR, hc, hSt⟩ := id C
  subst hq
  exact lv_aload hx hb hd (hl.2.2 _ _ hx0) (k p e R s m args below meth c H locs cells slots lsA QQ C hP hS hl hr)
theorem r_istoren {n : Fin 4} {x : Int} (hd : decode (mC y) pc = .ok (.istore_n n, 1)) (hq : pc + 1 = q) (hn : (n : Nat) < mL y) (k : Gg E d y q (ls.set (n : Nat) (some (.inl x))) st μ Q) : Gg E d y pc ls (.inl x :: st) μ Q := by
  intro p e R s m args below meth c H locs cells slots lsA QQ C hP hS hl hr
  obtain ⟨hE, hx, hb, hml, hown, hts, hR, hc, hSt⟩ := id C
  subst hq
  exact lv_istore_n hx hb hd rfl hl.has hn rfl (fun ls' h' => k p e R s m args below meth c H locs cells slots ls' QQ C hP hS (LcS.set (v := .inl x) rfl h') hr)
theorem r_istore {n : Nat} {x : Int} (hd : decode (mC y) pc = .ok (.istore n, 2)) (hq : pc + 2 = q) (hn : n < mL y) (k : Gg E d y q (ls.set n (some (.inl x))) st μ Q) : Gg E d y pc ls (.inl x :: st) μ Q := by
  intro p e R s m args below meth c H locs cells slots lsA QQ C hP hS hl hr
  obtain ⟨hE, hx, hb, hml, hown, hts, hR, hc, hSt⟩ := id C
  subst hq
  exact lv_istore hx hb hd hl.has hn rfl (fun ls' h' => k p e R s m args below meth c H locs cells slots ls' QQ C hP hS (LcS.set (v := .inl x) rfl h') hr)
theorem r_astoren {n : Fin 4} {x : Nat} (hd : decode (mC y) pc = .ok (.astore_n n, 1)) (hq : pc + 1 = q) (hn : (n : Nat) < mL y) (k : Gg E d y q (ls.set (n : Nat) (some (.inr x))) st μ Q) : Gg E d y pc ls (.inr x :: st) μ Q := by
  intro p e R s m args below meth c H locs cells slots lsA QQ C hP hS hl hr
  obtain ⟨hE, hx, hb, hml, hown, hts, hR, hc, hSt⟩ := id C
  subst hq
  exact lv_astore_n hx hb hd rfl hl.has hn rfl (fun ls' h' => k p e R s m args below meth c H locs cells slots ls' QQ C hP hS (LcS.set (v := .inr x) rfl h') hr)
theorem r_astore {n : Nat} {x : Nat} (hd : decode (mC y) pc = .ok (.astore n, 2)) (hq : pc + 2 = q) (hn : n < mL y) (k : Gg E d y q (ls.set n (some (.inr x))) st μ Q) : Gg E d y pc ls (.inr x :: st) μ Q := by
  intro p e R s m args below meth c H locs cells slots lsA QQ C hP hS hl hr
  obtain ⟨hE, hx, hb, hml, hown, hts, hR, hc, hSt⟩ := id C
  subst hq
  exact lv_astore hx hb hd hl.has hn rfl (fun ls' h' => k p e R s m args below meth c H locs cells slots ls' QQ C hP hS (LcS.set (v := .inr x) rfl h') hr)
theorem r_iinc {n : Nat} {w x : Int} (hd : decode (mC y) pc = .ok (.iinc n w, 3)) (hq : pc + 3 = q) (hx0 : ls[n]? = some (some (.inl x))) (hn : n < mL y) (k : Gg E d y q (ls.set n (some (.inl (x + w)))) st μ Q) : Gg E d y pc ls st μ Q := by
  intro p e R s m args below meth c H locs cells slots lsA QQ C hP hS hl hr
  obtain ⟨hE, hx, hb, hml, hown, hts, hR, hc, hSt⟩ := id C
  subst hq
  obtain ⟨j, hj⟩ := List.getElem?_of_mem (lsP_mem (E := E) (ls := ls) (q := (n, tv E (.inl x))) |>.mpr ⟨_, hx0, rfl⟩)
  exact lv_iinc (v := Int32.ofInt (x + w)) hx hb hd hl.has hj (by rw [Int32.ofInt_add]) hn rfl (fun ls' h' => k p e R s m args below meth c H locs cells slots ls' QQ C hP hS (LcS.set (v := .inl (x + w)) rfl h') hr)
theorem r_iadd {a b : Int} (hd : decode (mC y) pc = .ok (.iadd, 1)) (hq : pc + 1 = q) (k : Gg E d y q ls (.inl (a + b) :: st) μ Q) : Gg E d y pc ls (.inl b :: .inl a :: st) μ Q := by
  intro p e R s m args below meth c H locs cells slots lsA QQ C hP hS hl hr
  obtain ⟨hE, hx, hb, hml, hown, hts, hR, hc, hSt⟩ := id C
  subst hq
  have := k p e R s m args below meth c H locs cells slots lsA QQ C hP hS hl hr
  simp only [List.map_cons, tv, Int32.ofInt_add] at this
  exact lv_iadd hx hb hd this
theorem r_isub {a b : Int} (hd : decode (mC y) pc = .ok (.isub, 1)) (hq : pc + 1 = q) (k : Gg E d y q ls (.inl (a - b) :: st) μ Q) : Gg E d y pc ls (.inl b :: .inl a :: st) μ Q := by
  intro p e R s m args below meth c H locs cells slots lsA QQ C hP hS hl hr
  obtain ⟨hE, hx, hb, hml, hown, hts, hR, hc, hSt⟩ := id C
  subst hq
  have := k p e R s m args below meth c H locs cells slots lsA QQ C hP hS hl hr
  simp only [List.map_cons, tv, Int32.ofInt_sub] at this
  exact lv_isub hx hb hd this
theorem r_imul {a b : Int} (hd : decode (mC y) pc = .ok (.imul, 1)) (hq : pc + 1 = q) (k : Gg E d y q ls (.inl (a * b) :: st) μ Q) : Gg E d y pc ls (.inl b :: .inl a :: st) μ Q := by
  intro p e R s m args below meth c H locs cells slots lsA QQ C hP hS hl hr
  obtain ⟨hE, hx, hb, hml, hown, hts, hR, hc, hSt⟩ := id C
  subst hq
  have := k p e R s m args below meth c H locs cells slots lsA QQ C hP hS hl hr
  simp only [List.map_cons, tv, Int32.ofInt_mul] at this
  exact lv_imul hx hb hd this
theorem r_ineg {a : Int} (hd : decode (mC y) pc = .ok (.ineg, 1)) (hq : pc + 1 = q) (k : Gg E d y q ls (.inl (-a) :: st) μ Q) : Gg E d y pc ls (.inl a :: st) μ Q := by
  intro p e R s m args below meth c H locs cells slots lsA QQ C hP hS hl hr
  obtain ⟨hE, hx, hb, hml, hown, hts, hR, hc, hSt⟩ := id C
  subst hq
  have := k p e R s m args below meth c H locs cells slots lsA QQ C hP hS hl hr
  simp only [List.map_cons, tv, Int32.ofInt_neg] at this
  exact lv_ineg hx hb hd this
def jand (a b : Int) : Int := (Int32.ofInt a &&& Int32.ofInt b).toInt
def jor (a b : Int) : Int := (Int32.ofInt a ||| Int32.ofInt b).toInt
def jxor (a b : Int) : Int := (Int32.ofInt a ^^^ Int32.ofInt b).toInt
def jshl (a b : Int) : Int := (Int32.ofInt a <<< (Int32.ofInt b &&& 31)).toInt
def jshr (a b : Int) : Int := (Int32.ofInt a >>> (Int32.ofInt b &&& 31)).toInt
def jbyte (a : Int) : Int := (Int32.ofInt a).toInt8.toInt32.toInt
def jshort (a : Int) : Int := (Int32.ofInt a).toInt16.toInt32.toInt
def jdiv (a b : Int) : Int := (Int32.ofInt a / Int32.ofInt b).toInt
def jrem (a b : Int) : Int := (Int32.ofInt a - Int32.ofInt a / Int32.ofInt b * Int32.ofInt b).toInt
theorem r_iand {a b : Int} (hd : decode (mC y) pc = .ok (.iand, 1)) (hq : pc + 1 = q) (k : Gg E d y q ls (.inl (jand a b) :: st) μ Q) : Gg E d y pc ls (.inl b :: .inl a :: st) μ Q := by
  intro p e R s m args below meth c H locs cells slots lsA QQ C hP hS hl hr
  obtain ⟨hE, hx, hb, hml, hown, hts, hR, hc, hSt⟩ := id C
  subst hq
  have := k p e R s m args below meth c H locs cells slots lsA QQ C hP hS hl hr
  simp only [List.map_cons, tv, jand, Int32.ofInt_toInt] at this
  exact lv_iand hx hb hd this
theorem r_ior {a b : Int} (hd : decode (mC y) pc = .ok (.ior, 1)) (hq : pc + 1 = q) (k : Gg E d y q ls (.inl (jor a b) :: st) μ Q) : Gg E d y pc ls (.inl b :: .inl a :: st) μ Q := by
  intro p e R s m args below meth c H locs cells slots lsA QQ C hP hS hl hr
  obtain ⟨hE, hx, hb, hml, hown, hts, hR, hc, hSt⟩ := id C
  subst hq
  have := k p e R s m args below meth c H locs cells slots lsA QQ C hP hS hl hr
  simp only [List.map_cons, tv, jor, Int32.ofInt_toInt] at this
  exact lv_ior hx hb hd this
theorem r_ixor {a b : Int} (hd : decode (mC y) pc = .ok (.ixor, 1)) (hq : pc + 1 = q) (k : Gg E d y q ls (.inl (jxor a b) :: st) μ Q) : Gg E d y pc ls (.inl b :: .inl a :: st) μ Q := by
  intro p e R s m args below meth c H locs cells slots lsA QQ C hP hS hl hr
  obtain ⟨hE, hx, hb, hml, hown, hts, hR, hc, hSt⟩ := id C
  subst hq
  have := k p e R s m args below meth c H locs cells slots lsA QQ C hP hS hl hr
  simp only [List.map_cons, tv, jxor, Int32.ofInt_toInt] at this
  exact lv_ixor hx hb hd this
theorem r_ishl {a b : Int} (hd : decode (mC y) pc = .ok (.ishl, 1)) (hq : pc + 1 = q) (k : Gg E d y q ls (.inl (jshl a b) :: st) μ Q) : Gg E d y pc ls (.inl b :: .inl a :: st) μ Q := by
  intro p e R s m args below meth c H locs cells slots lsA QQ C hP hS hl hr
  obtain ⟨hE, hx, hb, hml, hown, hts, hR, hc, hSt⟩ := id C
  subst hq
  have := k p e R s m args below meth c H locs cells slots lsA QQ C hP hS hl hr
  simp only [List.map_cons, tv, jshl, Int32.ofInt_toInt] at this
  exact lv_ishl hx hb hd this
theorem r_ishr {a b : Int} (hd : decode (mC y) pc = .ok (.ishr, 1)) (hq : pc + 1 = q) (k : Gg E d y q ls (.inl (jshr a b) :: st) μ Q) : Gg E d y pc ls (.inl b :: .inl a :: st) μ Q := by
  intro p e R s m args below meth c H locs cells slots lsA QQ C hP hS hl hr
  obtain ⟨hE, hx, hb, hml, hown, hts, hR, hc, hSt⟩ := id C
  subst hq
  have := k p e R s m args below meth c H locs cells slots lsA QQ C hP hS hl hr
  simp only [List.map_cons, tv, jshr, Int32.ofInt_toInt] at this
  exact lv_ishr hx hb hd this
theorem r_i2b {a : Int} (hd : decode (mC y) pc = .ok (.i2b, 1)) (hq : pc + 1 = q) (k : Gg E d y q ls (.inl (jbyte a) :: st) μ Q) : Gg E d y pc ls (.inl a :: st) μ Q := by
  intro p e R s m args below meth c H locs cells slots lsA QQ C hP hS hl hr
  obtain ⟨hE, hx, hb, hml, hown, hts, hR, hc, hSt⟩ := id C
  subst hq
  have := k p e R s m args below meth c H locs cells slots lsA QQ C hP hS hl hr
  simp only [List.map_cons, tv, jbyte, Int32.ofInt_toInt] at this
  exact lv_i2b hx hb hd rfl this
theorem r_i2s {a : Int} (hd : decode (mC y) pc = .ok (.i2s, 1)) (hq : pc + 1 = q) (k : Gg E d y q ls (.inl (jshort a) :: st) μ Q) : Gg E d y pc ls (.inl a :: st) μ Q := by
  intro p e R s m args below meth c H locs cells slots lsA QQ C hP hS hl hr
  obtain ⟨hE, hx, hb, hml, hown, hts, hR, hc, hSt⟩ := id C
  subst hq
  have := k p e R s m args below meth c H locs cells slots lsA QQ C hP hS hl hr
  simp only [List.map_cons, tv, jshort, Int32.ofInt_toInt] at this
  exact lv_i2s hx hb hd rfl this
theorem r_idiv {a b : Int} (hd : decode (mC y) pc = .ok (.idiv, 1)) (hq : pc + 1 = q) (hn : inR b ∧ b ≠ 0) (k : Gg E d y q ls (.inl (jdiv a b) :: st) μ Q) : Gg E d y pc ls (.inl b :: .inl a :: st) μ Q := by
  intro p e R s m args below meth c H locs cells slots lsA QQ C hP hS hl hr
  obtain ⟨hE, hx, hb, hml, hown, hts, hR, hc, hSt⟩ := id C
  subst hq
  have := k p e R s m args below meth c H locs cells slots lsA QQ C hP hS hl hr
  simp only [List.map_cons, tv, jdiv, Int32.ofInt_toInt] at this
  exact lv_idiv hx hb hd (fun h => hn.2 ((inR_eq hn.1 inR0).mp h)) this
theorem r_irem {a b : Int} (hd : decode (mC y) pc = .ok (.irem, 1)) (hq : pc + 1 = q) (hn : inR b ∧ b ≠ 0) (k : Gg E d y q ls (.inl (jrem a b) :: st) μ Q) : Gg E d y pc ls (.inl b :: .inl a :: st) μ Q := by
  intro p e R s m args below meth c H locs cells slots lsA QQ C hP hS hl hr
  obtain ⟨hE, hx, hb, hml, hown, hts, hR, hc, hSt⟩ := id C
  subst hq
  have := k p e R s m args below meth c H locs cells slots lsA QQ C hP hS hl hr
  simp only [List.map_cons, tv, jrem, Int32.ofInt_toInt] at this
  exact lv_irem hx hb hd (fun h => hn.2 ((inR_eq hn.1 inR0).mp h)) this
theorem r_dup {v : Vl} (hd : decode (mC y) pc = .ok (.dup, 1)) (hq : pc + 1 = q) (k : Gg E d y q ls (v :: v :: st) μ Q) : Gg E d y pc ls (v :: st) μ Q := by
  intro p e R s m args below meth c H locs cells slots lsA QQ C hP hS hl hr
  obtain ⟨hE, hx, hb, hml, hown, hts, hR, hc, hSt⟩ := id C
  subst hq
  exact lv_dup hx hb hd (tv_cat E v) (k p e R s m args below meth c H locs cells slots lsA QQ C hP hS hl hr)
theorem r_pop {v : Vl} (hd : decode (mC y) pc = .ok (.pop, 1)) (hq : pc + 1 = q) (k : Gg E d y q ls st μ Q) : Gg E d y pc ls (v :: st) μ Q := by
  intro p e R s m args below meth c H locs cells slots lsA QQ C hP hS hl hr
  obtain ⟨hE, hx, hb, hml, hown, hts, hR, hc, hSt⟩ := id C
  subst hq
  exact lv_pop hx hb hd (tv_cat E v) (k p e R s m args below meth c H locs cells slots lsA QQ C hP hS hl hr)
theorem r_dup2 {v w : Vl} (hd : decode (mC y) pc = .ok (.dup2, 1)) (hq : pc + 1 = q) (k : Gg E d y q ls (v :: w :: v :: w :: st) μ Q) : Gg E d y pc ls (v :: w :: st) μ Q := by
  intro p e R s m args below meth c H locs cells slots lsA QQ C hP hS hl hr
  obtain ⟨hE, hx, hb, hml, hown, hts, hR, hc, hSt⟩ := id C
  subst hq
  exact lv_dup2_11 hx hb hd (tv_cat E v) (tv_cat E w) (k p e R s m args below meth c H locs cells slots lsA QQ C hP hS hl hr)
theorem r_goto {off : Int} (hd : decode (mC y) pc = .ok (.goto off, 3)) (hq : (pc : Int) + off = (q : Int)) (k : Gg E d y q ls st μ Q) : Gg E d y pc ls st μ Q := by
  intro p e R s m args below meth c H locs cells slots lsA QQ C hP hS hl hr
  obtain ⟨hE, hx, hb, hml, hown, hts, hR, hc, hSt⟩ := id C
  exact lv_goto hx hb hd hq (k p e R s m args below meth c H locs cells slots lsA QQ C hP hS hl hr)
variable {t : Nat} {off : Int}
theorem r_ifeq {x : Int} (hd : decode (mC y) pc = .ok (.ifCond .eq off, 3)) (hq : pc + 3 = q) (ht : (pc : Int) + off = (t : Int)) (h : inR x ∧ (x = 0 → Gg E d y t ls st μ Q) ∧ (¬ x = 0 → Gg E d y q ls st μ Q)) : Gg E d y pc ls (.inl x :: st) μ Q := by
  intro p e R s m args below meth c H locs cells slots lsA QQ C hP hS hl hr
  obtain ⟨hE, hx, hb, hml, hown, hts, hR, hc, hSt⟩ := id C
  subst hq
  obtain ⟨hi, kt, kf⟩ := h
  have hc := inR_eq0 hi
  refine lv_if_eq hx hb hd ht (fun h => kt (hc.mp h) p e R s m args below meth c H locs cells slots lsA QQ C hP hS hl hr) (fun h => kf (fun z => h (hc.mpr z)) p e R s m args below meth c H locs cells slots lsA QQ C hP hS hl hr)
theorem r_ifne {x : Int} (hd : decode (mC y) pc = .ok (.ifCond .ne off, 3)) (hq : pc + 3 = q) (ht : (pc : Int) + off = (t : Int)) (h : inR x ∧ (x ≠ 0 → Gg E d y t ls st μ Q) ∧ (x = 0 → Gg E d y q ls st μ Q)) : Gg E d y pc ls (.inl x :: st) μ Q := by
  intro p e R s m args below meth c H locs cells slots lsA QQ C hP hS hl hr
  obtain ⟨hE, hx, hb, hml, hown, hts, hR, hc, hSt⟩ := id C
  subst hq
  obtain ⟨hi, kt, kf⟩ := h
  have hc := inR_ne0 hi
  refine lv_if_ne hx hb hd ht (fun h => kt (hc.mp h) p e R s m args below meth c H locs cells slots lsA QQ C hP hS hl hr) (fun h => kf ((inR_eq hi inR0).mp h) p e R s m args below meth c H locs cells slots lsA QQ C hP hS hl hr)
theorem r_iflt {x : Int} (hd : decode (mC y) pc = .ok (.ifCond .lt off, 3)) (hq : pc + 3 = q) (ht : (pc : Int) + off = (t : Int)) (h : inR x ∧ (x < 0 → Gg E d y t ls st μ Q) ∧ (¬ x < 0 → Gg E d y q ls st μ Q)) : Gg E d y pc ls (.inl x :: st) μ Q := by
  intro p e R s m args below meth c H locs cells slots lsA QQ C hP hS hl hr
  obtain ⟨hE, hx, hb, hml, hown, hts, hR, hc, hSt⟩ := id C
  subst hq
  obtain ⟨hi, kt, kf⟩ := h
  have hc := inR_lt0 hi
  refine lv_if_lt hx hb hd ht (fun h => kt (hc.mp h) p e R s m args below meth c H locs cells slots lsA QQ C hP hS hl hr) (fun h => kf (fun z => h (hc.mpr z)) p e R s m args below meth c H locs cells slots lsA QQ C hP hS hl hr)
theorem r_ifge {x : Int} (hd : decode (mC y) pc = .ok (.ifCond .ge off, 3)) (hq : pc + 3 = q) (ht : (pc : Int) + off = (t : Int)) (h : inR x ∧ (x ≥ 0 → Gg E d y t ls st μ Q) ∧ (¬ x ≥ 0 → Gg E d y q ls st μ Q)) : Gg E d y pc ls (.inl x :: st) μ Q := by
  intro p e R s m args below meth c H locs cells slots lsA QQ C hP hS hl hr
  obtain ⟨hE, hx, hb, hml, hown, hts, hR, hc, hSt⟩ := id C
  subst hq
  obtain ⟨hi, kt, kf⟩ := h
  have hc := inR_ge0 hi
  refine lv_if_ge hx hb hd ht (fun h => kt (hc.mp h) p e R s m args below meth c H locs cells slots lsA QQ C hP hS hl hr) (fun h => kf (fun z => h (hc.mpr z)) p e R s m args below meth c H locs cells slots lsA QQ C hP hS hl hr)
theorem r_ifgt {x : Int} (hd : decode (mC y) pc = .ok (.ifCond .gt off, 3)) (hq : pc + 3 = q) (ht : (pc : Int) + off = (t : Int)) (h : inR x ∧ (x > 0 → Gg E d y t ls st μ Q) ∧ (¬ x > 0 → Gg E d y q ls st μ Q)) : Gg E d y pc ls (.inl x :: st) μ Q := by
  intro p e R s m args below meth c H locs cells slots lsA QQ C hP hS hl hr
  obtain ⟨hE, hx, hb, hml, hown, hts, hR, hc, hSt⟩ := id C
  subst hq
  obtain ⟨hi, kt, kf⟩ := h
  have hc := inR_gt0 hi
  refine lv_if_gt hx hb hd ht (fun h => kt (hc.mp h) p e R s m args below meth c H locs cells slots lsA QQ C hP hS hl hr) (fun h => kf (fun z => h (hc.mpr z)) p e R s m args below meth c H locs cells slots lsA QQ C hP hS hl hr)
theorem r_ifle {x : Int} (hd : decode (mC y) pc = .ok (.ifCond .le off, 3)) (hq : pc + 3 = q) (ht : (pc : Int) + off = (t : Int)) (h : inR x ∧ (x ≤ 0 → Gg E d y t ls st μ Q) ∧ (¬ x ≤ 0 → Gg E d y q ls st μ Q)) : Gg E d y pc ls (.inl x :: st) μ Q := by
  intro p e R s m args below meth c H locs cells slots lsA QQ C hP hS hl hr
  obtain ⟨hE, hx, hb, hml, hown, hts, hR, hc, hSt⟩ := id C
  subst hq
  obtain ⟨hi, kt, kf⟩ := h
  have hc := inR_le0 hi
  refine lv_if_le hx hb hd ht (fun h => kt (hc.mp h) p e R s m args below meth c H locs cells slots lsA QQ C hP hS hl hr) (fun h => kf (fun z => h (hc.mpr z)) p e R s m args below meth c H locs cells slots lsA QQ C hP hS hl hr)
theorem r_iceq {a b : Int} (hd : decode (mC y) pc = .ok (.if_icmp .eq off, 3)) (hq : pc + 3 = q) (ht : (pc : Int) + off = (t : Int)) (h : (inR a ∧ inR b) ∧ (a = b → Gg E d y t ls st μ Q) ∧ (¬ a = b → Gg E d y q ls st μ Q)) : Gg E d y pc ls (.inl b :: .inl a :: st) μ Q := by
  intro p e R s m args below meth c H locs cells slots lsA QQ C hP hS hl hr
  obtain ⟨hE, hx, hb, hml, hown, hts, hR, hc, hSt⟩ := id C
  subst hq
  obtain ⟨⟨hi, hj⟩, kt, kf⟩ := h
  have hc := inR_eq2 hi hj
  refine lv_icmp_eq hx hb hd ht (fun h => kt (hc.mp h) p e R s m args below meth c H locs cells slots lsA QQ C hP hS hl hr) (fun h => kf (fun z => h (hc.mpr z)) p e R s m args below meth c H locs cells slots lsA QQ C hP hS hl hr)
theorem r_icne {a b : Int} (hd : decode (mC y) pc = .ok (.if_icmp .ne off, 3)) (hq : pc + 3 = q) (ht : (pc : Int) + off = (t : Int)) (h : (inR a ∧ inR b) ∧ (a ≠ b → Gg E d y t ls st μ Q) ∧ (a = b → Gg E d y q ls st μ Q)) : Gg E d y pc ls (.inl b :: .inl a :: st) μ Q := by
  intro p e R s m args below meth c H locs cells slots lsA QQ C hP hS hl hr
  obtain ⟨hE, hx, hb, hml, hown, hts, hR, hc, hSt⟩ := id C
  subst hq
  obtain ⟨⟨hi, hj⟩, kt, kf⟩ := h
  have hc := inR_ne2 hi hj
  refine lv_icmp_ne hx hb hd ht (fun h => kt (hc.mp h) p e R s m args below meth c H locs cells slots lsA QQ C hP hS hl hr) (fun h => kf ((inR_eq hi hj).mp h) p e R s m args below meth c H locs cells slots lsA QQ C hP hS hl hr)
theorem r_iclt {a b : Int} (hd : decode (mC y) pc = .ok (.if_icmp .lt off, 3)) (hq : pc + 3 = q) (ht : (pc : Int) + off = (t : Int)) (h : (inR a ∧ inR b) ∧ (a < b → Gg E d y t ls st μ Q) ∧ (¬ a < b → Gg E d y q ls st μ Q)) : Gg E d y pc ls (.inl b :: .inl a :: st) μ Q := by
  intro p e R s m args below meth c H locs cells slots lsA QQ C hP hS hl hr
  obtain ⟨hE, hx, hb, hml, hown, hts, hR, hc, hSt⟩ := id C
  subst hq
  obtain ⟨⟨hi, hj⟩, kt, kf⟩ := h
  have hc := inR_lt2 hi hj
  refine lv_icmp_lt hx hb hd ht (fun h => kt (hc.mp h) p e R s m args below meth c H locs cells slots lsA QQ C hP hS hl hr) (fun h => kf (fun z => h (hc.mpr z)) p e R s m args below meth c H locs cells slots lsA QQ C hP hS hl hr)
theorem r_icge {a b : Int} (hd : decode (mC y) pc = .ok (.if_icmp .ge off, 3)) (hq : pc + 3 = q) (ht : (pc : Int) + off = (t : Int)) (h : (inR a ∧ inR b) ∧ (a ≥ b → Gg E d y t ls st μ Q) ∧ (¬ a ≥ b → Gg E d y q ls st μ Q)) : Gg E d y pc ls (.inl b :: .inl a :: st) μ Q := by
  intro p e R s m args below meth c H locs cells slots lsA QQ C hP hS hl hr
  obtain ⟨hE, hx, hb, hml, hown, hts, hR, hc, hSt⟩ := id C
  subst hq
  obtain ⟨⟨hi, hj⟩, kt, kf⟩ := h
  have hc := inR_ge2 hi hj
  refine lv_icmp_ge hx hb hd ht (fun h => kt (hc.mp h) p e R s m args below meth c H locs cells slots lsA QQ C hP hS hl hr) (fun h => kf (fun z => h (hc.mpr z)) p e R s m args below meth c H locs cells slots lsA QQ C hP hS hl hr)
theorem r_icgt {a b : Int} (hd : decode (mC y) pc = .ok (.if_icmp .gt off, 3)) (hq : pc + 3 = q) (ht : (pc : Int) + off = (t : Int)) (h : (inR a ∧ inR b) ∧ (a > b → Gg E d y t ls st μ Q) ∧ (¬ a > b → Gg E d y q ls st μ Q)) : Gg E d y pc ls (.inl b :: .inl a :: st) μ Q := by
  intro p e R s m args below meth c H locs cells slots lsA QQ C hP hS hl hr
  obtain ⟨hE, hx, hb, hml, hown, hts, hR, hc, hSt⟩ := id C
  subst hq
  obtain ⟨⟨hi, hj⟩, kt, kf⟩ := h
  have hc := inR_gt2 hi hj
  refine lv_icmp_gt hx hb hd ht (fun h => kt (hc.mp h) p e R s m args below meth c H locs cells slots lsA QQ C hP hS hl hr) (fun h => kf (fun z => h (hc.mpr z)) p e R s m args below meth c H locs cells slots lsA QQ C hP hS hl hr)
theorem r_icle {a b : Int} (hd : decode (mC y) pc = .ok (.if_icmp .le off, 3)) (hq : pc + 3 = q) (ht : (pc : Int) + off = (t : Int)) (h : (inR a ∧ inR b) ∧ (a ≤ b → Gg E d y t ls st μ Q) ∧ (¬ a ≤ b → Gg E d y q ls st μ Q)) : Gg E d y pc ls (.inl b :: .inl a :: st) μ Q := by
  intro p e R s m args below meth c H locs cells slots lsA QQ C hP hS hl hr
  obtain ⟨hE, hx, hb, hml, hown, hts, hR, hc, hSt⟩ := id C
  subst hq
  obtain ⟨⟨hi, hj⟩, kt, kf⟩ := h
  have hc := inR_le2 hi hj
  refine lv_icmp_le hx hb hd ht (fun h => kt (hc.mp h) p e R s m args below meth c H locs cells slots lsA QQ C hP hS hl hr) (fun h => kf (fun z => h (hc.mpr z)) p e R s m args below meth c H locs cells slots lsA QQ C hP hS hl hr)
end Rules
