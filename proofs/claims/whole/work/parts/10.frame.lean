/-! The frame: a memory of whole numbers over a fixed set of cells; G: from here the method comes to its end with Q. -/
abbrev Vl : Type := Int ⊕ Nat
abbrev Mem : Type := Nat → Int → Int
abbrev Mth : Type := String × ByteArray × Nat × Option FieldType × MethodName
def mO (y : Mth) : String := y.1
def mC (y : Mth) : ByteArray := y.2.1
def mL (y : Mth) : Nat := y.2.2.1
def mR (y : Mth) : Option FieldType := y.2.2.2.1
def mN (y : Mth) : MethodName := y.2.2.2.2
def TB : List Cond := lw_tbl.filter goodWord
def mW (y : Mth) : List Cond := Cond.code (mN y) (mC y) (mL y) (mR y) :: TB
/-- the launch, the first of our cells, where each cell lies, the classes, the arrays' classes, the tables that nobody writes, the script's length -/
abbrev Ex : Type := Launch × Nat × (Nat → Nat) × va_G × (Nat → ClassId) × (Nat → Nat → Int) × Nat
def eLn (E : Ex) : Launch := E.1
def eZ (E : Ex) : Nat := E.2.1
def eA (E : Ex) : Nat → Nat := E.2.2.1
def eD (E : Ex) : va_G := E.2.2.2.1
def eK (E : Ex) : Nat → ClassId := E.2.2.2.2.1
def eR (E : Ex) : Nat → Nat → Int := E.2.2.2.2.2.1
def eS (E : Ex) : Nat := E.2.2.2.2.2.2
def fr (E : Ex) : Nat → Prop := fun q => eZ E ≤ q
def roN (E : Ex) (i : Nat) : Nat := if i = 4 then eS E else 6
def tys (E : Ex) : List (ClassId × FieldType) := [(eK E 0, .int), (eK E 1, .boolean), (eK E 2, .object "AlphaCourt$Row"), (eK E 3, .object "AlphaCourt$Court")]
def sC (i : Nat) : String := if i < 2 then "AlphaCourt" else "AlphaCourt$Asks"
def sN (i : Nat) : String := if i = 0 then "WIDER_KIND" else if i = 1 then "GROUP" else if i = 2 then "SIZE_BODY" else "MARK_BODY"
def St (E : Ex) (U : State) (H : Heap) : Prop := va_K (eD E) vwCl (tys E) U ∧ (∀ i, i < 5 → va_T .int (eA E (100 + i)) (roN E i) (fun j => .int (Int32.ofInt (eR E i j))) (fr E) U H) ∧ (∀ i, i < 4 → va_Z (sC i) (sN i) "[I" (.ref (eA E (100 + i))) (fr E) U H) ∧ ∀ (a : String) (i : Nat) (b n d h : String), Cond.fieldLinkNest a i b n d h ∈ lw_tbl → va_Nw (.fieldLinkNest a i b n d h) U
def Eok (E : Ex) : Prop := (∀ i j, i < 100 → j < 100 → eA E i = eA E j → i = j) ∧ (∀ i, i < 100 → eZ E ≤ eA E i) ∧ eS E < 2 ^ 31
/-- the shape of a cell: 0 ints, 1 booleans, 2 rows, 3 courts, 4 + c an object of class c (its fields: 0 a number, r + 1 the cell r) -/
def coL (c : Nat) : List (Nat × Nat × List Nat) := [(6, 16, [0, 0, 0, 0, 0, 0, c + 2, c + 3, c + 4, c + 5, c + 6, c + 7, c + 8, c + 9, c + 10, 0]), (0, 8, []), (0, 8, []), (0, 6, []), (0, 6, []), (0, 24, []), (0, 6, []), (0, 6, []), (0, 6, []), (0, 6, [])]
def roL (c : Nat) : List (Nat × Nat × List Nat) := [(10, 3, [c + 2, 0, 0]), (0, 40, [])]
def shL : List (Nat × Nat × List Nat) := [(11, 11, [2, 3, 5, 15, 25, 26, 31, 42, 46, 0, 0]), (2, 8, [47, 49, 51, 53, 55, 57, 59, 61]), (8, 8, [4, 0, 0, 0, 0, 0, 0, 0]), (0, 120, [])] ++ coL 4 ++ coL 14 ++ [(3, 2, [63, 73]), (4, 6, [27, 28, 29, 30, 0, 0]), (0, 24, []), (0, 24, []), (0, 24, []), (0, 24, []), (9, 1, [32])] ++ coL 31 ++ [(7, 6, [43, 0, 0, 44, 45, 0]), (0, 6, []), (0, 6, []), (0, 4, []), (5, 2, [47, 0]), (0, 16, [])] ++ roL 47 ++ roL 49 ++ roL 51 ++ roL 53 ++ roL 55 ++ roL 57 ++ roL 59 ++ roL 61 ++ coL 63 ++ coL 73 ++ [(12, 27, [85, 86, 87, 88, 0, 89, 0, 0, 0, 0, 0, 0, 0, 90, 91, 92, 93, 0, 94, 95, 96, 0, 97, 0, 98, 99, 100]), (0, 8, []), (0, 8, []), (0, 320, []), (0, 40, []), (0, 120, []), (0, 91, []), (0, 91, []), (0, 91, []), (0, 2184, []), (0, 182, []), (1, 2, []), (0, 16, []), (0, 6, []), (0, 6, []), (0, 6, []), (0, 6, [])]
def shp (k : Nat) : Nat × Nat × List Nat := shL.getD k (0, 0, [])
theorem shL_len : shL.length = 100 := by decide +kernel
theorem shp_lt {k t n : Nat} {rs : List Nat} (h : shp k = (t, n, rs)) (h2 : t ≠ 0 ∨ 0 < n) : k < 100 := by
  rcases Nat.lt_or_ge k 100 with q | q
  · exact q
  · unfold shp at h
    rw [List.getD_eq_getElem?_getD, List.getElem?_eq_none (by rw [shL_len]; exact q)] at h
    simp only [Option.getD_none, Prod.mk.injEq] at h
    obtain ⟨h3, h4, -⟩ := h
    rcases h2 with h2 | h2 <;> omega
def fl (E : Ex) (μ : Mem) (k : Nat) : Nat → List Nat → List Value
  | _, [] => []
  | j, r :: t => (if r = 0 then Value.int (Int32.ofInt (μ k j)) else .ref (eA E (r - 1))) :: fl E μ k (j + 1) t
def ent (E : Ex) (μ : Mem) (k : Nat) : va_E := match shp k with
  | (0, n, _) => .inl (eK E 0, n, .inl (fun j => Int32.ofInt (μ k (j : Nat))))
  | (1, n, _) => .inl (eK E 1, n, .inl (fun j => Int32.ofInt (μ k (j : Nat))))
  | (2, n, rs) => .inl (eK E 2, n, .inr (.inr (.inr (.inr (fun j => (rs[j]?).map (eA E))))))
  | (3, n, rs) => .inl (eK E 3, n, .inr (.inr (.inr (.inr (fun j => (rs[j]?).map (eA E))))))
  | (t + 4, _, rs) => .inr (t, fl E μ k 0 rs)
def wl (E : Ex) (μ : Mem) : va_W := (List.range 100).map (fun k => (eA E k, ent E μ k))
def up (μ : Mem) (k : Nat) (i v : Int) : Mem := fun k' i' => if k' = k ∧ i' = i then v else μ k' i'
theorem wl_at {E : Ex} {μ : Mem} {k : Nat} (hk : k < 100) : (wl E μ)[k]? = some (eA E k, ent E μ k) := by
  unfold wl
  rw [List.getElem?_map, List.getElem?_range hk]
  rfl
theorem wl_some {E : Ex} {μ : Mem} {k : Nat} {q : Nat × va_E} (h : (wl E μ)[k]? = some q) : k < 100 ∧ q = (eA E k, ent E μ k) := by
  have hk : k < 100 := by
    have := (List.getElem?_eq_some_iff.mp h).1
    simpa [wl] using this
  rw [wl_at hk] at h
  exact ⟨hk, (Option.some.inj h).symm⟩
theorem wl_D {E : Ex} {μ : Mem} (hE : Eok E) : va_D (fr E) (wl E μ) := by
  refine ⟨fun i j p q hi hj h => ?_, fun k q hk => ?_⟩
  · obtain ⟨a, rfl⟩ := wl_some hi
    obtain ⟨b, rfl⟩ := wl_some hj
    exact hE.1 i j a b h
  · obtain ⟨a, rfl⟩ := wl_some hk
    exact hE.2.1 k a
theorem fl_congr {E : Ex} {μ μ' : Mem} {k : Nat} (h : μ k = μ' k) : ∀ (rs : List Nat) (j : Nat), fl E μ k j rs = fl E μ' k j rs
  | [], _ => rfl
  | r :: t, j => by rw [fl, fl, h, fl_congr h t]
theorem ent_congr {E : Ex} {μ μ' : Mem} {k : Nat} (h : μ k = μ' k) : ent E μ k = ent E μ' k := by
  unfold ent
  split <;> first | rw [h] | rw [fl_congr h] | rfl
theorem up_ne {μ : Mem} {k k' : Nat} {i v : Int} (h : k' ≠ k) : up μ k i v k' = μ k' := by
  funext j
  simp [up, h]
theorem wl_set {E : Ex} {μ : Mem} {k : Nat} {i v : Int} {x : va_E} (hk : k < 100) (hx : x = ent E (up μ k i v) k) : (wl E μ).set k (eA E k, x) = wl E (up μ k i v) := by
  subst hx
  refine List.ext_getElem? fun j => ?_
  by_cases hj : j = k
  · subst hj
    rw [List.getElem?_set_self (by simpa [wl] using hk), wl_at hk]
  · rw [List.getElem?_set_ne (Ne.symm hj)]
    by_cases hl : j < 100
    · rw [wl_at hl, wl_at hl, ent_congr (up_ne hj)]
    · rw [List.getElem?_eq_none (by simp [wl]; omega), List.getElem?_eq_none (by simp [wl]; omega)]
theorem fl_at {E : Ex} {μ : Mem} {k : Nat} : ∀ (rs : List Nat) (j0 j r : Nat), rs[j]? = some r → (fl E μ k j0 rs)[j]? = some (if r = 0 then Value.int (Int32.ofInt (μ k ((j0 + j : Nat)))) else .ref (eA E (r - 1)))
  | [], j0, j, r, h => by simp at h
  | a :: t, j0, 0, r, h => by
    simp only [List.getElem?_cons_zero, Option.some.injEq] at h
    subst h
    rfl
  | a :: t, j0, j + 1, r, h => by
    rw [List.getElem?_cons_succ] at h
    rw [fl, List.getElem?_cons_succ, fl_at t (j0 + 1) j r h, show j0 + 1 + j = j0 + (j + 1) by omega]
theorem fl_len {E : Ex} {μ : Mem} {k : Nat} : ∀ (rs : List Nat) (j0 : Nat), (fl E μ k j0 rs).length = rs.length
  | [], _ => rfl
  | a :: t, j0 => by rw [fl, List.length_cons, List.length_cons, fl_len t]
theorem fl_set {E : Ex} {μ : Mem} {k : Nat} {v : Int} : ∀ (rs : List Nat) (j0 j : Nat), rs[j]? = some 0 → (fl E μ k j0 rs).set j (.int (Int32.ofInt v)) = fl E (up μ k ((j0 + j : Nat)) v) k j0 rs
  | [], j0, j, h => by simp at h
  | a :: t, j0, 0, h => by
    simp only [List.getElem?_cons_zero, Option.some.injEq] at h
    subst h
    rw [fl, fl, List.set_cons_zero]
    congr 1
    · simp [up]
    · have key : ∀ (rs : List Nat) (j : Nat), j0 < j → fl E μ k j rs = fl E (up μ k ((j0 + 0 : Nat)) v) k j rs := by
        intro rs
        induction rs with
        | nil => intro j _; rfl
        | cons b u ih =>
          intro j hj
          rw [fl, fl, ih (j + 1) (by omega)]
          have : up μ k ((j0 + 0 : Nat)) v k j = μ k j := by
            unfold up
            rw [if_neg]
            rintro ⟨-, h⟩
            omega
          rw [this]
      exact key t (j0 + 1) (by omega)
  | a :: t, j0, j + 1, h => by
    rw [List.getElem?_cons_succ] at h
    rw [fl, fl, List.set_cons_succ, fl_set t (j0 + 1) j h, show j0 + 1 + j = j0 + (j + 1) by omega]
    congr 1
    have : up μ k ((j0 + (j + 1) : Nat)) v k j0 = μ k j0 := by
      unfold up
      rw [if_neg]
      rintro ⟨-, h⟩
      omega
    rw [this]
abbrev inR (x : Int) : Prop := -2147483648 ≤ x ∧ x < 2147483648
theorem inR_toInt {x : Int} (h : inR x) : (Int32.ofInt x).toInt = x := Int32.toInt_ofInt_of_le (by have := h.1; omega) (by have := h.2; omega)
theorem inR_clamp {x : Int} (h : inR x) : (Int32.ofInt x).toNatClampNeg = x.toNat := Int32.toNatClampNeg_ofInt_of_le (by have := h.1; omega) (by have := h.2; omega)
theorem inR_lt {x y : Int} (hx : inR x) (hy : inR y) : Int32.ofInt x < Int32.ofInt y ↔ x < y := by rw [Int32.lt_iff_toInt_lt, inR_toInt hx, inR_toInt hy]
theorem inR_le {x y : Int} (hx : inR x) (hy : inR y) : Int32.ofInt x ≤ Int32.ofInt y ↔ x ≤ y := by rw [Int32.le_iff_toInt_le, inR_toInt hx, inR_toInt hy]
theorem inR_eq {x y : Int} (hx : inR x) (hy : inR y) : Int32.ofInt x = Int32.ofInt y ↔ x = y := by rw [← Int32.toInt_inj, inR_toInt hx, inR_toInt hy]
theorem inR_of (x : Int32) : inR x.toInt := ⟨by have := x.le_toInt; omega, by have := x.toInt_lt; omega⟩
theorem ofI0 : Int32.ofInt 0 = 0 := rfl
theorem inR0 : inR 0 := by unfold inR; omega
theorem inR_vp {x : Int} {n : Nat} (hn : n < 2 ^ 31) (h1 : 0 ≤ x) (h2 : x < n) : vp_in (Int32.ofInt x) n := by
  have hr : inR x := by unfold inR; omega
  rw [vp_in_iff, inR_toInt hr]
  exact ⟨h1, h2⟩
def tv (E : Ex) : Vl → Value
  | .inl x => .int (Int32.ofInt x)
  | .inr k => .ref (eA E k)
theorem tv_cat (E : Ex) (v : Vl) : (tv E v).category = 1 := by cases v <;> rfl
theorem tv_sum (E : Ex) : ∀ st : List Vl, ((st.map (tv E)).map fun v => v.category).sum = st.length
  | [] => rfl
  | a :: t => by rw [List.map_cons, List.map_cons, List.sum_cons, tv_sum E t, tv_cat, List.length_cons]; omega
def LcS (E : Ex) (lsA : Array Slot) (n : Nat) (ls : List (Option Vl)) : Prop := lsA.size = n ∧ lv_wf lsA ∧ ∀ (i : Nat) (v : Vl), ls[i]? = some (some v) → lsA[i]? = some (.val (tv E v))
def lsP (E : Ex) (ls : List (Option Vl)) : List (Nat × Value) := (List.range ls.length).filterMap (fun i => match ls[i]? with | some (some v) => some (i, tv E v) | _ => none)
theorem lsP_mem {E : Ex} {ls : List (Option Vl)} {q : Nat × Value} : q ∈ lsP E ls ↔ ∃ v, ls[q.1]? = some (some v) ∧ q.2 = tv E v := by
  unfold lsP
  rw [List.mem_filterMap]
  constructor
  · rintro ⟨i, hi, h⟩
    split at h
    · next v hv =>
      cases h
      exact ⟨v, hv, rfl⟩
    · cases h
  · rintro ⟨v, h1, h2⟩
    refine ⟨q.1, ?_, ?_⟩
    · rw [List.mem_range]
      exact (List.getElem?_eq_some_iff.mp h1).1
    · rw [h1]
      show some (q.1, tv E v) = some q
      rw [← h2]
theorem LcS.has {E : Ex} {lsA : Array Slot} {n : Nat} {ls : List (Option Vl)} (h : LcS E lsA n ls) : lv_has lsA n (lsP E ls) := by
  refine ⟨h.1, h.2.1, fun q hq => ?_⟩
  obtain ⟨v, h1, h2⟩ := lsP_mem.mp hq
  rw [h2]
  exact h.2.2 q.1 v h1
theorem LcS.set {E : Ex} {lsA : Array Slot} {n i : Nat} {ls : List (Option Vl)} {v : Vl} {w : Value} (hw : w = tv E v) (h : lv_has lsA n ((i, w) :: (lsP E ls).filter (fun q => !(q.1 == i) && !(q.1 + 1 == i && q.2.category == 2)))) : LcS E lsA n (ls.set i (some v)) := by
  subst hw
  refine ⟨h.1, h.2.1, fun j u hj => ?_⟩
  by_cases hij : j = i
  · subst hij
    have hl := (List.getElem?_eq_some_iff.mp hj).1
    rw [List.length_set] at hl
    rw [List.getElem?_set_self hl] at hj
    cases hj
    exact h.2.2 (j, tv E v) List.mem_cons_self
  · rw [List.getElem?_set_ne (Ne.symm hij)] at hj
    refine h.2.2 (j, tv E u) (List.mem_cons_of_mem _ (List.mem_filter.mpr ⟨lsP_mem.mpr ⟨u, hj, rfl⟩, ?_⟩))
    simp [hij, tv_cat]
def en0 (n : Nat) (as : List Vl) : List (Option Vl) := as.map some ++ List.replicate (n - as.length) none
theorem args_mem (E : Ex) : ∀ (as : List Vl) (i0 j : Nat) (v : Vl), as[j]? = some v → (i0 + j, tv E v) ∈ lv_args i0 (as.map (tv E))
  | [], _, _, _, h => by simp at h
  | a :: t, i0, 0, v, h => by
    simp only [List.getElem?_cons_zero, Option.some.injEq] at h
    subst h
    exact List.mem_cons_self
  | a :: t, i0, j + 1, v, h => by
    rw [List.getElem?_cons_succ] at h
    rw [List.map_cons, lv_args, if_neg (by rw [tv_cat]; decide)]
    refine List.mem_cons_of_mem _ ?_
    have := args_mem E t (i0 + 1) j v h
    rwa [show i0 + 1 + j = i0 + (j + 1) by omega] at this
theorem sl_len (E : Ex) : ∀ as : List Vl, (lg_sl (as.map (tv E))).length = as.length
  | [] => rfl
  | a :: t => by
    have := sl_len E t
    simp only [lg_sl, List.map_cons, List.flatMap_cons, tv_cat, List.length_append, List.length_cons] at this ⊢
    rw [if_neg (by decide)]
    simp only [List.length_cons, List.length_nil]
    omega
theorem LcS.entry (E : Ex) {as : List Vl} {n : Nat} (h : as.length ≤ n) : LcS E ((lg_sl (as.map (tv E)) ++ List.replicate (n - (lg_sl (as.map (tv E))).length) Slot.unset).toArray) n (en0 n as) := by
  have hl := lv_entry (as.map (tv E)) (n := n) (by rw [sl_len]; exact h)
  refine ⟨hl.1, hl.2.1, fun i v hi => ?_⟩
  unfold en0 at hi
  have hlt : i < as.length := by
    rcases Nat.lt_or_ge i as.length with q | q
    · exact q
    · rw [List.getElem?_append_right (by simpa using q)] at hi
      have := List.mem_of_getElem? hi
      rw [List.mem_replicate] at this
      exact absurd this.2 (by simp)
  rw [List.getElem?_append_left (by simpa using hlt), List.getElem?_map] at hi
  have hv : as[i]? = some v := by
    cases hq : as[i]? with
    | none => rw [hq] at hi; cases hi
    | some u => rw [hq] at hi; simpa using hi
  have := hl.2.2 _ (args_mem E as 0 i v hv)
  simpa using this
