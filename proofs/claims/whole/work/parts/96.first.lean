/-! The first memory, and the cells behind the constructors. -/
def mu0 : Mem := fun k i => if k = 84 then (if i < 8 then -1000000 else 0) else if 47 ≤ k ∧ k ≤ 62 ∧ k % 2 = 1 then (if i = 2 then -1 else 0) else 0
theorem mu0_0 {k : Nat} {i : Int} (h : k < 47 ∨ (62 < k ∧ k ≠ 84)) : mu0 k i = 0 := by
  unfold mu0
  rw [if_neg (by omega), if_neg (by omega)]
theorem CtOK_0 {v : CV} {a : Int → Int} (hv : ∀ (j : Nat) (i : Int), j < 10 → v j i = 0) (ha : ∀ i, a i = 0) : CtOK v a := by
  have v1 := hv 0 1 (by decide)
  have v2 := hv 0 2 (by decide)
  have v3 := hv 0 3 (by decide)
  have v4 := hv 0 4 (by decide)
  have v5 := hv 0 5 (by decide)
  refine ⟨⟨⟨by rw [ha, v2], by rw [ha, v3], by rw [ha, v1], by rw [ha, v4], by rw [ha, v5], fun i _ _ => by rw [ha, hv 1 i (by decide)], fun p p0 p1 => absurd p1 (by omega)⟩, ⟨Or.inl ⟨hv 0 0 (by decide), v1, v2, v3, v4, v5⟩, by omega, by omega, by omega, by omega, fun p p0 p1 => absurd p1 (by omega)⟩, fun i => by rw [ha]; omega, fun p p0 p1 => absurd p1 (by omega)⟩, ?_, by omega⟩
  unfold sv
  rw [v1, v2, cntI_0]
  exact Int.le_refl 0
theorem Inv_0 : Inv mu0 := by
  have z : ∀ {k : Nat} (i : Int), k < 47 ∨ (62 < k ∧ k ≠ 84) → mu0 k i = 0 := fun i h => mu0_0 h
  have rg : ∀ c : Nat, (c + 10 ≤ 47 ∨ (62 < c ∧ c + 10 ≤ 84)) → RgC mu0 c := fun c hc j i hj => by rw [z i (by omega)]; omega
  refine ⟨fun i i0 i1 => Or.inl ?_, ⟨?_, ?_, fun j j0 j1 => ?_⟩, ⟨⟨?_, ?_⟩, ?_, ?_⟩, ⟨?_, ?_, fun j j0 j1 => ?_⟩, CtOK_0 (fun j i hj => z i (by omega)) (fun i => z i (by omega)), fun k k0 k1 => Or.inl ?_, ⟨?_, ?_, ?_, fun _ => cv mu0 4, eqv.rf, fun j j0 j1 => ?_⟩, rg 4 (by omega), rg 14 (by omega), rg 31 (by omega), rg 63 (by omega), rg 73 (by omega), fun i => by rw [z i (by omega)]; omega, fun i => by rw [z i (by omega)]; omega⟩
  · have e : (rw i : Nat) = 47 + 2 * i.toNat := rfl
    unfold mu0
    rw [e, if_neg (by omega), if_pos (by omega), if_pos rfl, if_pos rfl, if_pos (by omega)]
    exact ⟨rfl, rfl⟩
  · rw [z 1 (by omega), z 6 (by omega)]
  · rw [z 1 (by omega)]; omega
  · rw [z 1 (by omega)] at j1; omega
  · rw [z 9 (by omega), z 7 (by omega)]
  · rw [z 9 (by omega)]; omega
  · rw [z 10 (by omega), z 4 (by omega)]
  · rw [z 10 (by omega)]; omega
  · rw [z 1 (by omega), z 21 (by omega)]
  · rw [z 1 (by omega)]; omega
  · rw [z 1 (by omega)] at j1; omega
  · have e : (im k : Nat) = 63 + 10 * k.toNat := rfl
    rw [e]
    exact ⟨z k (by omega), z 0 (by omega)⟩
  · rw [z 4 (by omega)]; omega
  · rw [z 5 (by omega)]; omega
  · rw [z 17 (by omega), z 5 (by omega)]
  · rw [z 5 (by omega)] at j1; omega
def aF (q0 : Nat) (b : Nat → Nat) (q8 : Nat) (b8 t : Nat → Nat) : Nat → Nat := fun k => if k = 0 then q0 else if k < 83 then b (k - 1) else if k = 83 then q8 else if k < 100 then b8 (k - 84) else t (k - 100)
def LF (K : Nat → ClassId) (q0 : Nat) (b : Nat → Nat) (q8 : Nat) (b8 : Nat → Nat) : va_W := (q0, .inr (7, fX7 b)) :: (kX7 K b ++ ((q8, .inr (8, fX8 b8)) :: kX8 K b8))
abbrev E0 (l : Launch) (sz q0 : Nat) (b : Nat → Nat) (q8 : Nat) (b8 t : Nat → Nat) (D : va_G) (K : Nat → ClassId) (ro : Nat → Nat → Int) (L : Nat) : Ex := (l, sz, aF q0 b q8 b8 t, D, K, ro, L)
section P96
variable {l : Launch} {sz q0 : Nat} {b : Nat → Nat} {q8 : Nat} {b8 t : Nat → Nat} {D : va_G} {K : Nat → ClassId} {ro : Nat → Nat → Int} {L : Nat}
theorem lane_f : laneF = fun j : Nat => Int32.ofInt (mu0 84 (j : Int)) := by
  funext j
  rcases (show j = 0 ∨ j = 1 ∨ j = 2 ∨ j = 3 ∨ j = 4 ∨ j = 5 ∨ j = 6 ∨ j = 7 ∨ 8 ≤ j by omega) with q | q | q | q | q | q | q | q | q
  all_goals (try (subst q; rfl))
  have e : mu0 84 (j : Int) = 0 := by
    unfold mu0
    rw [if_pos rfl, if_neg (by omega)]
  rw [e]
  unfold laneF upd
  have c0 : (0 : Int32).toNatClampNeg = 0 := by decide
  have c1 : (1 : Int32).toNatClampNeg = 1 := by decide
  have c2 : (2 : Int32).toNatClampNeg = 2 := by decide
  have c3 : (3 : Int32).toNatClampNeg = 3 := by decide
  have c4 : (4 : Int32).toNatClampNeg = 4 := by decide
  have c5 : (5 : Int32).toNatClampNeg = 5 := by decide
  have c6 : (6 : Int32).toNatClampNeg = 6 := by decide
  have c7 : (7 : Int32).toNatClampNeg = 7 := by decide
  rw [c0, c1, c2, c3, c4, c5, c6, c7]
  rw [if_neg (by omega), if_neg (by omega), if_neg (by omega), if_neg (by omega), if_neg (by omega), if_neg (by omega), if_neg (by omega), if_neg (by omega)]
  rfl
theorem rows_f : rowsF b = fun j : Nat => (([47, 49, 51, 53, 55, 57, 59, 61] : List Nat)[j]?).map (aF q0 b q8 b8 t) := by
  funext j
  rcases (show j = 0 ∨ j = 1 ∨ j = 2 ∨ j = 3 ∨ j = 4 ∨ j = 5 ∨ j = 6 ∨ j = 7 ∨ 8 ≤ j by omega) with q | q | q | q | q | q | q | q | q
  all_goals (try (subst q; rfl))
  rw [List.getElem?_eq_none (by simpa using q)]
  unfold rowsF va_up
  have c0 : (0 : Int32).toNatClampNeg = 0 := by decide
  have c1 : (1 : Int32).toNatClampNeg = 1 := by decide
  have c2 : (2 : Int32).toNatClampNeg = 2 := by decide
  have c3 : (3 : Int32).toNatClampNeg = 3 := by decide
  have c4 : (4 : Int32).toNatClampNeg = 4 := by decide
  have c5 : (5 : Int32).toNatClampNeg = 5 := by decide
  have c6 : (6 : Int32).toNatClampNeg = 6 := by decide
  have c7 : (7 : Int32).toNatClampNeg = 7 := by decide
  rw [c0, c1, c2, c3, c4, c5, c6, c7]
  rw [if_neg (by omega), if_neg (by omega), if_neg (by omega), if_neg (by omega), if_neg (by omega), if_neg (by omega), if_neg (by omega), if_neg (by omega)]
  rfl
theorem imgs_f : imgsF b = fun j : Nat => (([63, 73] : List Nat)[j]?).map (aF q0 b q8 b8 t) := by
  funext j
  rcases (show j = 0 ∨ j = 1 ∨ 2 ≤ j by omega) with q | q | q
  all_goals (try (subst q; rfl))
  rw [List.getElem?_eq_none (by simpa using q)]
  unfold imgsF va_up
  have c0 : (0 : Int32).toNatClampNeg = 0 := by decide
  have c1 : (1 : Int32).toNatClampNeg = 1 := by decide
  rw [c0, c1]
  rw [if_neg (by omega), if_neg (by omega)]
  rfl
theorem la_0 : (LF K q0 b q8 b8)[0]? = some (eA (E0 l sz q0 b q8 b8 t D K ro L) 0, ent (E0 l sz q0 b q8 b8 t D K ro L) mu0 0) := rfl
theorem la_1 : (LF K q0 b q8 b8)[1]? = some (eA (E0 l sz q0 b q8 b8 t D K ro L) 1, ent (E0 l sz q0 b q8 b8 t D K ro L) mu0 1) := by
  show some (b 0, (.inl (K 2, 8, .inr (.inr (.inr (.inr (rowsF b))))) : va_E)) = _
  rw [rows_f (q0 := q0) (q8 := q8) (b8 := b8) (t := t)]; rfl
theorem la_2 : (LF K q0 b q8 b8)[2]? = some (eA (E0 l sz q0 b q8 b8 t D K ro L) 2, ent (E0 l sz q0 b q8 b8 t D K ro L) mu0 2) := rfl
theorem la_3 : (LF K q0 b q8 b8)[3]? = some (eA (E0 l sz q0 b q8 b8 t D K ro L) 3, ent (E0 l sz q0 b q8 b8 t D K ro L) mu0 3) := rfl
theorem la_4 : (LF K q0 b q8 b8)[4]? = some (eA (E0 l sz q0 b q8 b8 t D K ro L) 4, ent (E0 l sz q0 b q8 b8 t D K ro L) mu0 4) := rfl
theorem la_5 : (LF K q0 b q8 b8)[5]? = some (eA (E0 l sz q0 b q8 b8 t D K ro L) 5, ent (E0 l sz q0 b q8 b8 t D K ro L) mu0 5) := rfl
theorem la_6 : (LF K q0 b q8 b8)[6]? = some (eA (E0 l sz q0 b q8 b8 t D K ro L) 6, ent (E0 l sz q0 b q8 b8 t D K ro L) mu0 6) := rfl
theorem la_7 : (LF K q0 b q8 b8)[7]? = some (eA (E0 l sz q0 b q8 b8 t D K ro L) 7, ent (E0 l sz q0 b q8 b8 t D K ro L) mu0 7) := rfl
theorem la_8 : (LF K q0 b q8 b8)[8]? = some (eA (E0 l sz q0 b q8 b8 t D K ro L) 8, ent (E0 l sz q0 b q8 b8 t D K ro L) mu0 8) := rfl
theorem la_9 : (LF K q0 b q8 b8)[9]? = some (eA (E0 l sz q0 b q8 b8 t D K ro L) 9, ent (E0 l sz q0 b q8 b8 t D K ro L) mu0 9) := rfl
theorem la_10 : (LF K q0 b q8 b8)[10]? = some (eA (E0 l sz q0 b q8 b8 t D K ro L) 10, ent (E0 l sz q0 b q8 b8 t D K ro L) mu0 10) := rfl
theorem la_11 : (LF K q0 b q8 b8)[11]? = some (eA (E0 l sz q0 b q8 b8 t D K ro L) 11, ent (E0 l sz q0 b q8 b8 t D K ro L) mu0 11) := rfl
theorem la_12 : (LF K q0 b q8 b8)[12]? = some (eA (E0 l sz q0 b q8 b8 t D K ro L) 12, ent (E0 l sz q0 b q8 b8 t D K ro L) mu0 12) := rfl
theorem la_13 : (LF K q0 b q8 b8)[13]? = some (eA (E0 l sz q0 b q8 b8 t D K ro L) 13, ent (E0 l sz q0 b q8 b8 t D K ro L) mu0 13) := rfl
theorem la_14 : (LF K q0 b q8 b8)[14]? = some (eA (E0 l sz q0 b q8 b8 t D K ro L) 14, ent (E0 l sz q0 b q8 b8 t D K ro L) mu0 14) := rfl
theorem la_15 : (LF K q0 b q8 b8)[15]? = some (eA (E0 l sz q0 b q8 b8 t D K ro L) 15, ent (E0 l sz q0 b q8 b8 t D K ro L) mu0 15) := rfl
theorem la_16 : (LF K q0 b q8 b8)[16]? = some (eA (E0 l sz q0 b q8 b8 t D K ro L) 16, ent (E0 l sz q0 b q8 b8 t D K ro L) mu0 16) := rfl
theorem la_17 : (LF K q0 b q8 b8)[17]? = some (eA (E0 l sz q0 b q8 b8 t D K ro L) 17, ent (E0 l sz q0 b q8 b8 t D K ro L) mu0 17) := rfl
theorem la_18 : (LF K q0 b q8 b8)[18]? = some (eA (E0 l sz q0 b q8 b8 t D K ro L) 18, ent (E0 l sz q0 b q8 b8 t D K ro L) mu0 18) := rfl
theorem la_19 : (LF K q0 b q8 b8)[19]? = some (eA (E0 l sz q0 b q8 b8 t D K ro L) 19, ent (E0 l sz q0 b q8 b8 t D K ro L) mu0 19) := rfl
theorem la_20 : (LF K q0 b q8 b8)[20]? = some (eA (E0 l sz q0 b q8 b8 t D K ro L) 20, ent (E0 l sz q0 b q8 b8 t D K ro L) mu0 20) := rfl
theorem la_21 : (LF K q0 b q8 b8)[21]? = some (eA (E0 l sz q0 b q8 b8 t D K ro L) 21, ent (E0 l sz q0 b q8 b8 t D K ro L) mu0 21) := rfl
theorem la_22 : (LF K q0 b q8 b8)[22]? = some (eA (E0 l sz q0 b q8 b8 t D K ro L) 22, ent (E0 l sz q0 b q8 b8 t D K ro L) mu0 22) := rfl
theorem la_23 : (LF K q0 b q8 b8)[23]? = some (eA (E0 l sz q0 b q8 b8 t D K ro L) 23, ent (E0 l sz q0 b q8 b8 t D K ro L) mu0 23) := rfl
theorem la_24 : (LF K q0 b q8 b8)[24]? = some (eA (E0 l sz q0 b q8 b8 t D K ro L) 24, ent (E0 l sz q0 b q8 b8 t D K ro L) mu0 24) := by
  show some (b 23, (.inl (K 3, 2, .inr (.inr (.inr (.inr (imgsF b))))) : va_E)) = _
  rw [imgs_f (q0 := q0) (q8 := q8) (b8 := b8) (t := t)]; rfl
theorem la_25 : (LF K q0 b q8 b8)[25]? = some (eA (E0 l sz q0 b q8 b8 t D K ro L) 25, ent (E0 l sz q0 b q8 b8 t D K ro L) mu0 25) := rfl
theorem la_26 : (LF K q0 b q8 b8)[26]? = some (eA (E0 l sz q0 b q8 b8 t D K ro L) 26, ent (E0 l sz q0 b q8 b8 t D K ro L) mu0 26) := rfl
theorem la_27 : (LF K q0 b q8 b8)[27]? = some (eA (E0 l sz q0 b q8 b8 t D K ro L) 27, ent (E0 l sz q0 b q8 b8 t D K ro L) mu0 27) := rfl
theorem la_28 : (LF K q0 b q8 b8)[28]? = some (eA (E0 l sz q0 b q8 b8 t D K ro L) 28, ent (E0 l sz q0 b q8 b8 t D K ro L) mu0 28) := rfl
theorem la_29 : (LF K q0 b q8 b8)[29]? = some (eA (E0 l sz q0 b q8 b8 t D K ro L) 29, ent (E0 l sz q0 b q8 b8 t D K ro L) mu0 29) := rfl
theorem la_30 : (LF K q0 b q8 b8)[30]? = some (eA (E0 l sz q0 b q8 b8 t D K ro L) 30, ent (E0 l sz q0 b q8 b8 t D K ro L) mu0 30) := rfl
theorem la_31 : (LF K q0 b q8 b8)[31]? = some (eA (E0 l sz q0 b q8 b8 t D K ro L) 31, ent (E0 l sz q0 b q8 b8 t D K ro L) mu0 31) := rfl
theorem la_32 : (LF K q0 b q8 b8)[32]? = some (eA (E0 l sz q0 b q8 b8 t D K ro L) 32, ent (E0 l sz q0 b q8 b8 t D K ro L) mu0 32) := rfl
theorem la_33 : (LF K q0 b q8 b8)[33]? = some (eA (E0 l sz q0 b q8 b8 t D K ro L) 33, ent (E0 l sz q0 b q8 b8 t D K ro L) mu0 33) := rfl
theorem la_34 : (LF K q0 b q8 b8)[34]? = some (eA (E0 l sz q0 b q8 b8 t D K ro L) 34, ent (E0 l sz q0 b q8 b8 t D K ro L) mu0 34) := rfl
theorem la_35 : (LF K q0 b q8 b8)[35]? = some (eA (E0 l sz q0 b q8 b8 t D K ro L) 35, ent (E0 l sz q0 b q8 b8 t D K ro L) mu0 35) := rfl
theorem la_36 : (LF K q0 b q8 b8)[36]? = some (eA (E0 l sz q0 b q8 b8 t D K ro L) 36, ent (E0 l sz q0 b q8 b8 t D K ro L) mu0 36) := rfl
theorem la_37 : (LF K q0 b q8 b8)[37]? = some (eA (E0 l sz q0 b q8 b8 t D K ro L) 37, ent (E0 l sz q0 b q8 b8 t D K ro L) mu0 37) := rfl
theorem la_38 : (LF K q0 b q8 b8)[38]? = some (eA (E0 l sz q0 b q8 b8 t D K ro L) 38, ent (E0 l sz q0 b q8 b8 t D K ro L) mu0 38) := rfl
theorem la_39 : (LF K q0 b q8 b8)[39]? = some (eA (E0 l sz q0 b q8 b8 t D K ro L) 39, ent (E0 l sz q0 b q8 b8 t D K ro L) mu0 39) := rfl
theorem la_40 : (LF K q0 b q8 b8)[40]? = some (eA (E0 l sz q0 b q8 b8 t D K ro L) 40, ent (E0 l sz q0 b q8 b8 t D K ro L) mu0 40) := rfl
theorem la_41 : (LF K q0 b q8 b8)[41]? = some (eA (E0 l sz q0 b q8 b8 t D K ro L) 41, ent (E0 l sz q0 b q8 b8 t D K ro L) mu0 41) := rfl
theorem la_42 : (LF K q0 b q8 b8)[42]? = some (eA (E0 l sz q0 b q8 b8 t D K ro L) 42, ent (E0 l sz q0 b q8 b8 t D K ro L) mu0 42) := rfl
theorem la_43 : (LF K q0 b q8 b8)[43]? = some (eA (E0 l sz q0 b q8 b8 t D K ro L) 43, ent (E0 l sz q0 b q8 b8 t D K ro L) mu0 43) := rfl
theorem la_44 : (LF K q0 b q8 b8)[44]? = some (eA (E0 l sz q0 b q8 b8 t D K ro L) 44, ent (E0 l sz q0 b q8 b8 t D K ro L) mu0 44) := rfl
theorem la_45 : (LF K q0 b q8 b8)[45]? = some (eA (E0 l sz q0 b q8 b8 t D K ro L) 45, ent (E0 l sz q0 b q8 b8 t D K ro L) mu0 45) := rfl
theorem la_46 : (LF K q0 b q8 b8)[46]? = some (eA (E0 l sz q0 b q8 b8 t D K ro L) 46, ent (E0 l sz q0 b q8 b8 t D K ro L) mu0 46) := rfl
theorem la_47 : (LF K q0 b q8 b8)[47]? = some (eA (E0 l sz q0 b q8 b8 t D K ro L) 47, ent (E0 l sz q0 b q8 b8 t D K ro L) mu0 47) := rfl
theorem la_48 : (LF K q0 b q8 b8)[48]? = some (eA (E0 l sz q0 b q8 b8 t D K ro L) 48, ent (E0 l sz q0 b q8 b8 t D K ro L) mu0 48) := rfl
theorem la_49 : (LF K q0 b q8 b8)[49]? = some (eA (E0 l sz q0 b q8 b8 t D K ro L) 49, ent (E0 l sz q0 b q8 b8 t D K ro L) mu0 49) := rfl
theorem la_50 : (LF K q0 b q8 b8)[50]? = some (eA (E0 l sz q0 b q8 b8 t D K ro L) 50, ent (E0 l sz q0 b q8 b8 t D K ro L) mu0 50) := rfl
theorem la_51 : (LF K q0 b q8 b8)[51]? = some (eA (E0 l sz q0 b q8 b8 t D K ro L) 51, ent (E0 l sz q0 b q8 b8 t D K ro L) mu0 51) := rfl
theorem la_52 : (LF K q0 b q8 b8)[52]? = some (eA (E0 l sz q0 b q8 b8 t D K ro L) 52, ent (E0 l sz q0 b q8 b8 t D K ro L) mu0 52) := rfl
theorem la_53 : (LF K q0 b q8 b8)[53]? = some (eA (E0 l sz q0 b q8 b8 t D K ro L) 53, ent (E0 l sz q0 b q8 b8 t D K ro L) mu0 53) := rfl
theorem la_54 : (LF K q0 b q8 b8)[54]? = some (eA (E0 l sz q0 b q8 b8 t D K ro L) 54, ent (E0 l sz q0 b q8 b8 t D K ro L) mu0 54) := rfl
theorem la_55 : (LF K q0 b q8 b8)[55]? = some (eA (E0 l sz q0 b q8 b8 t D K ro L) 55, ent (E0 l sz q0 b q8 b8 t D K ro L) mu0 55) := rfl
theorem la_56 : (LF K q0 b q8 b8)[56]? = some (eA (E0 l sz q0 b q8 b8 t D K ro L) 56, ent (E0 l sz q0 b q8 b8 t D K ro L) mu0 56) := rfl
theorem la_57 : (LF K q0 b q8 b8)[57]? = some (eA (E0 l sz q0 b q8 b8 t D K ro L) 57, ent (E0 l sz q0 b q8 b8 t D K ro L) mu0 57) := rfl
theorem la_58 : (LF K q0 b q8 b8)[58]? = some (eA (E0 l sz q0 b q8 b8 t D K ro L) 58, ent (E0 l sz q0 b q8 b8 t D K ro L) mu0 58) := rfl
theorem la_59 : (LF K q0 b q8 b8)[59]? = some (eA (E0 l sz q0 b q8 b8 t D K ro L) 59, ent (E0 l sz q0 b q8 b8 t D K ro L) mu0 59) := rfl
theorem la_60 : (LF K q0 b q8 b8)[60]? = some (eA (E0 l sz q0 b q8 b8 t D K ro L) 60, ent (E0 l sz q0 b q8 b8 t D K ro L) mu0 60) := rfl
theorem la_61 : (LF K q0 b q8 b8)[61]? = some (eA (E0 l sz q0 b q8 b8 t D K ro L) 61, ent (E0 l sz q0 b q8 b8 t D K ro L) mu0 61) := rfl
theorem la_62 : (LF K q0 b q8 b8)[62]? = some (eA (E0 l sz q0 b q8 b8 t D K ro L) 62, ent (E0 l sz q0 b q8 b8 t D K ro L) mu0 62) := rfl
theorem la_63 : (LF K q0 b q8 b8)[63]? = some (eA (E0 l sz q0 b q8 b8 t D K ro L) 63, ent (E0 l sz q0 b q8 b8 t D K ro L) mu0 63) := rfl
theorem la_64 : (LF K q0 b q8 b8)[64]? = some (eA (E0 l sz q0 b q8 b8 t D K ro L) 64, ent (E0 l sz q0 b q8 b8 t D K ro L) mu0 64) := rfl
theorem la_65 : (LF K q0 b q8 b8)[65]? = some (eA (E0 l sz q0 b q8 b8 t D K ro L) 65, ent (E0 l sz q0 b q8 b8 t D K ro L) mu0 65) := rfl
theorem la_66 : (LF K q0 b q8 b8)[66]? = some (eA (E0 l sz q0 b q8 b8 t D K ro L) 66, ent (E0 l sz q0 b q8 b8 t D K ro L) mu0 66) := rfl
theorem la_67 : (LF K q0 b q8 b8)[67]? = some (eA (E0 l sz q0 b q8 b8 t D K ro L) 67, ent (E0 l sz q0 b q8 b8 t D K ro L) mu0 67) := rfl
theorem la_68 : (LF K q0 b q8 b8)[68]? = some (eA (E0 l sz q0 b q8 b8 t D K ro L) 68, ent (E0 l sz q0 b q8 b8 t D K ro L) mu0 68) := rfl
theorem la_69 : (LF K q0 b q8 b8)[69]? = some (eA (E0 l sz q0 b q8 b8 t D K ro L) 69, ent (E0 l sz q0 b q8 b8 t D K ro L) mu0 69) := rfl
theorem la_70 : (LF K q0 b q8 b8)[70]? = some (eA (E0 l sz q0 b q8 b8 t D K ro L) 70, ent (E0 l sz q0 b q8 b8 t D K ro L) mu0 70) := rfl
theorem la_71 : (LF K q0 b q8 b8)[71]? = some (eA (E0 l sz q0 b q8 b8 t D K ro L) 71, ent (E0 l sz q0 b q8 b8 t D K ro L) mu0 71) := rfl
theorem la_72 : (LF K q0 b q8 b8)[72]? = some (eA (E0 l sz q0 b q8 b8 t D K ro L) 72, ent (E0 l sz q0 b q8 b8 t D K ro L) mu0 72) := rfl
theorem la_73 : (LF K q0 b q8 b8)[73]? = some (eA (E0 l sz q0 b q8 b8 t D K ro L) 73, ent (E0 l sz q0 b q8 b8 t D K ro L) mu0 73) := rfl
theorem la_74 : (LF K q0 b q8 b8)[74]? = some (eA (E0 l sz q0 b q8 b8 t D K ro L) 74, ent (E0 l sz q0 b q8 b8 t D K ro L) mu0 74) := rfl
theorem la_75 : (LF K q0 b q8 b8)[75]? = some (eA (E0 l sz q0 b q8 b8 t D K ro L) 75, ent (E0 l sz q0 b q8 b8 t D K ro L) mu0 75) := rfl
theorem la_76 : (LF K q0 b q8 b8)[76]? = some (eA (E0 l sz q0 b q8 b8 t D K ro L) 76, ent (E0 l sz q0 b q8 b8 t D K ro L) mu0 76) := rfl
theorem la_77 : (LF K q0 b q8 b8)[77]? = some (eA (E0 l sz q0 b q8 b8 t D K ro L) 77, ent (E0 l sz q0 b q8 b8 t D K ro L) mu0 77) := rfl
theorem la_78 : (LF K q0 b q8 b8)[78]? = some (eA (E0 l sz q0 b q8 b8 t D K ro L) 78, ent (E0 l sz q0 b q8 b8 t D K ro L) mu0 78) := rfl
theorem la_79 : (LF K q0 b q8 b8)[79]? = some (eA (E0 l sz q0 b q8 b8 t D K ro L) 79, ent (E0 l sz q0 b q8 b8 t D K ro L) mu0 79) := rfl
theorem la_80 : (LF K q0 b q8 b8)[80]? = some (eA (E0 l sz q0 b q8 b8 t D K ro L) 80, ent (E0 l sz q0 b q8 b8 t D K ro L) mu0 80) := rfl
theorem la_81 : (LF K q0 b q8 b8)[81]? = some (eA (E0 l sz q0 b q8 b8 t D K ro L) 81, ent (E0 l sz q0 b q8 b8 t D K ro L) mu0 81) := rfl
theorem la_82 : (LF K q0 b q8 b8)[82]? = some (eA (E0 l sz q0 b q8 b8 t D K ro L) 82, ent (E0 l sz q0 b q8 b8 t D K ro L) mu0 82) := rfl
theorem la_83 : (LF K q0 b q8 b8)[83]? = some (eA (E0 l sz q0 b q8 b8 t D K ro L) 83, ent (E0 l sz q0 b q8 b8 t D K ro L) mu0 83) := rfl
theorem la_84 : (LF K q0 b q8 b8)[84]? = some (eA (E0 l sz q0 b q8 b8 t D K ro L) 84, ent (E0 l sz q0 b q8 b8 t D K ro L) mu0 84) := by
  show some (b8 0, (.inl (K 0, 8, .inl laneF) : va_E)) = _
  rw [lane_f]; rfl
theorem la_85 : (LF K q0 b q8 b8)[85]? = some (eA (E0 l sz q0 b q8 b8 t D K ro L) 85, ent (E0 l sz q0 b q8 b8 t D K ro L) mu0 85) := rfl
theorem la_86 : (LF K q0 b q8 b8)[86]? = some (eA (E0 l sz q0 b q8 b8 t D K ro L) 86, ent (E0 l sz q0 b q8 b8 t D K ro L) mu0 86) := rfl
theorem la_87 : (LF K q0 b q8 b8)[87]? = some (eA (E0 l sz q0 b q8 b8 t D K ro L) 87, ent (E0 l sz q0 b q8 b8 t D K ro L) mu0 87) := rfl
theorem la_88 : (LF K q0 b q8 b8)[88]? = some (eA (E0 l sz q0 b q8 b8 t D K ro L) 88, ent (E0 l sz q0 b q8 b8 t D K ro L) mu0 88) := rfl
theorem la_89 : (LF K q0 b q8 b8)[89]? = some (eA (E0 l sz q0 b q8 b8 t D K ro L) 89, ent (E0 l sz q0 b q8 b8 t D K ro L) mu0 89) := rfl
theorem la_90 : (LF K q0 b q8 b8)[90]? = some (eA (E0 l sz q0 b q8 b8 t D K ro L) 90, ent (E0 l sz q0 b q8 b8 t D K ro L) mu0 90) := rfl
theorem la_91 : (LF K q0 b q8 b8)[91]? = some (eA (E0 l sz q0 b q8 b8 t D K ro L) 91, ent (E0 l sz q0 b q8 b8 t D K ro L) mu0 91) := rfl
theorem la_92 : (LF K q0 b q8 b8)[92]? = some (eA (E0 l sz q0 b q8 b8 t D K ro L) 92, ent (E0 l sz q0 b q8 b8 t D K ro L) mu0 92) := rfl
theorem la_93 : (LF K q0 b q8 b8)[93]? = some (eA (E0 l sz q0 b q8 b8 t D K ro L) 93, ent (E0 l sz q0 b q8 b8 t D K ro L) mu0 93) := rfl
theorem la_94 : (LF K q0 b q8 b8)[94]? = some (eA (E0 l sz q0 b q8 b8 t D K ro L) 94, ent (E0 l sz q0 b q8 b8 t D K ro L) mu0 94) := rfl
theorem la_95 : (LF K q0 b q8 b8)[95]? = some (eA (E0 l sz q0 b q8 b8 t D K ro L) 95, ent (E0 l sz q0 b q8 b8 t D K ro L) mu0 95) := rfl
theorem la_96 : (LF K q0 b q8 b8)[96]? = some (eA (E0 l sz q0 b q8 b8 t D K ro L) 96, ent (E0 l sz q0 b q8 b8 t D K ro L) mu0 96) := rfl
theorem la_97 : (LF K q0 b q8 b8)[97]? = some (eA (E0 l sz q0 b q8 b8 t D K ro L) 97, ent (E0 l sz q0 b q8 b8 t D K ro L) mu0 97) := rfl
theorem la_98 : (LF K q0 b q8 b8)[98]? = some (eA (E0 l sz q0 b q8 b8 t D K ro L) 98, ent (E0 l sz q0 b q8 b8 t D K ro L) mu0 98) := rfl
theorem la_99 : (LF K q0 b q8 b8)[99]? = some (eA (E0 l sz q0 b q8 b8 t D K ro L) 99, ent (E0 l sz q0 b q8 b8 t D K ro L) mu0 99) := rfl
theorem la_all : ∀ k, k < 100 → (LF K q0 b q8 b8)[k]? = some (eA (E0 l sz q0 b q8 b8 t D K ro L) k, ent (E0 l sz q0 b q8 b8 t D K ro L) mu0 k)
  | 0, _ => la_0
  | 1, _ => la_1
  | 2, _ => la_2
  | 3, _ => la_3
  | 4, _ => la_4
  | 5, _ => la_5
  | 6, _ => la_6
  | 7, _ => la_7
  | 8, _ => la_8
  | 9, _ => la_9
  | 10, _ => la_10
  | 11, _ => la_11
  | 12, _ => la_12
  | 13, _ => la_13
  | 14, _ => la_14
  | 15, _ => la_15
  | 16, _ => la_16
  | 17, _ => la_17
  | 18, _ => la_18
  | 19, _ => la_19
  | 20, _ => la_20
  | 21, _ => la_21
  | 22, _ => la_22
  | 23, _ => la_23
  | 24, _ => la_24
  | 25, _ => la_25
  | 26, _ => la_26
  | 27, _ => la_27
  | 28, _ => la_28
  | 29, _ => la_29
  | 30, _ => la_30
  | 31, _ => la_31
  | 32, _ => la_32
  | 33, _ => la_33
  | 34, _ => la_34
  | 35, _ => la_35
  | 36, _ => la_36
  | 37, _ => la_37
  | 38, _ => la_38
  | 39, _ => la_39
  | 40, _ => la_40
  | 41, _ => la_41
  | 42, _ => la_42
  | 43, _ => la_43
  | 44, _ => la_44
  | 45, _ => la_45
  | 46, _ => la_46
  | 47, _ => la_47
  | 48, _ => la_48
  | 49, _ => la_49
  | 50, _ => la_50
  | 51, _ => la_51
  | 52, _ => la_52
  | 53, _ => la_53
  | 54, _ => la_54
  | 55, _ => la_55
  | 56, _ => la_56
  | 57, _ => la_57
  | 58, _ => la_58
  | 59, _ => la_59
  | 60, _ => la_60
  | 61, _ => la_61
  | 62, _ => la_62
  | 63, _ => la_63
  | 64, _ => la_64
  | 65, _ => la_65
  | 66, _ => la_66
  | 67, _ => la_67
  | 68, _ => la_68
  | 69, _ => la_69
  | 70, _ => la_70
  | 71, _ => la_71
  | 72, _ => la_72
  | 73, _ => la_73
  | 74, _ => la_74
  | 75, _ => la_75
  | 76, _ => la_76
  | 77, _ => la_77
  | 78, _ => la_78
  | 79, _ => la_79
  | 80, _ => la_80
  | 81, _ => la_81
  | 82, _ => la_82
  | 83, _ => la_83
  | 84, _ => la_84
  | 85, _ => la_85
  | 86, _ => la_86
  | 87, _ => la_87
  | 88, _ => la_88
  | 89, _ => la_89
  | 90, _ => la_90
  | 91, _ => la_91
  | 92, _ => la_92
  | 93, _ => la_93
  | 94, _ => la_94
  | 95, _ => la_95
  | 96, _ => la_96
  | 97, _ => la_97
  | 98, _ => la_98
  | 99, _ => la_99
  | k + 100, h => absurd h (by omega)
end P96
