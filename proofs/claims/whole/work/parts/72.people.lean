/-! A court is read: the people. -/
def pcI (v : CV) : Prop := v 0 0 = 1 ∧ (1 ≤ v 0 2 ∧ v 0 2 ≤ 4) ∧ (0 ≤ v 0 3 ∧ v 0 3 ≤ 30) ∧ (0 ≤ v 0 1 ∧ v 0 1 ≤ 6) ∧ v 0 4 = 0 ∧ v 0 5 = 0 ∧ oOK v ∧ (∀ i, v 8 i = -1000000) ∧ ∀ p, 0 ≤ p → p < v 0 1 → pOK v p
def pdR (v : CV) (d : Int → Int) (p : Int) : Prop := d (13 + 13 * p + 0) = v 3 p ∧ d (13 + 13 * p + 1) = v 6 p ∧ d (13 + 13 * p + 2) = v 7 p ∧ d (13 + 13 * p + 3) = v 4 p ∧ (∀ i, 0 ≤ i → i < v 4 p → d (13 + 13 * p + (4 + i)) = v 5 (p * 4 + i)) ∧ d (13 + 13 * p + 8) = 0 ∧ d (13 + 13 * p + 9) = 0 ∧ d (13 + 13 * p + 10) = -1000000 ∧ d (13 + 13 * p + 11) = -1000000 ∧ d (13 + 13 * p + 12) = -1000000
def pdI (v : CV) (d : Int → Int) : Prop := d 0 = v 0 2 ∧ d 1 = v 0 3 ∧ d 2 = v 0 1 ∧ d 3 = 0 ∧ d 4 = 0 ∧ (∀ i, 0 ≤ i → i < 8 → d (5 + i) = v 1 i) ∧ (∀ p, 0 ≤ p → p < v 0 1 → pdR v d p) ∧ ∀ i, 0 ≤ i → i < 91 → -2000000 ≤ d i ∧ d i ≤ 2000000
theorem ct_new {v : CV} {d a : Int → Int} (hc : pcI v) (hd : pdI v d) (ha : ∀ i, 0 ≤ i → i < 91 → a i = d i) (hg : RgA a) : CtOK v a := by
  obtain ⟨c0, c2, c3, c1, c4, c5, co, c8, cp⟩ := hc
  obtain ⟨d0, d1, d2, d3, d4, d5, dp, -⟩ := hd
  have st : ∀ p, 0 ≤ p → p < v 0 1 → cState v p (v 0 4) = 0 := fun p p0 p1 => by
    have := (cp p p0 p1).2.2.2.1
    unfold cState
    rw [if_pos (c8 p), if_pos (by omega)]
  have rel : Rel v a := by
    refine ⟨⟨?_, ?_, ?_, ?_, ?_, fun i i0 i1 => ?_, fun p p0 p1 => ?_⟩, ⟨Or.inr ⟨c0, c2, co⟩, c1, c3, by omega, by omega, cp⟩, hg, fun p _ _ => Or.inl (c8 p)⟩
    · rw [ha 0 (by decide) (by decide)]; exact d0
    · rw [ha 1 (by decide) (by decide)]; exact d1
    · rw [ha 2 (by decide) (by decide)]; exact d2
    · rw [ha 3 (by decide) (by decide), d3, c4]
    · rw [ha 4 (by decide) (by decide), d4, c5]
    · rw [ha _ (by omega) (by omega)]; exact d5 i i0 i1
    · obtain ⟨e0, e1, e2, e3, e4, e8, e9, e10, e11, e12⟩ := dp p p0 p1
      have l4 := (cp p p0 p1).2.1
      refine ⟨?_, ?_, ?_, ?_, fun i i0 i1 => ?_, ?_, ?_, ?_, ?_, ?_⟩
      · rw [ha _ (by omega) (by omega)]; exact e0
      · rw [ha _ (by omega) (by omega)]; exact e1
      · rw [ha _ (by omega) (by omega)]; exact e2
      · rw [ha _ (by omega) (by omega)]; exact e3
      · rw [ha _ (by omega) (by omega)]; exact e4 i i0 i1
      · rw [ha _ (by omega) (by omega), e8, st p p0 p1]
      · rw [ha _ (by omega) (by omega), e9, st p p0 p1]; rfl
      · rw [ha _ (by omega) (by omega), e10, c8 p]
      · rw [ha _ (by omega) (by omega), e11, st p p0 p1]; rfl
      · rw [ha _ (by omega) (by omega), e12, st p p0 p1]; rfl
  refine ⟨rel, ?_, by omega⟩
  have : sv v (v 0 4) ≤ cntI (fun _ => false) (v 0 1) := cntI_le c1.1 (fun p _ _ hp => by have := (of_decide_eq_true hp).1; exact absurd (c8 p) this)
  have z : cntI (fun _ => false) (v 0 1) ≤ 0 := by
    have h := foldI_inv (g := fun (_ : Int) (a : Int) => a + bi false) (a := (0 : Int)) (I := fun _ a => a ≤ 0) (N := v 0 1) (Int.le_refl 0) (fun p x _ _ hx => by show x + 0 ≤ 0; omega) (v 0 1) c1.1 (Int.le_refl _)
    exact h
  omega
