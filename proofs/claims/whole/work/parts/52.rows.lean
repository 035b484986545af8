/-! Pairs: rows, tape, kinds, names. -/
theorem rw_ne {i j : Int} (h0 : 0 ≤ i) (h1 : 0 ≤ j) (h : i ≠ j) : rw i ≠ rw j ∧ rw i ≠ rw j + 1 ∧ rw i + 1 ≠ rw j ∧ rw i + 1 ≠ rw j + 1 := by unfold rw; omega
theorem rw_rng {i : Int} (h0 : 0 ≤ i) (h1 : i < 8) : 47 ≤ rw i ∧ rw i ≤ 61 := by unfold rw; omega
theorem IRow.one {μ μ1 : Mem} {x : Int} (hI : IRow μ) (hx : 0 ≤ x) (h1 : ∀ i, 0 ≤ i → i < 8 → i ≠ x → μ1 (rw i) = μ (rw i) ∧ μ1 (rw i + 1) = μ (rw i + 1) ∧ μ1 84 i = μ 84 i ∧ μ1 85 i = μ 85 i ∧ ∀ j, 0 ≤ j → j < 40 → μ1 86 (40 * i + j) = μ 86 (40 * i + j)) (h2 : x < 8 → iRow μ1 x) : IRow μ1 := by
  intro i i0 i1
  by_cases e : i = x
  · subst e; exact h2 i1
  · obtain ⟨a, b, c, d, f⟩ := h1 i i0 i1 e
    have := hI i i0 i1
    unfold iRow at this ⊢
    rw [a, b, c, d]
    rcases this with q | ⟨q1, q2, q3, q4, q5⟩
    · exact Or.inl q
    · exact Or.inr ⟨q1, q2, q3, q4, fun j j0 j1 => by rw [f j j0 j1]; exact q5 j j0 j1⟩
section P52
variable {E : Ex} {μ : Mem} {x1 x2 x3 x4 x5 : Int}
theorem pr_row (hI : Inv μ) (i1 : inR x1) (i2 : inR x2) (i3 : inR x3) : Pair E 1 M_X7_row 2 M_X8_row [.inl x1, .inl x2, .inl x3] μ := by
  have bad : ¬ (0 ≤ x1 ∧ x1 < 8) ∨ ¬ (0 ≤ x2 ∧ x2 < 3) ∨ ¬ x3 ≤ 40 → ∃ r, (some (.inl (-1000001)) : Option Vl) = some (.inl r) ∧ inR r ∧ Cl E 2 M_X8_row [.inr 83, .inl x1, .inl x2, .inl x3] μ (fun w μ2 => w = some (.inl r) ∧ Inv μ2) := by
    intro hb
    refine ⟨_, rfl, by decide, s_X8_row i1 i2 i3 ⟨fun _ => ⟨rfl, hI⟩, fun z => ⟨fun _ => ⟨rfl, hI⟩, fun z2 => ⟨fun z3 => absurd hb (by omega), fun _ => ⟨rfl, hI⟩⟩⟩⟩⟩
  refine s_X7_row i1 i2 i3 ⟨fun z => bad (Or.inl z), fun z1 => ⟨fun z => bad (Or.inr (Or.inl z)), fun z2 => ⟨fun z3 => ⟨fun z4 => ⟨z1, fun _ μ2 h2 μ3 e3 => ⟨_, rfl, i3, ?_⟩⟩, fun z4 μ4 e4 => ⟨_, rfl, by decide, ?_⟩⟩, fun z => bad (Or.inr (Or.inr z))⟩⟩⟩
  · have hr := rw_rng z1.1 z1.2
    obtain ⟨h21, h22, h23, h24⟩ := h2
    refine s_X8_row i1 i2 i3 ⟨fun z => absurd (by omega) z, fun _ => ⟨fun z => absurd (by omega) z, fun _ => ⟨fun _ => ⟨fun _ => ⟨z1, fun μa ea μb eb => ?_⟩, fun z => absurd z4 z⟩, fun z => absurd z3 z⟩⟩⟩
    suffices hh : ∀ μ' : Mem, (∀ k, k ≠ 86 → μ' k = μb k) → (∀ j, 0 ≤ j → j < 0 → μ' 86 (40 * x1 + j) = 0) → (∀ t, (t < 40 * x1 ∨ 40 * x1 + 40 ≤ t) → μ' 86 t = μb 86 t) → Gg E 2 M_X8_row 52 [some (.inr 83), some (.inl x1), some (.inl x2), some (.inl x3), some (.inl 0)] [] μ' (fun w μ2 => w = some (.inl x3) ∧ Inv μ2) from hh μb (fun _ _ => rfl) (fun j a b => by omega) (fun _ _ => rfl)
    refine up_ind (N := 40) (P := fun p => ∀ μ' : Mem, (∀ k, k ≠ 86 → μ' k = μb k) → (∀ j, 0 ≤ j → j < p → μ' 86 (40 * x1 + j) = 0) → (∀ t, (t < 40 * x1 ∨ 40 * x1 + 40 ≤ t) → μ' 86 t = μb 86 t) → Gg E 2 M_X8_row 52 [some (.inr 83), some (.inl x1), some (.inl x2), some (.inl x3), some (.inl p)] [] μ' (fun w μ2 => w = some (.inl x3) ∧ Inv μ2)) 0 (by decide) (fun μ' o1 o2 o3 => ?_) (fun p p0 p1 ih μ' o1 o2 o3 => ?_)
    · refine s_X8_row_52 ⟨by decide, fun _ μc ec => ⟨rfl, ?_⟩, fun z => absurd (Int.le_refl _) z⟩
      have base : ∀ k, k ≠ 0 → k ≠ 83 → k ≠ 84 → k ≠ 85 → k ≠ 86 → k ≠ rw x1 → k ≠ rw x1 + 1 → μc k = μ k := fun k a b c d e f g => by rw [ec, up_ne b, o1 k e, eb, up_ne d, ea, up_ne c, e3, up_ne a, h24 k f g]
      refine hI.rows (fun k a b c d e f g => base k a b d e f (by omega) (by omega)) (fun i hi => ?_) (fun i hi => ?_) (hI.1.one (x := x1) z1.1 (fun i a b c => ?_) (fun _ => Or.inr ⟨?_, ?_, ?_, ?_, fun j j0 j1 => ?_⟩)) ?_
      · rw [ec, up_ne (by decide), o1 0 (by decide), eb, up_ne (by decide), ea, up_ne (by decide), e3, up_off (Or.inr hi), h24 0 (by omega) (by omega)]
      · rw [ec, up_off (Or.inr hi), o1 83 (by decide), eb, up_ne (by decide), ea, up_ne (by decide), e3, up_ne (by decide), h24 83 (by omega) (by omega)]
      · have n := rw_ne a z1.1 c
        have ri := rw_rng a b
        refine ⟨base _ (by omega) (by omega) (by omega) (by omega) (by omega) n.1 n.2.1, base _ (by omega) (by omega) (by omega) (by omega) (by omega) n.2.2.1 n.2.2.2, ?_, ?_, fun j j0 j1 => ?_⟩
        · rw [ec, up_ne (by decide), o1 84 (by decide), eb, up_ne (by decide), ea, up_off (Or.inr c), e3, up_ne (by decide), h24 84 (by omega) (by omega)]
        · rw [ec, up_ne (by decide), o1 85 (by decide), eb, up_off (Or.inr c), ea, up_ne (by decide), e3, up_ne (by decide), h24 85 (by omega) (by omega)]
        · rw [ec, up_ne (by decide), o3 _ (by omega), eb, up_ne (by decide), ea, up_ne (by decide), e3, up_ne (by decide), h24 86 (by omega) (by omega)]
      · have : μc (rw x1) 2 = x3 := by rw [ec, up_ne (by omega), o1 _ (by omega), eb, up_ne (by omega), ea, up_ne (by omega), e3, up_ne (by omega), h22]
        omega
      · have : μc (rw x1) 1 = x2 := by rw [ec, up_ne (by omega), o1 _ (by omega), eb, up_ne (by omega), ea, up_ne (by omega), e3, up_ne (by omega), h21]
        omega
      · have a1 : μc 84 x1 = x2 := by rw [ec, up_ne (by decide), o1 84 (by decide), eb, up_ne (by decide), ea, up_self]
        have a2 : μc (rw x1) 1 = x2 := by rw [ec, up_ne (by omega), o1 _ (by omega), eb, up_ne (by omega), ea, up_ne (by omega), e3, up_ne (by omega), h21]
        rw [a1, a2]
      · have a1 : μc 85 x1 = x3 := by rw [ec, up_ne (by decide), o1 85 (by decide), eb, up_self]
        have a2 : μc (rw x1) 2 = x3 := by rw [ec, up_ne (by omega), o1 _ (by omega), eb, up_ne (by omega), ea, up_ne (by omega), e3, up_ne (by omega), h22]
        rw [a1, a2]
      · have e1 : μc 86 (40 * x1 + j) = 0 := by rw [ec, up_ne (by decide), o2 j j0 j1]
        have e2 : μc (rw x1 + 1) j = 0 := by rw [ec, up_ne (by omega), o1 _ (by omega), eb, up_ne (by omega), ea, up_ne (by omega), e3, up_ne (by omega), h23]
        rw [e1, e2]; exact ⟨rfl, by decide⟩
      · have e1 : μc 0 10 = 0 := by rw [ec, up_ne (by decide), o1 0 (by decide), eb, up_ne (by decide), ea, up_ne (by decide), e3, up_self]
        have e2 : μc 83 4 = 0 := by rw [ec, up_self]
        rw [e1, e2]; decide
    · refine s_X8_row_52 ⟨by omega, fun z => absurd z (by omega), fun _ => ⟨by omega, fun μc ec => ih μc (fun k hk => by rw [ec, up_ne hk, o1 k hk]) (fun j j0 j1 => ?_) (fun t ht => ?_)⟩⟩
      · rw [ec]
        by_cases e : j = p
        · subst e; exact up_self
        · rw [up_off (Or.inr (by omega))]; exact o2 j j0 (by omega)
      · rw [ec, up_off (Or.inr (by omega))]; exact o3 t ht
  · refine s_X8_row i1 i2 i3 ⟨fun z => absurd (by omega) z, fun _ => ⟨fun z => absurd (by omega) z, fun _ => ⟨fun _ => ⟨fun z => absurd z z4, fun _ μ5 e5 => ⟨rfl, ?_⟩⟩, fun z => absurd z3 z⟩⟩⟩
    rw [e5, e4]; exact hI.st (by decide)
theorem pr_set (hI : Inv μ) (i1 : inR x1) (i2 : inR x2) (i3 : inR x3) : Pair E 1 M_X7_set 2 M_X8_set [.inl x1, .inl x2, .inl x3] μ := by
  refine s_X7_set i1 i2 i3 ⟨fun z1 => ⟨z1, fun _ => ?_⟩, fun z => ⟨_, rfl, by decide, s_X8_set i1 i2 i3 ⟨fun z1 => absurd (by omega) z, fun _ => ⟨rfl, hI⟩⟩⟩⟩
  have hr := rw_rng z1.1 z1.2
  rcases hI.1 x1 z1.1 z1.2 with q | ⟨q1, q2, q3, q4, q5⟩
  · refine ⟨by omega, fun z => absurd q.1 z, fun _ μ8 e8 => ⟨_, rfl, by decide, ?_⟩⟩
    have f84 : μ8 84 = μ 84 := by rw [e8, up_ne (by decide)]
    refine s_X8_set i1 i2 i3 ⟨fun _ => ⟨z1, ?_⟩, fun z => absurd (by omega) z⟩
    rw [f84]
    refine ⟨by omega, fun z => absurd q.2 z, fun _ μ9 e9 => ⟨rfl, ?_⟩⟩
    rw [e9, e8]; exact hI.st (by decide)
  · refine ⟨by omega, fun z => ⟨fun z2 => ⟨by omega, by omega, fun μ4 e4 μ6 e6 => ⟨_, rfl, ?_, ?_⟩⟩, fun z2 μ7 e7 => ⟨_, rfl, by decide, ?_⟩⟩, fun z => absurd z (by omega)⟩
    · rw [e4, up_self]; exact rCut_inR i3
    · have f84 : μ6 84 = μ 84 := by rw [e6, up_ne (by decide), e4, up_ne (by omega)]
      have f85 : μ6 85 = μ 85 := by rw [e6, up_ne (by decide), e4, up_ne (by omega)]
      refine s_X8_set i1 i2 i3 ⟨fun _ => ⟨z1, ?_⟩, fun z => absurd (by omega) z⟩
      rw [f84, f85]
      refine ⟨by omega, fun _ => ⟨by omega, fun _ => k_X8_cut (by omega) ⟨_, rfl, by omega, fun μ7 e7 μ8 e8 => ⟨?_, ?_⟩⟩, fun z3 => absurd (by omega) z3⟩, fun z3 => absurd z3 (by omega)⟩
      · rw [e7, up_self, e4, up_self, q3]
      · have base : ∀ k, k ≠ 0 → k ≠ 83 → k ≠ 86 → k ≠ rw x1 + 1 → μ8 k = μ k := fun k a b c d => by rw [e8, up_ne b, e7, up_ne c, e6, up_ne a, e4, up_ne d]
        have v86 : ∀ t, t ≠ 40 * x1 + x2 → μ8 86 t = μ 86 t := fun t ht => by rw [e8, up_ne (by decide), e7, up_off (Or.inr ht), e6, up_ne (by decide), e4, up_ne (by omega)]
        have vit : ∀ j, j ≠ x2 → μ8 (rw x1 + 1) j = μ (rw x1 + 1) j := fun j hj => by rw [e8, up_ne (by omega), e7, up_ne (by omega), e6, up_ne (by omega), e4, up_off (Or.inr hj)]
        refine hI.rows (fun k a b c d e f g => base k a b f (by omega)) (fun i hi => ?_) (fun i hi => ?_) (hI.1.one (x := x1) z1.1 (fun i a b c => ?_) (fun _ => Or.inr ⟨?_, ?_, ?_, ?_, fun j j0 j1 => ?_⟩)) ?_
        · rw [e8, up_ne (by decide), e7, up_ne (by decide), e6, up_off (Or.inr hi), e4, up_ne (by omega)]
        · rw [e8, up_off (Or.inr hi), e7, up_ne (by decide), e6, up_ne (by decide), e4, up_ne (by omega)]
        · have n := rw_ne a z1.1 c
          have ri := rw_rng a b
          exact ⟨base _ (by omega) (by omega) (by omega) n.2.1, base _ (by omega) (by omega) (by omega) n.2.2.2, by rw [base 84 (by decide) (by decide) (by decide) (by omega)], by rw [base 85 (by decide) (by decide) (by decide) (by omega)], fun j j0 j1 => v86 _ (by omega)⟩
        · rw [base _ (by omega) (by omega) (by omega) (by omega)]; exact q1
        · rw [base _ (by omega) (by omega) (by omega) (by omega)]; exact q2
        · rw [base 84 (by decide) (by decide) (by decide) (by omega), base _ (by omega) (by omega) (by omega) (by omega)]; exact q3
        · rw [base 85 (by decide) (by decide) (by decide) (by omega), base _ (by omega) (by omega) (by omega) (by omega)]; exact q4
        · by_cases e : j = x2
          · subst e
            have a1 : μ8 86 (40 * x1 + j) = rCut (μ 84 x1) x3 := by rw [e8, up_ne (by decide), e7, up_self]
            have a2 : μ8 (rw x1 + 1) j = rCut (μ (rw x1) 1) x3 := by rw [e8, up_ne (by omega), e7, up_ne (by omega), e6, up_ne (by omega), e4, up_self]
            rw [a1, a2, q3]; exact ⟨rfl, rCut_inR i3⟩
          · rw [v86 _ (by omega), vit j e]; exact q5 j j0 j1
        · have a1 : μ8 0 10 = 0 := by rw [e8, up_ne (by decide), e7, up_ne (by decide), e6, up_self]
          have a2 : μ8 83 4 = 0 := by rw [e8, up_self]
          rw [a1, a2]; decide
    · have f84 : μ7 84 = μ 84 := by rw [e7, up_ne (by decide)]
      have f85 : μ7 85 = μ 85 := by rw [e7, up_ne (by decide)]
      refine s_X8_set i1 i2 i3 ⟨fun _ => ⟨z1, ?_⟩, fun z => absurd (by omega) z⟩
      rw [f84, f85]
      refine ⟨by omega, fun _ => ⟨by omega, fun z3 => absurd (by omega) z2, fun _ μ9 e9 => ⟨rfl, ?_⟩⟩, fun z3 => absurd z3 (by omega)⟩
      rw [e9, e7]; exact hI.st (by decide)
theorem pr_drop (hI : Inv μ) (i1 : inR x1) : Pair E 1 M_X7_drop 2 M_X8_drop [.inl x1] μ := by
  refine s_X7_drop i1 ⟨fun z1 => ⟨z1, fun _ => ?_⟩, fun z => ⟨_, rfl, by decide, s_X8_drop i1 ⟨fun z1 => absurd (by omega) z, fun _ => ⟨rfl, hI⟩⟩⟩⟩
  have hr := rw_rng z1.1 z1.2
  rcases hI.1 x1 z1.1 z1.2 with q | ⟨q1, q2, q3, q4, q5⟩
  · refine ⟨by omega, fun z => absurd q.1 z, fun _ μ8 e8 => ⟨_, rfl, by decide, ?_⟩⟩
    have f84 : μ8 84 = μ 84 := by rw [e8, up_ne (by decide)]
    refine s_X8_drop i1 ⟨fun _ => ⟨z1, ?_⟩, fun z => absurd (by omega) z⟩
    rw [f84]
    refine ⟨by omega, fun z => absurd q.2 z, fun _ μ9 e9 => ⟨rfl, ?_⟩⟩
    rw [e9, e8]; exact hI.st (by decide)
  · refine ⟨by omega, fun z μ3 e3 μ4 e4 => ⟨_, rfl, by omega, ?_⟩, fun z => absurd z (by omega)⟩
    have f84 : μ4 84 = μ 84 := by rw [e4, up_ne (by decide), e3, up_ne (by omega)]
    refine s_X8_drop i1 ⟨fun _ => ⟨z1, ?_⟩, fun z => absurd (by omega) z⟩
    rw [f84]
    refine ⟨by omega, fun _ μ5 e5 μ6 e6 => ⟨?_, ?_⟩, fun z3 => absurd z3 (by omega)⟩
    · rw [e5, up_ne (by decide), e4, up_ne (by decide), e3, up_ne (by omega), q4]
    · have base : ∀ k, k ≠ 0 → k ≠ 83 → k ≠ 84 → k ≠ rw x1 → μ6 k = μ k := fun k a b c d => by rw [e6, up_ne b, e5, up_ne c, e4, up_ne a, e3, up_ne d]
      refine hI.rows (fun k a b c d e f g => base k a b d (by omega)) (fun i hi => ?_) (fun i hi => ?_) (hI.1.one (x := x1) z1.1 (fun i a b c => ?_) (fun _ => Or.inl ⟨?_, ?_⟩)) ?_
      · rw [e6, up_ne (by decide), e5, up_ne (by decide), e4, up_off (Or.inr hi), e3, up_ne (by omega)]
      · rw [e6, up_off (Or.inr hi), e5, up_ne (by decide), e4, up_ne (by decide), e3, up_ne (by omega)]
      · have n := rw_ne a z1.1 c
        have ri := rw_rng a b
        refine ⟨base _ (by omega) (by omega) (by omega) n.1, base _ (by omega) (by omega) (by omega) n.2.2.1, ?_, by rw [base 85 (by decide) (by decide) (by decide) (by omega)], fun j _ _ => by rw [base 86 (by decide) (by decide) (by decide) (by omega)]⟩
        rw [e6, up_ne (by decide), e5, up_off (Or.inr c), e4, up_ne (by decide), e3, up_ne (by omega)]
      · rw [e6, up_ne (by omega), e5, up_ne (by omega), e4, up_ne (by omega), e3, up_self]
      · rw [e6, up_ne (by decide), e5, up_self]
      · have a1 : μ6 0 10 = 0 := by rw [e6, up_ne (by decide), e5, up_ne (by decide), e4, up_self]
        have a2 : μ6 83 4 = 0 := by rw [e6, up_self]
        rw [a1, a2]; decide
theorem pr_as (hI : Inv μ) (hRo : RoOk E) (i1 : inR x1) (i2 : inR x2) : Pair E 2 M_X7_as 2 M_X8_as [.inl x1, .inl x2] μ := by
  have hR := hI.2.2.2.2.1.1
  have hn := hR.n
  have e2 := hR.a2
  simp only [cv, Nat.add_zero] at hn e2
  have bad : ¬ (0 ≤ x1 ∧ x1 < μ 4 1) ∨ ¬ (0 ≤ x2 ∧ x2 < 6) → ∃ r, (some (.inl (-1000001)) : Option Vl) = some (.inl r) ∧ inR r ∧ Cl E 2 M_X8_as [.inr 83, .inl x1, .inl x2] μ (fun w μ2 => w = some (.inl r) ∧ Inv μ2) := fun hb =>
    ⟨_, rfl, by decide, s_X8_as i1 i2 ⟨by omega, fun _ => ⟨rfl, hI⟩, fun z => ⟨fun z2 => absurd hb (by omega), fun _ => ⟨rfl, hI⟩⟩⟩⟩
  refine s_X7_as i1 i2 ⟨by omega, fun z => bad (Or.inl z), fun z1 => ⟨fun z2 => ?_, fun z => bad (Or.inr z)⟩⟩
  have hk := (hR.ok z1.1 z1.2).1
  have ek : μ 89 (13 + 13 * x1 + 0) = μ (4 + 3) x1 := (hR.p z1.1 z1.2).1
  simp only [cv] at hk
  have all : ∀ (μ6 : Mem) (f : Bool), f = isK (μ (4 + 3) x1) x2 → μ6 = up μ 0 10 (if f then 0 else 3) → Cl E 2 M_X8_as [.inr 83, .inl x1, .inl x2] μ6 (fun w μ2 => w = some (.inl (if f then x1 else -1000013)) ∧ Inv μ2) := by
    intro μ6 f hf e6
    have f89 : μ6 89 = μ 89 := by rw [e6, up_ne (by decide)]
    have yes : f = true → ∀ μ7 : Mem, μ7 = up μ6 83 4 0 → (some (.inl x1) : Option Vl) = some (.inl (if f then x1 else -1000013)) ∧ Inv μ7 := by
      intro hq μ7 e7
      subst hq
      rw [e7, e6]
      exact ⟨rfl, hI.st (by decide)⟩
    have no : f = false → ∀ μ7 : Mem, μ7 = up μ6 83 4 3 → (some (.inl (-1000010 - 3)) : Option Vl) = some (.inl (if f then x1 else -1000013)) ∧ Inv μ7 := by
      intro hq μ7 e7
      subst hq
      rw [e7, e6]
      exact ⟨rfl, hI.st (by decide)⟩
    have isT : (x2 = 0 ∨ x2 = μ (4 + 3) x1 ∨ (x2 = 1 ∧ μ (4 + 3) x1 < 4) ∨ (x2 = 4 ∧ μ (4 + 3) x1 = 5)) → f = true := fun q => by rw [hf]; exact decide_eq_true q
    have isF : ¬ (x2 = 0 ∨ x2 = μ (4 + 3) x1 ∨ (x2 = 1 ∧ μ (4 + 3) x1 < 4) ∨ (x2 = 4 ∧ μ (4 + 3) x1 = 5)) → f = false := fun q => by rw [hf]; exact decide_eq_false q
    have cut : x2 ≠ 0 → x2 ≠ μ (4 + 3) x1 → ¬ (x2 = 1 ∧ μ (4 + 3) x1 < 4) → Gg E 2 M_X8_as 49 [some (.inr 83), some (.inl x1), some (.inl x2), some (.inl (μ (4 + 3) x1)), none] [] μ6 (fun w μ2 => w = some (.inl (if f then x1 else -1000013)) ∧ Inv μ2) := by
      intro c1 c2 c3
      exact s_X8_as_49 ⟨i2, fun z => no (isF (by omega)), fun z => ⟨by omega, fun z3 => no (isF (by omega)), fun z3 => yes (isT (by omega))⟩⟩
    refine s_X8_as i1 i2 ?_
    rw [f89, ek]
    refine ⟨by omega, fun z => absurd (by omega) z, fun _ => ⟨fun _ => ⟨by omega, fun z => yes (isT (Or.inl z)), fun c1 => ⟨by omega, fun z => yes (isT (by omega)), fun c2 => ⟨fun c3 => cut c1 c2 (by omega), fun c3 => ⟨fun c4 => yes (isT (by omega)), fun c4 => cut c1 c2 (by omega)⟩⟩⟩⟩, fun z => absurd (by omega) z⟩⟩
  refine ⟨by omega, hRo, hk, z2, fun z μ6 e6 => ⟨_, rfl, by decide, ?_⟩, fun z μ7 e7 => ⟨_, rfl, i1, ?_⟩⟩
  · exact all μ6 false z.symm (by rw [e6]; rfl)
  · exact all μ7 true z.symm (by rw [e7]; rfl)
theorem pr_feed (hI : Inv μ) (i1 : inR x1) : Pair E 1 M_X7_feed 1 M_X8_feed [.inl x1] μ := by
  obtain ⟨t1, t2, t3⟩ := hI.2.1
  refine s_X7_feed i1 ⟨fun z1 => ⟨by omega, fun z2 => k_X4_addByte (by omega) (fun μ2 e2 => ⟨rfl, _, rfl, ?_, ?_⟩), fun z2 => ⟨_, rfl, by decide, s_X8_feed i1 ⟨fun _ => ⟨by omega, fun z3 => absurd z3 (by omega), fun _ => ⟨rfl, hI⟩⟩, fun z3 => absurd (by omega) z3⟩⟩⟩, fun z => ⟨_, rfl, by decide, s_X8_feed i1 ⟨fun z1 => absurd (by omega) z, fun _ => ⟨rfl, hI⟩⟩⟩⟩
  · rw [e2, up_self]; omega
  · have f6 : μ2 83 = μ 83 := by rw [e2, up_ne (by decide), up_ne (by decide)]
    have f88 : μ2 88 = μ 88 := by rw [e2, up_ne (by decide), up_ne (by decide)]
    refine s_X8_feed i1 ⟨fun _ => ?_, fun z3 => absurd (by omega) z3⟩
    rw [f6]
    refine ⟨by omega, fun _ => ⟨by omega, fun μ4 e4 μ5 e5 => ⟨?_, ?_⟩⟩, fun z3 => absurd z3 (by omega)⟩
    · rw [e5, up_self, e4, up_ne (by decide), f6, e2, up_self, t1]
    · have base : ∀ k, k ≠ 2 → k ≠ 3 → k ≠ 83 → k ≠ 88 → μ5 k = μ k := fun k a b c d => by rw [e5, up_ne c, e4, up_ne d, e2, up_ne a, up_ne b]
      have b83 : ∀ i, i ≠ 6 → μ5 83 i = μ 83 i := fun i hi => by rw [e5, up_off (Or.inr hi), e4, up_ne (by decide), f6]
      have v1 : μ5 2 1 = μ 2 1 + 1 := by rw [e5, up_ne (by decide), e4, up_ne (by decide), e2, up_self]
      have v2 : μ5 83 6 = μ 83 6 + 1 := by rw [e5, up_self, e4, up_ne (by decide), f6]
      obtain ⟨j1, j2, j3, j4, j5, j6, j7, j8⟩ := hI
      refine ⟨j1.cg (fun k hk => base k (by omega) (by omega) (by omega) (by omega)), ⟨by omega, by omega, fun j j0 j1 => ?_⟩, j3.cg (by rw [base 0 (by decide) (by decide) (by decide) (by decide)]) (by rw [base 0 (by decide) (by decide) (by decide) (by decide)]) (b83 4 (by decide)) (b83 7 (by decide)), j4.cg (by rw [base 45 (by decide) (by decide) (by decide) (by decide)]) (base 46 (by decide) (by decide) (by decide) (by decide)) (b83 21 (by decide)) (base 95 (by decide) (by decide) (by decide) (by decide)), j5.cg (fun k a b => base k (by omega) (by omega) (by omega) (by omega)) (base 89 (by decide) (by decide) (by decide) (by decide)), j6.cg (fun k a b => base k (by omega) (by omega) (by omega) (by omega)) (base 93 (by decide) (by decide) (by decide) (by decide)) (base 94 (by decide) (by decide) (by decide) (by decide)), j7.cg (fun k a b => base k (by omega) (by omega) (by omega) (by omega)) (b83 17 (by decide)) (base 92 (by decide) (by decide) (by decide) (by decide)) (fun k a b => base k (by omega) (by omega) (by omega) (by omega)), j8.cg (fun k a => base k (by omega) (by omega) (by omega) (by omega))⟩
      by_cases e : j = μ 2 1
      · have a1 : μ5 3 j = x1 := by rw [e5, up_ne (by decide), e4, up_ne (by decide), e2, up_ne (by decide), e, up_self]
        have a2 : μ5 88 j = x1 := by rw [e5, up_ne (by decide), e4, e, t1, up_self]
        rw [a1, a2]; exact ⟨rfl, by omega⟩
      · have a1 : μ5 3 j = μ 3 j := by rw [e5, up_ne (by decide), e4, up_ne (by decide), e2, up_ne (by decide), up_off (Or.inr e)]
        have a2 : μ5 88 j = μ 88 j := by rw [e5, up_ne (by decide), e4, up_off (Or.inr (by omega)), f88]
        rw [a1, a2]; exact t3 j j0 (by omega)
theorem k_X7_isPlaceOfName {Q : Option Vl → Mem → Prop} (hI : Inv μ) (i1 : inR x1) (i2 : inR x2) (h : Q (some (.inl (bi (decide ((0 ≤ x1 ∧ x1 < μ 4 1) ∧ 0 ≤ x2 ∧ x2 < μ (4 + 4) x1))))) μ) : Cl E 2 M_X7_isPlaceOfName [.inr 0, .inl x1, .inl x2] μ Q := by
  have hR := hI.2.2.2.2.1.1
  have hn := hR.n
  simp only [cv, Nat.add_zero] at hn
  refine s_X7_isPlaceOfName ⟨i1, by omega, fun z => ?_, fun z => ?_⟩
  · rwa [decide_eq_false (fun q => z q.1)] at h
  · have hl := (hR.ok z.1 z.2).2.1
    simp only [cv] at hl
    refine ⟨by omega, i2, by omega, fun z2 => ?_, fun z2 => ?_⟩
    · rwa [decide_eq_false (fun q => z2 q.2)] at h
    · rwa [decide_eq_true ⟨z, z2⟩] at h
theorem k_X8_isPlaceOf {Q : Option Vl → Mem → Prop} {v : CV} (hR : Rel v (μ 89)) (i1 : inR x1) (i2 : inR x2) (h : Q (some (.inl (bi (decide ((0 ≤ x1 ∧ x1 < v 0 1) ∧ 0 ≤ x2 ∧ x2 < v 4 x1))))) μ) : Cl E 2 M_X8_isPlaceOf [.inr 83, .inl x1, .inl x2] μ Q := by
  have hn := hR.n
  have e2 := hR.a2
  refine s_X8_isPlaceOf ⟨i1, by omega, fun z => ?_, fun z => ?_⟩
  · rwa [decide_eq_false (fun q => z (by omega))] at h
  · have z1 : 0 ≤ x1 ∧ x1 < v 0 1 := by omega
    have hl := (hR.ok z1.1 z1.2).2.1
    have e3 := (hR.p z1.1 z1.2).2.2.2.1
    refine ⟨by omega, i2, by omega, fun z2 => ?_, fun z2 => ?_⟩
    · rwa [decide_eq_false (fun q => z2 (by omega))] at h
    · rwa [decide_eq_true ⟨z1, by omega⟩] at h
theorem pr_name (hI : Inv μ) (i1 : inR x1) (i2 : inR x2) : Pair E 3 M_X7_name 3 M_X8_name [.inl x1, .inl x2] μ := by
  have hR := hI.2.2.2.2.1.1
  have hn := hR.n
  simp only [cv, Nat.add_zero] at hn
  refine s_X7_name i1 i2 (k_X7_isPlaceOfName hI i1 i2 ⟨_, rfl, fun z => ⟨_, rfl, by decide, s_X8_name i1 i2 (k_X8_isPlaceOf hR i1 i2 ⟨_, rfl, fun _ => ⟨rfl, hI⟩, fun z2 => absurd z (by rw [show decide ((0 ≤ x1 ∧ x1 < μ 4 1) ∧ 0 ≤ x2 ∧ x2 < μ (4 + 4) x1) = true from z2]; decide)⟩)⟩, fun z => ?_⟩)
  have z' := of_decide_eq_true z
  have ok := hR.ok z'.1.1 z'.1.2
  have hl := ok.2.1
  have hc := ok.2.2.2.2 x2 z'.2.1 z'.2.2
  simp only [cv] at hl hc
  refine ⟨by omega, _, rfl, by omega, s_X8_name i1 i2 (k_X8_isPlaceOf hR i1 i2 ⟨_, rfl, fun z2 => absurd z (by rw [show decide ((0 ≤ x1 ∧ x1 < μ 4 1) ∧ 0 ≤ x2 ∧ x2 < μ (4 + 4) x1) = false from z2]; decide), fun _ => ⟨by omega, ?_, hI⟩⟩)⟩
  rw [(hR.p z'.1.1 z'.1.2).2.2.2.2.1 x2 z'.2.1 z'.2.2]; rfl
end P52
