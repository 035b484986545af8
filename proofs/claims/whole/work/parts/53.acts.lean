/-! Acts: kept, undone; images. -/
set_option maxRecDepth 20000 in
theorem s_X8_notes {E : Ex} {μ : Mem} {Q : Option Vl → Mem → Prop}  (h : inR (μ 83 17) ∧ ((μ 83 17) ≠ 24 → Gg E 1 M_X8_notes 49 [some (.inr 83), none] [] μ Q) ∧ ((μ 83 17) = 24 → Gg E 1 M_X8_notes 11 [some (.inr 83), some (.inl 0)] [] μ Q)) : Cl E 1 M_X8_notes [.inr 83] μ Q := by
  show Gg E 1 M_X8_notes 0 [some (.inr 83), none] [] μ Q
  refine r_aloadn (q := 1) DM_X8_notes_0 rfl rfl ?_
  refine v_getI (q := 4) (ji := 17) DM_X8_notes_1 rfl fRX8_155 sh_83 rfl rfl ?_
  refine r_bipush (q := 6) (n := 24) DM_X8_notes_4 rfl (by decide) ?_
  have i1 := h.1
  replace h := h.2
  refine r_icne (q := 9) (t := 49) DM_X8_notes_6 rfl (by decide) ⟨⟨i1, (by decide)⟩, fun cc => ?_, fun cc => ?_⟩
  · replace h := h.1 cc
    exact h
  · replace h := h.2 cc
    refine r_iconst (q := 10) (n := 0) DM_X8_notes_9 rfl ?_
    refine v_istoren (q := 11) (ls' := [some (.inr 83), some (.inl 0)]) DM_X8_notes_10 rfl (by decide) rfl ?_
    exact h
set_option maxRecDepth 20000 in
theorem s_X8_notes_11 {E : Ex} {μ : Mem} {Q : Option Vl → Mem → Prop} {x1 : Int}  (h : inR x1 ∧ (x1 ≥ 2093 → ∀ μ2 : Mem, μ2 = up μ 83 17 ((μ 83 17) - 1) → Gg E 1 M_X8_notes 49 [some (.inr 83), none] [] μ2 Q) ∧ (¬ x1 ≥ 2093 → (0 ≤ (x1 + 91) ∧ (x1 + 91) < 2184) ∧ (0 ≤ x1 ∧ x1 < 2184) ∧ ∀ μ4 : Mem, μ4 = up μ 92 x1 (μ 92 (x1 + 91)) → Gg E 1 M_X8_notes 11 [some (.inr 83), some (.inl (x1 + 1))] [] μ4 Q)) : Gg E 1 M_X8_notes 11 [some (.inr 83), some (.inl x1)] [] μ Q := by
  refine r_iloadn (q := 12) DM_X8_notes_11 rfl rfl ?_
  refine r_sipush (q := 15) (n := 2093) DM_X8_notes_12 rfl (by decide) ?_
  have i1 := h.1
  replace h := h.2
  refine r_icge (q := 18) (t := 39) DM_X8_notes_15 rfl (by decide) ⟨⟨i1, (by decide)⟩, fun cc => ?_, fun cc => ?_⟩
  · replace h := h.1 cc
    refine r_aloadn (q := 40) DM_X8_notes_39 rfl rfl ?_
    refine r_dup (q := 41) DM_X8_notes_40 rfl ?_
    refine v_getI (q := 44) (ji := 17) DM_X8_notes_41 rfl fRX8_155 sh_83 rfl rfl ?_
    refine r_iconst (q := 45) (n := 1) DM_X8_notes_44 rfl ?_
    refine r_isub (q := 46) DM_X8_notes_45 rfl ?_
    refine v_put (q := 49) (ji := 17) DM_X8_notes_46 rfl pfRX8_155 sh_83 rfl rfl (Or.inl rfl) (fun μ2 e2 => ?_)
    replace h := h μ2 e2
    exact Gg.weak [true, false] h
  · replace h := h.2 cc
    refine r_aloadn (q := 19) DM_X8_notes_18 rfl rfl ?_
    refine r_getR (q := 22) (r := 92) DM_X8_notes_19 rfl fRX8_34 sh_83 rfl ?_
    refine r_iloadn (q := 23) DM_X8_notes_22 rfl rfl ?_
    refine r_aloadn (q := 24) DM_X8_notes_23 rfl rfl ?_
    refine r_getR (q := 27) (r := 92) DM_X8_notes_24 rfl fRX8_34 sh_83 rfl ?_
    refine r_iloadn (q := 28) DM_X8_notes_27 rfl rfl ?_
    refine r_bipush (q := 30) (n := 91) DM_X8_notes_28 rfl (by decide) ?_
    refine r_iadd (q := 31) DM_X8_notes_30 rfl ?_
    refine r_iald (q := 32) DM_X8_notes_31 rfl sh_92 (by decide) ⟨h.1, ?_⟩
    have i3 := h.1
    replace h := h.2
    refine v_iast (q := 33) DM_X8_notes_32 rfl sh_92 (by decide) ⟨h.1, fun μ4 e4 => ?_⟩
    have i5 := h.1
    replace h := h.2 μ4 e4
    refine v_iinc (q := 36) (ls' := [some (.inr 83), some (.inl (x1 + 1))]) DM_X8_notes_33 rfl rfl (by decide) rfl ?_
    refine r_goto (q := 11) DM_X8_notes_36 (by decide) ?_
    exact h
set_option maxRecDepth 20000 in
theorem s_X8_notes_49 {E : Ex} {μ : Mem} {Q : Option Vl → Mem → Prop}  (h : Cl E 0 M_X8_copies [.inr 89, .inl 0, .inr 92, .inl (91 * (μ 83 17))] μ (fun vv μ1 => vv = none ∧ ∀ μ3 : Mem, μ3 = up μ1 83 17 ((μ1 83 17) + 1) → Q none μ3)) : Gg E 1 M_X8_notes 49 [some (.inr 83), none] [] μ Q := by
  refine r_aloadn (q := 50) DM_X8_notes_49 rfl rfl ?_
  refine r_getR (q := 53) (r := 89) DM_X8_notes_50 rfl fRX8_25 sh_83 rfl ?_
  refine r_iconst (q := 54) (n := 0) DM_X8_notes_53 rfl ?_
  refine r_aloadn (q := 55) DM_X8_notes_54 rfl rfl ?_
  refine r_getR (q := 58) (r := 92) DM_X8_notes_55 rfl fRX8_34 sh_83 rfl ?_
  refine r_bipush (q := 60) (n := 91) DM_X8_notes_58 rfl (by decide) ?_
  refine r_aloadn (q := 61) DM_X8_notes_60 rfl rfl ?_
  refine v_getI (q := 64) (ji := 17) DM_X8_notes_61 rfl fRX8_155 sh_83 rfl rfl ?_
  refine r_imul (q := 65) DM_X8_notes_64 rfl ?_
  refine r_callSv [.inr 89, .inl 0, .inr 92, .inl (91 * (μ 83 17))] (q := 68) DM_X8_notes_65 rfl kM_X8_copies lRX8_151 rfl (by decide) (Nat.le_of_ble_eq_true rfl) rfl (Cl.imp h (fun vv μ1 h => ?_))
  obtain ⟨hv, h⟩ := h
  refine ⟨hv, ?_⟩
  refine r_aloadn (q := 69) DM_X8_notes_68 rfl rfl ?_
  refine r_dup (q := 70) DM_X8_notes_69 rfl ?_
  refine v_getI (q := 73) (ji := 17) DM_X8_notes_70 rfl fRX8_155 sh_83 rfl rfl ?_
  refine r_iconst (q := 74) (n := 1) DM_X8_notes_73 rfl ?_
  refine r_iadd (q := 75) DM_X8_notes_74 rfl ?_
  refine v_put (q := 78) (ji := 17) DM_X8_notes_75 rfl pfRX8_155 sh_83 rfl rfl (Or.inl rfl) (fun μ3 e3 => ?_)
  replace h := h μ3 e3
  exact r_ret (v := none) ⟨DM_X8_notes_78, rfl⟩ h
section C53
variable {E : Ex} {μ : Mem} {Q : Option Vl → Mem → Prop} {f t nf nt : Nat} {a b : Int}
theorem k_X8_copies (hf : shp f = (0, nf, [])) (hnf : nf < 2147483648) (ht : shp t = (0, nt, [])) (hnt : nt < 2147483648) (hft : f ≠ t) (ha : 0 ≤ a ∧ a + 91 ≤ nf) (hb : 0 ≤ b ∧ b + 91 ≤ nt) (h : ∀ μ1 : Mem, (∀ k, k ≠ t → μ1 k = μ k) → (∀ i, 0 ≤ i → i < 91 → μ1 t (b + i) = μ f (a + i)) → (∀ i, (i < b ∨ b + 91 ≤ i) → μ1 t i = μ t i) → Q none μ1) : Cl E 0 M_X8_copies [.inr f, .inl a, .inr t, .inl b] μ Q := by
  refine s_X8_copies hf hnf ht hnt ?_
  suffices hh : ∀ μ' : Mem, (∀ k, k ≠ t → μ' k = μ k) → (∀ i, 0 ≤ i → i < 0 → μ' t (b + i) = μ f (a + i)) → (∀ i, (i < b ∨ b + 0 ≤ i) → μ' t i = μ t i) → Gg E 0 M_X8_copies 3 [some (.inr f), some (.inl a), some (.inr t), some (.inl b), some (.inl 0)] [] μ' Q from hh μ (fun _ _ => rfl) (fun i x y => by omega) (fun _ _ => rfl)
  refine up_ind (N := 91) (P := fun p => ∀ μ' : Mem, (∀ k, k ≠ t → μ' k = μ k) → (∀ i, 0 ≤ i → i < p → μ' t (b + i) = μ f (a + i)) → (∀ i, (i < b ∨ b + p ≤ i) → μ' t i = μ t i) → Gg E 0 M_X8_copies 3 [some (.inr f), some (.inl a), some (.inr t), some (.inl b), some (.inl p)] [] μ' Q) 0 (by decide) (fun μ' o1 o2 o3 => ?_) (fun p p0 p1 ih μ' o1 o2 o3 => ?_)
  · exact s_X8_copies_3 hf hnf ht hnt ⟨by decide, fun _ => h μ' o1 o2 o3, fun z => absurd (Int.le_refl _) z⟩
  · refine s_X8_copies_3 hf hnf ht hnt ⟨by omega, fun z => absurd z (by omega), fun _ => ⟨by omega, by omega, fun μ3 e3 => ih μ3 (fun k hk => by rw [e3, up_ne hk, o1 k hk]) (fun i i0 i1 => ?_) (fun i hi => ?_)⟩⟩
    · rw [e3]
      by_cases e : i = p
      · subst e; rw [up_self, o1 f hft]
      · rw [up_off (Or.inr (by omega))]; exact o2 i i0 (by omega)
    · rw [e3, up_off (Or.inr (by omega))]; exact o3 i (by omega)
/-- the row of now is noted -/
def ntR (μ μ1 : Mem) : Prop := (∀ k, k ≠ 83 → k ≠ 92 → μ1 k = μ k) ∧ (∀ i, i ≠ 17 → μ1 83 i = μ 83 i) ∧ μ1 83 17 = (if μ 83 17 < 24 then μ 83 17 + 1 else 24) ∧ (∀ j i, 0 ≤ j → j < μ1 83 17 - 1 → 0 ≤ i → i < 91 → μ1 92 (91 * j + i) = μ 92 (91 * (if μ 83 17 < 24 then j else j + 1) + i)) ∧ (∀ i, 0 ≤ i → i < 91 → μ1 92 (91 * (μ1 83 17 - 1) + i) = μ 89 i) ∧ (RgA (μ 92) → RgA (μ 89) → RgA (μ1 92))
theorem notes_end {μ' : Mem} (hn : 0 ≤ μ' 83 17 ∧ μ' 83 17 ≤ 23) (h : ∀ μ1 : Mem, (∀ k, k ≠ 83 → k ≠ 92 → μ1 k = μ' k) → (∀ i, i ≠ 17 → μ1 83 i = μ' 83 i) → μ1 83 17 = μ' 83 17 + 1 → (∀ i, 0 ≤ i → i < 91 → μ1 92 (91 * μ' 83 17 + i) = μ' 89 i) → (∀ i, (i < 91 * μ' 83 17 ∨ 91 * μ' 83 17 + 91 ≤ i) → μ1 92 i = μ' 92 i) → Q none μ1) : Gg E 1 M_X8_notes 49 [some (.inr 83), none] [] μ' Q := by
  refine s_X8_notes_49 (k_X8_copies sh_89 (by decide) sh_92 (by decide) (by decide) (by decide) (by omega) (fun μ1 o1 o2 o3 => ⟨rfl, fun μ3 e3 => h μ3 (fun k k1 k2 => by rw [e3, up_ne k1, o1 k k2]) (fun i hi => by rw [e3, up_off (Or.inr hi), o1 83 (by decide)]) (by rw [e3, up_self, o1 83 (by decide)]) (fun i i0 i1 => ?_) (fun i hi => ?_)⟩))
  · rw [e3, up_ne (by decide), o2 i i0 i1, Int.zero_add]
  · rw [e3, up_ne (by decide), o3 i hi]
theorem k_X8_notes (hn : 0 ≤ μ 83 17 ∧ μ 83 17 ≤ 24) (h : ∀ μ1 : Mem, ntR μ μ1 → Q none μ1) : Cl E 1 M_X8_notes [.inr 83] μ Q := by
  refine s_X8_notes ⟨by omega, fun z => notes_end (by omega) (fun μ1 o1 o2 o3 o4 o5 => h μ1 ⟨o1, o2, ?_, ?_, ?_, ?_⟩), fun z => ?_⟩
  · rw [o3, if_pos (by omega)]
  · intro j i j0 j1 i0 i1
    rw [if_pos (by omega), o5 _ (by omega)]
  · intro i i0 i1
    rw [o3, show μ 83 17 + 1 - 1 = μ 83 17 by omega]; exact o4 i i0 i1
  · intro g1 g2 i
    by_cases hi : i < 91 * μ 83 17 ∨ 91 * μ 83 17 + 91 ≤ i
    · rw [o5 i hi]; exact g1 i
    · have := o4 (i - 91 * μ 83 17) (by omega) (by omega)
      rw [show 91 * μ 83 17 + (i - 91 * μ 83 17) = i by omega] at this
      rw [this]; exact g2 _
  · suffices hh : ∀ μ' : Mem, (∀ k, k ≠ 92 → μ' k = μ k) → (∀ i, 0 ≤ i → i < 0 → μ' 92 i = μ 92 (i + 91)) → (∀ i, (i < 0 ∨ 0 ≤ i) → μ' 92 i = μ 92 i) → Gg E 1 M_X8_notes 11 [some (.inr 83), some (.inl 0)] [] μ' Q from hh μ (fun _ _ => rfl) (fun i x y => by omega) (fun _ _ => rfl)
    refine up_ind (N := 2093) (P := fun p => ∀ μ' : Mem, (∀ k, k ≠ 92 → μ' k = μ k) → (∀ i, 0 ≤ i → i < p → μ' 92 i = μ 92 (i + 91)) → (∀ i, (i < 0 ∨ p ≤ i) → μ' 92 i = μ 92 i) → Gg E 1 M_X8_notes 11 [some (.inr 83), some (.inl p)] [] μ' Q) 0 (by decide) (fun μ' o1 o2 o3 => ?_) (fun p p0 p1 ih μ' o1 o2 o3 => ?_)
    · refine s_X8_notes_11 ⟨by decide, fun _ μ2 e2 => ?_, fun z => absurd (Int.le_refl _) z⟩
      have f17 : μ2 83 17 = 23 := by rw [e2, up_self, o1 83 (by decide)]; omega
      have f92 : μ2 92 = μ' 92 := by rw [e2, up_ne (by decide)]
      refine notes_end (by omega) (fun μ1 q1 q2 q3 q4 q5 => h μ1 ⟨fun k k1 k2 => ?_, fun i hi => ?_, ?_, ?_, ?_, ?_⟩)
      · rw [q1 k k1 k2, e2, up_ne k1, o1 k k2]
      · rw [q2 i hi, e2, up_off (Or.inr hi), o1 83 (by decide)]
      · rw [q3, f17, if_neg (by omega)]; rfl
      · intro j i j0 j1 i0 i1
        rw [q3, f17] at j1
        rw [if_neg (by omega), q5 _ (by omega), f92, o2 _ (by omega) (by omega)]
        congr 1; omega
      · intro i i0 i1
        rw [q3, f17]
        rw [f17] at q4
        rw [show (23 : Int) + 1 - 1 = 23 from rfl, q4 i i0 i1, e2, up_ne (by decide), o1 89 (by decide)]
      · intro g1 g2 i
        rw [f17] at q4 q5
        by_cases hi : i < 91 * 23 ∨ 91 * 23 + 91 ≤ i
        · rw [q5 i hi, f92]
          by_cases h0 : 0 ≤ i ∧ i < 2093
          · rw [o2 i h0.1 h0.2]; exact g1 _
          · rw [o3 i (by omega)]; exact g1 _
        · have := q4 (i - 91 * 23) (by omega) (by omega)
          rw [show (91 : Int) * 23 + (i - 91 * 23) = i by omega] at this
          rw [this, e2, up_ne (by decide), o1 89 (by decide)]; exact g2 _
    · refine s_X8_notes_11 ⟨by omega, fun z => absurd z (by omega), fun _ => ⟨by omega, by omega, fun μ4 e4 => ih μ4 (fun k hk => by rw [e4, up_ne hk, o1 k hk]) (fun i i0 i1 => ?_) (fun i hi => ?_)⟩⟩
      · rw [e4]
        by_cases e : i = p
        · subst e; rw [up_self, o3 _ (by omega)]
        · rw [up_off (Or.inr e)]; exact o2 i i0 (by omega)
      · rw [e4, up_off (Or.inr (by omega))]; exact o3 i (by omega)
end C53
/-! The acts, without the memory. -/
def AL (n : Int) (A : Int → Int × Int × Int × Int) (S : Int → Int → Int) (C : CV) : Prop := ∃ w : Int → CV, eqv (w n) C ∧ ∀ j, 0 ≤ j → j < n → eqv (w j) (unA (w (j + 1)) (A j)) ∧ actOK (A j) ∧ CtOK (w j) (S j)
theorem Rel.arr {v : CV} {a a' : Int → Int} (h : Rel v a) (he : ∀ i, 0 ≤ i → i < 91 → a' i = a i) (hg : RgA a') : Rel v a' := by
  have hn := h.n
  obtain ⟨⟨a0, a1, a2, a3, a4, a5, ap⟩, hv, -, hs⟩ := id h
  refine ⟨⟨?_, ?_, ?_, ?_, ?_, fun i i0 i1 => ?_, fun p p0 p1 => ?_⟩, hv, hg, hs⟩
  · rw [he 0 (by decide) (by decide)]; exact a0
  · rw [he 1 (by decide) (by decide)]; exact a1
  · rw [he 2 (by decide) (by decide)]; exact a2
  · rw [he 3 (by decide) (by decide)]; exact a3
  · rw [he 4 (by decide) (by decide)]; exact a4
  · rw [he _ (by omega) (by omega)]; exact a5 i i0 i1
  · have l4 := (h.ok p0 p1).2.1
    obtain ⟨e0, e1, e2, e3, e4, e8, e9, e10, e11, e12⟩ := ap p p0 p1
    refine ⟨?_, ?_, ?_, ?_, fun i i0 i1 => ?_, ?_, ?_, ?_, ?_, ?_⟩
    · rw [he _ (by omega) (by omega)]; exact e0
    · rw [he _ (by omega) (by omega)]; exact e1
    · rw [he _ (by omega) (by omega)]; exact e2
    · rw [he _ (by omega) (by omega)]; exact e3
    · rw [he _ (by omega) (by omega)]; exact e4 i i0 i1
    · rw [he _ (by omega) (by omega)]; exact e8
    · rw [he _ (by omega) (by omega)]; exact e9
    · rw [he _ (by omega) (by omega)]; exact e10
    · rw [he _ (by omega) (by omega)]; exact e11
    · rw [he _ (by omega) (by omega)]; exact e12
theorem CtOK.arr {v : CV} {a a' : Int → Int} (h : CtOK v a) (he : ∀ i, 0 ≤ i → i < 91 → a' i = a i) (hg : RgA a') : CtOK v a' := ⟨h.1.arr he hg, h.2⟩
theorem AL.push {n n1 : Int} {A A1 : Int → Int × Int × Int × Int} {S S1 : Int → Int → Int} {C C1 : CV} {s : Int → Int} {a : Int × Int × Int × Int} (h : AL n A S C) (hn : 0 ≤ n ∧ n ≤ 24) (hC : CtOK C s) (hu : eqv C (unA C1 a)) (ho : actOK a) (hn1 : n1 = if n < 24 then n + 1 else 24)
    (hA : ∀ j, 0 ≤ j → j < n1 - 1 → A1 j = A (if n < 24 then j else j + 1)) (hA1 : A1 (n1 - 1) = a) (hS : ∀ j i, 0 ≤ j → j < n1 - 1 → 0 ≤ i → i < 91 → S1 j i = S (if n < 24 then j else j + 1) i) (hS1 : ∀ i, 0 ≤ i → i < 91 → S1 (n1 - 1) i = s i) (hg : ∀ j, RgA (S1 j)) : AL n1 A1 S1 C1 := by
  obtain ⟨w, h1, h2⟩ := h
  obtain ⟨sh, s1, s2, s3⟩ : ∃ sh : Int, (∀ j : Int, (if n < 24 then j else j + 1) = j + sh) ∧ n1 - 1 + sh = n ∧ 0 ≤ sh := by
    by_cases hh : n < 24
    · exact ⟨0, fun j => by rw [if_pos hh]; omega, by rw [hn1, if_pos hh]; omega, by omega⟩
    · exact ⟨1, fun j => by rw [if_neg hh], by rw [hn1, if_neg hh]; omega, by omega⟩
  simp only [s1] at hA hS
  refine ⟨fun j => if j < n1 then w (j + sh) else C1, ?_, fun j j0 j1 => ?_⟩
  · have : (fun j => if j < n1 then w (j + sh) else C1) n1 = C1 := if_neg (by omega)
    rw [this]; exact eqv.rf
  · have wj : (fun j => if j < n1 then w (j + sh) else C1) j = w (j + sh) := if_pos j1
    rw [wj]
    by_cases hj : j < n1 - 1
    · have wj1 : (fun j => if j < n1 then w (j + sh) else C1) (j + 1) = w (j + sh + 1) := by
        show (if j + 1 < n1 then w (j + 1 + sh) else C1) = _
        rw [if_pos (by omega), show j + 1 + sh = j + sh + 1 by omega]
      rw [wj1, hA j j0 hj]
      obtain ⟨q1, q2, q3⟩ := h2 (j + sh) (by omega) (by omega)
      exact ⟨q1, q2, q3.arr (fun i i0 i1 => hS j i j0 hj i0 i1) (hg j)⟩
    · have ej : j = n1 - 1 := by omega
      have wj1 : (fun j => if j < n1 then w (j + sh) else C1) (j + 1) = C1 := if_neg (by omega)
      rw [wj1, ej, hA1, s2]
      exact ⟨h1.trans hu, ho, (hC.eqv h1.symm).arr hS1 (hg _)⟩
theorem unA_eqv {v w : CV} {a : Int × Int × Int × Int} (h : eqv v w) : eqv (unA v a) (unA w a) := by
  unfold unA
  split
  · rw [h.1 4 (by decide), h.1 1 (by decide)]
    refine eqv.up ⟨fun i hi => ?_, fun j h1 h2 => ?_⟩
    · unfold tbC; rw [if_neg (fun z => absurd z.1 (by decide)), if_neg (fun z => absurd z.1 (by decide))]; exact h.1 i hi
    · funext i
      unfold tbC
      rw [h.2 8 (by decide) (by decide), h.1 4 (by decide), h.2 j h1 h2]
  · split
    · exact h.up
    · rw [h.1 5 (by decide)]; exact h.up
/-- a day undone -/
theorem dayS_8 {b d : Int} (hd : d ≠ -1000000) : ∀ (n : Nat) (v : CV) (L : List Int), 0 ≤ v 0 1 → ∀ i, (dayS b d n v L).1 8 i = v 8 i ∨ (v 8 i = -1000000 ∧ (0 ≤ i ∧ i < v 0 1) ∧ (dayS b d n v L).1 8 i = d)
  | 0, v, L, _, i => Or.inl rfl
  | n + 1, v, L, hn, i => by
    rw [dayS]
    split
    · next hc =>
      rcases cFirst_can (v := v) (d := d) (b := b) hn with q | q
      · exact absurd q hc.1
      · rcases dayS_8 hd n (upv v 8 (cFirst v d b) d) (L ++ [cFirst v d b]) hn i with e | e
        · by_cases hi : i = cFirst v d b
          · subst hi
            rw [upv_self] at e
            exact Or.inr ⟨(can_none q.2).1, q.1, e⟩
          · rw [upv_i hi] at e; exact Or.inl e
        · by_cases hi : i = cFirst v d b
          · subst hi
            rw [upv_self] at e
            exact absurd e.1 hd
          · rw [upv_i hi] at e; exact Or.inr e
    · exact Or.inl rfl
theorem un_day {v : CV} {b : Int} (hs : SCv v) (hn : 0 ≤ v 0 1) (hd : 0 ≤ v 0 4) : eqv v (unA (passV v b).1 (0, 0, 0, 0)) := by
  have e := passV_day (v := v) (b := b)
  rw [e]
  simp only [unA, if_true]
  obtain ⟨u, eu⟩ : ∃ u, u = (dayS b (v 0 4 + 1) 7 v []).1 := ⟨_, rfl⟩
  rw [← eu]
  have u8 := dayS_8 (b := b) (d := v 0 4 + 1) (by omega) 7 v [] hn
  rw [← eu] at u8
  have uj : ∀ j, j ≠ 8 → u j = v j := fun j hj => by rw [eu]; exact dayS_0 7 v [] j hj
  rw [upv_self]
  refine ⟨fun i hi => ?_, fun j j0 j1 => ?_⟩
  · by_cases h4 : i = 4
    · subst h4; rw [upv_self]; omega
    · rw [upv_i h4]
      unfold tbC
      rw [if_neg (fun z => absurd z.1 (by decide)), upv_i h4, uj 0 (by decide)]
  · funext i
    rw [upv_ne (by omega)]
    unfold tbC
    have n1 : upv u 0 4 (v 0 4 + 1) 0 1 = v 0 1 := by rw [upv_i (by decide), uj 0 (by decide)]
    have n8 : upv u 0 4 (v 0 4 + 1) 8 = u 8 := upv_ne (by decide)
    have nj : upv u 0 4 (v 0 4 + 1) j = u j := upv_ne (by omega)
    rw [upv_self, n1, n8, nj]
    by_cases hj : j = 8
    · subst hj
      rcases u8 i with q | q
      · rw [q]
        by_cases hp : 0 ≤ i ∧ i < v 0 1
        · have := hs i hp.1 hp.2
          rw [if_neg (by omega)]
        · rw [if_neg (by omega)]
      · rw [if_pos ⟨rfl, q.2.1.1, q.2.1.2, q.2.2⟩]; exact q.1
    · rw [if_neg (fun z => hj z.1), uj j hj]
theorem sv_dayS {b d : Int} (hd : d ≠ -1000000) : ∀ (n : Nat) (v : CV) (L : List Int), 0 ≤ v 0 1 → (∀ p, 0 ≤ p → p < v 0 1 → 1 ≤ v 6 p) → sv v d ≤ v 0 2 → sv (dayS b d n v L).1 d ≤ v 0 2
  | 0, v, L, _, _, h => h
  | n + 1, v, L, hn, ht, h => by
    rw [dayS]
    split
    · next hc =>
      rcases cFirst_can (v := v) (d := d) (b := b) hn with q | q
      · exact absurd q hc.1
      · have := sv_seat (d := d) q.1.1 q.1.2 (can_none q.2).1 hd (ht _ q.1.1 q.1.2)
        exact sv_dayS hd n (upv v 8 (cFirst v d b) d) (L ++ [cFirst v d b]) hn ht (by rw [this]; have := hc.2; show sv v d + 1 ≤ v 0 2; omega)
    · exact h
theorem sv_pass {v : CV} {b : Int} (hv : VC v) (h : sv v (v 0 4) ≤ v 0 2) : sv (passV v b).1 ((passV v b).1 0 4) ≤ (passV v b).1 0 2 := by
  have hn := hv.2.1.1
  have v4 := hv.2.2.2.1
  rw [passV_day]
  show sv (upv (dayS b (v 0 4 + 1) 7 v []).1 0 4 (v 0 4 + 1)) (upv (dayS b (v 0 4 + 1) 7 v []).1 0 4 (v 0 4 + 1) 0 4) ≤ upv (dayS b (v 0 4 + 1) 7 v []).1 0 4 (v 0 4 + 1) 0 2
  rw [upv_self, sv_day, upv_i (by decide), dayS_0 7 v [] 0 (by decide)]
  refine sv_dayS (by omega) 7 v [] hn (fun p p0 p1 => (hv.2.2.2.2.2 p p0 p1).2.2.1.1) ?_
  have : sv v (v 0 4 + 1) ≤ sv v (v 0 4) := cntI_le hn (fun p _ _ hp => serv_mono (by omega) hp)
  omega
theorem pass_day {v : CV} {b : Int} : (passV v b).1 0 4 = v 0 4 + 1 := by
  rw [passV_day]
  show upv (dayS b (v 0 4 + 1) 7 v []).1 0 4 (v 0 4 + 1) 0 4 = v 0 4 + 1
  exact upv_self
theorem pass_0 {v : CV} {b i : Int} (h : i ≠ 4) : (passV v b).1 0 i = v 0 i := by
  rw [passV_day]
  show upv (dayS b (v 0 4 + 1) 7 v []).1 0 4 (v 0 4 + 1) 0 i = v 0 i
  rw [upv_i h, dayS_0 7 v [] 0 (by decide)]
