/-! Renaming: names are tried. -/
set_option maxRecDepth 20000 in
theorem s_X5_tryNames {E : Ex} {μ : Mem} {Q : Option Vl → Mem → Prop} {x2 x3 x4 x5 x6 : Int}  {d : Nat} (hd : 3 ≤ d) (h : (0 ≤ x2 ∧ x2 < 6) ∧ inR x6 ∧ inR ((μ (4 + 4) x2) - x5) ∧ (x6 ≤ ((μ (4 + 4) x2) - x5) → (((μ (4 + 4) x2) - x5) > 0 → (0 ≤ x2 * 4 + x5 ∧ x2 * 4 + x5 < 24) ∧ Gg E (d + 1) M_X5_tryNames 46 [some (.inr 31), some (.inr 4), some (.inl x2), some (.inl x3), some (.inl x4), some (.inl x5), some (.inl x6), some (.inl ((μ (4 + 4) x2) - x5)), some (.inl (μ (4 + 5) (x2 * 4 + x5))), some (.inl 0), none] [] μ Q) ∧ (¬ ((μ (4 + 4) x2) - x5) > 0 → (RgC μ 31) ∧ (RoOk E) ∧ (0 ≤ x3 ∧ x3 < 6) ∧ (pOK (cv μ 31) x3) ∧ (pOK (cv μ 31) x2) ∧ Q (some (.inl (bi (cBef (cv μ 31) x3 x2 x4)))) μ)) ∧ (¬ x6 ≤ ((μ (4 + 4) x2) - x5) → Q (some (.inl (bi false))) μ)) : Cl E (d + 1) M_X5_tryNames [.inr 31, .inr 4, .inl x2, .inl x3, .inl x4, .inl x5, .inl x6] μ Q := by
  show Gg E (d + 1) M_X5_tryNames 0 [some (.inr 31), some (.inr 4), some (.inl x2), some (.inl x3), some (.inl x4), some (.inl x5), some (.inl x6), none, none, none, none] [] μ Q
  refine r_aloadn (q := 1) DM_X5_tryNames_0 rfl rfl ?_
  refine r_getR (q := 4) (r := 4 + 4) DM_X5_tryNames_1 rfl fRX5_38 (co0 cK_4) rfl ?_
  refine r_iloadn (q := 5) DM_X5_tryNames_4 rfl rfl ?_
  refine r_iald (q := 6) DM_X5_tryNames_5 rfl (co4 cK_4) (by decide) ⟨h.1, ?_⟩
  have i1 := h.1
  replace h := h.2
  refine r_iload (q := 8) DM_X5_tryNames_6 rfl rfl ?_
  refine r_isub (q := 9) DM_X5_tryNames_8 rfl ?_
  refine v_istore (q := 11) (ls' := [some (.inr 31), some (.inr 4), some (.inl x2), some (.inl x3), some (.inl x4), some (.inl x5), some (.inl x6), some (.inl ((μ (4 + 4) x2) - x5)), none, none, none]) DM_X5_tryNames_9 rfl (by decide) rfl ?_
  refine r_iload (q := 13) DM_X5_tryNames_11 rfl rfl ?_
  refine r_iload (q := 15) DM_X5_tryNames_13 rfl rfl ?_
  have i2 := h.1
  replace h := h.2
  have i3 := h.1
  replace h := h.2
  refine r_icle (q := 18) (t := 20) DM_X5_tryNames_15 rfl (by decide) ⟨⟨i2, i3⟩, fun cc => ?_, fun cc => ?_⟩
  · replace h := h.1 cc
    refine r_iload (q := 22) DM_X5_tryNames_20 rfl rfl ?_
    refine r_ifgt (q := 25) (t := 34) DM_X5_tryNames_22 rfl (by decide) ⟨i3, fun cc => ?_, fun cc => ?_⟩
    · replace h := h.1 cc
      refine r_aloadn (q := 35) DM_X5_tryNames_34 rfl rfl ?_
      refine r_iloadn (q := 36) DM_X5_tryNames_35 rfl rfl ?_
      refine r_iload (q := 38) DM_X5_tryNames_36 rfl rfl ?_
      have i4 := h.1
      replace h := h.2
      refine r_callVi [.inl x2, .inl x5] (q := 41) DM_X5_tryNames_38 rfl kM_X2_letterOf lRX5_56 (co0 cK_4) rfl rfl (by omega) (Nat.le_of_ble_eq_true rfl) rfl (k_X2_letterOf cK_4 i4 ⟨_, rfl, ?_⟩)
      refine v_istore (q := 43) (ls' := [some (.inr 31), some (.inr 4), some (.inl x2), some (.inl x3), some (.inl x4), some (.inl x5), some (.inl x6), some (.inl ((μ (4 + 4) x2) - x5)), some (.inl (μ (4 + 5) (x2 * 4 + x5))), none, none]) DM_X5_tryNames_41 rfl (by decide) rfl ?_
      refine r_iconst (q := 44) (n := 0) DM_X5_tryNames_43 rfl ?_
      refine v_istore (q := 46) (ls' := [some (.inr 31), some (.inr 4), some (.inl x2), some (.inl x3), some (.inl x4), some (.inl x5), some (.inl x6), some (.inl ((μ (4 + 4) x2) - x5)), some (.inl (μ (4 + 5) (x2 * 4 + x5))), some (.inl 0), none]) DM_X5_tryNames_44 rfl (by decide) rfl ?_
      exact h
    · replace h := h.2 cc
      refine r_aloadn (q := 26) DM_X5_tryNames_25 rfl rfl ?_
      refine r_iloadn (q := 27) DM_X5_tryNames_26 rfl rfl ?_
      refine r_iloadn (q := 28) DM_X5_tryNames_27 rfl rfl ?_
      refine r_iload (q := 30) DM_X5_tryNames_28 rfl rfl ?_
      have i5 := h.1
      replace h := h.2
      have i6 := h.1
      replace h := h.2
      have i7 := h.1
      replace h := h.2
      have i8 := h.1
      replace h := h.2
      have i9 := h.1
      replace h := h.2
      refine r_callVi [.inl x3, .inl x2, .inl x4] (q := 33) DM_X5_tryNames_30 rfl kM_X2_isBefore lRX5_53 (co0 cK_31) rfl rfl (by omega) (Nat.le_of_ble_eq_true rfl) rfl (k_X2_isBefore cK_31 i5 i6 i7 i1 i8 i9 ⟨_, rfl, ?_⟩)
      exact r_ret (v := some (.inl (bi (cBef (cv μ 31) x3 x2 x4)))) ⟨DM_X5_tryNames_33, Or.inr ⟨rfl, bi_01 _⟩⟩ h
  · replace h := h.2 cc
    refine r_iconst (q := 19) (n := 0) DM_X5_tryNames_18 rfl ?_
    exact r_ret (v := some (.inl 0)) ⟨DM_X5_tryNames_19, Or.inr ⟨rfl, Or.inl rfl⟩⟩ h
set_option maxRecDepth 20000 in
theorem s_X5_tryNames_46 {E : Ex} {μ : Mem} {Q : Option Vl → Mem → Prop} {x2 x3 x4 x5 x6 x7 x8 x9 : Int}  {d : Nat} (hd : 3 ≤ d) (h : inR x9 ∧ (x9 ≥ 8 → Q (some (.inl (bi false))) μ) ∧ (¬ x9 ≥ 8 → inR x8 ∧ (x9 ≠ x8 → Gg E (d + 1) M_X5_tryNames 69 [some (.inr 31), some (.inr 4), some (.inl x2), some (.inl x3), some (.inl x4), some (.inl x5), some (.inl x6), some (.inl x7), some (.inl x8), some (.inl x9), none] [.inl (x6 - 1)] μ Q) ∧ (x9 = x8 → Gg E (d + 1) M_X5_tryNames 69 [some (.inr 31), some (.inr 4), some (.inl x2), some (.inl x3), some (.inl x4), some (.inl x5), some (.inl x6), some (.inl x7), some (.inl x8), some (.inl x9), none] [.inl x6] μ Q))) : Gg E (d + 1) M_X5_tryNames 46 [some (.inr 31), some (.inr 4), some (.inl x2), some (.inl x3), some (.inl x4), some (.inl x5), some (.inl x6), some (.inl x7), some (.inl x8), some (.inl x9), none] [] μ Q := by
  refine r_iload (q := 48) DM_X5_tryNames_46 rfl rfl ?_
  refine r_bipush (q := 50) (n := 8) DM_X5_tryNames_48 rfl (by decide) ?_
  have i1 := h.1
  replace h := h.2
  refine r_icge (q := 53) (t := 111) DM_X5_tryNames_50 rfl (by decide) ⟨⟨i1, (by decide)⟩, fun cc => ?_, fun cc => ?_⟩
  · replace h := h.1 cc
    refine r_iconst (q := 112) (n := 0) DM_X5_tryNames_111 rfl ?_
    exact r_ret (v := some (.inl 0)) ⟨DM_X5_tryNames_112, Or.inr ⟨rfl, Or.inl rfl⟩⟩ h
  · replace h := h.2 cc
    refine r_iload (q := 55) DM_X5_tryNames_53 rfl rfl ?_
    refine r_iload (q := 57) DM_X5_tryNames_55 rfl rfl ?_
    have i2 := h.1
    replace h := h.2
    refine r_icne (q := 60) (t := 65) DM_X5_tryNames_57 rfl (by decide) ⟨⟨i1, i2⟩, fun cc => ?_, fun cc => ?_⟩
    · replace h := h.1 cc
      refine r_iload (q := 67) DM_X5_tryNames_65 rfl rfl ?_
      refine r_iconst (q := 68) (n := 1) DM_X5_tryNames_67 rfl ?_
      refine r_isub (q := 69) DM_X5_tryNames_68 rfl ?_
      exact h
    · replace h := h.2 cc
      refine r_iload (q := 62) DM_X5_tryNames_60 rfl rfl ?_
      refine r_goto (q := 69) DM_X5_tryNames_62 (by decide) ?_
      exact h
set_option maxRecDepth 20000 in
theorem s_X5_tryNames_69 {E : Ex} {μ : Mem} {Q : Option Vl → Mem → Prop} {x2 x3 x4 x5 x6 x7 x8 x9 y0 : Int}  {d : Nat} (hd : 3 ≤ d) (h : inR y0 ∧ (y0 < 0 → Gg E (d + 1) M_X5_tryNames 46 [some (.inr 31), some (.inr 4), some (.inl x2), some (.inl x3), some (.inl x4), some (.inl x5), some (.inl x6), some (.inl x7), some (.inl x8), some (.inl (x9 + 1)), none] [] μ Q) ∧ (¬ y0 < 0 → (0 ≤ x2 * 4 + x5 ∧ x2 * 4 + x5 < 24) ∧ ∀ μ3 : Mem, μ3 = up μ (31 + 5) (x2 * 4 + x5) x9 → Cl E d M_X5_tryNames [.inr 31, .inr 4, .inl x2, .inl x3, .inl x4, .inl (x5 + 1), .inl y0] μ3 (fun vv μ4 => ∃ v5, vv = some (.inl (bi v5)) ∧ (v5 = false → Gg E (d + 1) M_X5_tryNames 46 [some (.inr 31), some (.inr 4), some (.inl x2), some (.inl x3), some (.inl x4), some (.inl x5), some (.inl x6), some (.inl x7), some (.inl x8), some (.inl (x9 + 1)), none] [] μ4 Q) ∧ (v5 = true → Q (some (.inl (bi true))) μ4)))) : Gg E (d + 1) M_X5_tryNames 69 [some (.inr 31), some (.inr 4), some (.inl x2), some (.inl x3), some (.inl x4), some (.inl x5), some (.inl x6), some (.inl x7), some (.inl x8), some (.inl x9), none] [.inl y0] μ Q := by
  refine v_istore (q := 71) (ls' := [some (.inr 31), some (.inr 4), some (.inl x2), some (.inl x3), some (.inl x4), some (.inl x5), some (.inl x6), some (.inl x7), some (.inl x8), some (.inl x9), some (.inl y0)]) DM_X5_tryNames_69 rfl (by decide) rfl ?_
  refine r_iload (q := 73) DM_X5_tryNames_71 rfl rfl ?_
  have i1 := h.1
  replace h := h.2
  refine r_iflt (q := 76) (t := 105) DM_X5_tryNames_73 rfl (by decide) ⟨i1, fun cc => ?_, fun cc => ?_⟩
  · replace h := h.1 cc
    refine v_iinc (q := 108) (ls' := [some (.inr 31), some (.inr 4), some (.inl x2), some (.inl x3), some (.inl x4), some (.inl x5), some (.inl x6), some (.inl x7), some (.inl x8), some (.inl (x9 + 1)), some (.inl y0)]) DM_X5_tryNames_105 rfl rfl (by decide) rfl ?_
    refine r_goto (q := 46) DM_X5_tryNames_108 (by decide) ?_
    exact Gg.weak [true, true, true, true, true, true, true, true, true, true, false] h
  · replace h := h.2 cc
    refine r_aloadn (q := 77) DM_X5_tryNames_76 rfl rfl ?_
    refine r_iloadn (q := 78) DM_X5_tryNames_77 rfl rfl ?_
    refine r_iload (q := 80) DM_X5_tryNames_78 rfl rfl ?_
    refine r_iload (q := 82) DM_X5_tryNames_80 rfl rfl ?_
    have i2 := h.1
    replace h := h.2
    refine r_callVv [.inl x2, .inl x5, .inl x9] (q := 85) DM_X5_tryNames_82 rfl kM_X2_putLetter lRX5_49 (co0 cK_31) rfl rfl (by omega) (Nat.le_of_ble_eq_true rfl) rfl (k_X2_putLetter cK_31 i2 (fun μ3 e3 => ⟨rfl, ?_⟩))
    replace h := h μ3 e3
    refine r_aloadn (q := 86) DM_X5_tryNames_85 rfl rfl ?_
    refine r_aloadn (q := 87) DM_X5_tryNames_86 rfl rfl ?_
    refine r_iloadn (q := 88) DM_X5_tryNames_87 rfl rfl ?_
    refine r_iloadn (q := 89) DM_X5_tryNames_88 rfl rfl ?_
    refine r_iload (q := 91) DM_X5_tryNames_89 rfl rfl ?_
    refine r_iload (q := 93) DM_X5_tryNames_91 rfl rfl ?_
    refine r_iconst (q := 94) (n := 1) DM_X5_tryNames_93 rfl ?_
    refine r_iadd (q := 95) DM_X5_tryNames_94 rfl ?_
    refine r_iload (q := 97) DM_X5_tryNames_95 rfl rfl ?_
    refine r_callSi [.inr 31, .inr 4, .inl x2, .inl x3, .inl x4, .inl (x5 + 1), .inl y0] (q := 100) DM_X5_tryNames_97 rfl kM_X5_tryNames lRX5_42 rfl (by omega) (Nat.le_of_ble_eq_true rfl) rfl (Cl.imp h (fun vv μ4 h => ?_))
    obtain ⟨v5, hv, h⟩ := h
    refine ⟨_, hv, ?_⟩
    refine r_bbeq (q := 103) (t := 105) DM_X5_tryNames_100 rfl (by decide) ⟨fun cc => ?_, fun cc => ?_⟩
    · replace h := h.1 cc
      refine v_iinc (q := 108) (ls' := [some (.inr 31), some (.inr 4), some (.inl x2), some (.inl x3), some (.inl x4), some (.inl x5), some (.inl x6), some (.inl x7), some (.inl x8), some (.inl (x9 + 1)), some (.inl y0)]) DM_X5_tryNames_105 rfl rfl (by decide) rfl ?_
      refine r_goto (q := 46) DM_X5_tryNames_108 (by decide) ?_
      exact Gg.weak [true, true, true, true, true, true, true, true, true, true, false] h
    · replace h := h.2 cc
      refine r_iconst (q := 104) (n := 1) DM_X5_tryNames_103 rfl ?_
      exact r_ret (v := some (.inl 1)) ⟨DM_X5_tryNames_104, Or.inr ⟨rfl, Or.inr rfl⟩⟩ h
def nv (v : CV) (x : Int) (f : Int → Int) : CV := fun j i => if j = 5 ∧ x * 4 ≤ i ∧ i < x * 4 + 4 then f (i - x * 4) else v j i
/-- v with another name of x -/
def trX (v w : CV) (x : Int) : Prop := (∀ i, i ≤ 5 → w 0 i = v 0 i) ∧ (∀ j, 1 ≤ j → j ≤ 8 → j ≠ 5 → w j = v j) ∧ (∀ i, ¬ (x * 4 ≤ i ∧ i < x * 4 + 4) → w 5 i = v 5 i) ∧ ∀ i, 0 ≤ i → i < v 4 x → 0 ≤ w 5 (x * 4 + i) ∧ w 5 (x * 4 + i) ≤ 7
def Gz (v : CV) (x r t z : Int) : Prop := gk v r t < gk (nv v x (fun i => dgt 8 z (v 4 x - 1 - i).toNat)) x t
section P82
variable {E : Ex} {v w : CV} {x r t p : Int}
theorem nv_5 {f : Int → Int} {i : Int} (i0 : 0 ≤ i) (i1 : i < 4) : nv v x f 5 (x * 4 + i) = f i := by
  unfold nv
  rw [if_pos ⟨rfl, by omega, by omega⟩]
  congr 1; omega
theorem nv_ne {f : Int → Int} {j : Nat} (h : j ≠ 5) : nv v x f j = v j := by
  funext i; unfold nv; rw [if_neg (fun q => h q.1)]
theorem trX.ok (h : trX v w x) (hp : pOK v p) (hx : p = x ∨ p ≠ x) : pOK w p := by
  obtain ⟨-, h1, h5, hl⟩ := h
  obtain ⟨a, b, c, d, e⟩ := hp
  unfold pOK
  rw [h1 3 (by decide) (by decide) (by decide), h1 4 (by decide) (by decide) (by decide), h1 6 (by decide) (by decide) (by decide), h1 7 (by decide) (by decide) (by decide)]
  refine ⟨a, b, c, d, fun i i0 i1 => ?_⟩
  rcases hx with q | q
  · subst q; exact hl i i0 i1
  · rw [h5 _ (by omega)]; exact e i i0 i1
theorem trX.oo (h : trX v w x) (ho : oOK v) : oOK w := by
  unfold oOK at ho ⊢
  rw [h.2.1 1 (by decide) (by decide) (by decide), h.2.1 2 (by decide) (by decide) (by decide)]
  exact ho
theorem trX.gk (h : trX v w x) (hp : pOK v p) (hx : p ≠ x) : gk w p t = gk v p t := by
  have l := hp.2.1
  exact gk_congr (h.2.1 2 (by decide) (by decide) (by decide)) (by rw [h.2.1 3 (by decide) (by decide) (by decide)]) (by rw [h.2.1 4 (by decide) (by decide) (by decide)]) (fun i i0 i1 => h.2.2.1 _ (by omega))
theorem trX.gx {z : Int} (h : trX v w x) (hp : pOK v x) (hz : ∀ i, 0 ≤ i → i < v 4 x → w 5 (x * 4 + i) = dgt 8 z (v 4 x - 1 - i).toNat) : Jvm.Pilot.CAlphaCourtLaw_law_r2652_50ddd0.gk w x t = Jvm.Pilot.CAlphaCourtLaw_law_r2652_50ddd0.gk (nv v x (fun i => dgt 8 z (v 4 x - 1 - i).toNat)) x t := by
  have l := hp.2.1
  refine gk_congr ?_ ?_ ?_ (fun i i0 i1 => ?_)
  · rw [nv_ne (by decide)]; exact h.2.1 2 (by decide) (by decide) (by decide)
  · rw [nv_ne (by decide)]; rw [h.2.1 3 (by decide) (by decide) (by decide)]
  · rw [nv_ne (by decide)]; rw [h.2.1 4 (by decide) (by decide) (by decide)]
  · rw [nv_ne (by decide)] at i1
    rw [nv_5 i0 (by omega)]; exact hz i i0 i1
theorem trX.bef {z : Int} (h : trX v w x) (hx : 0 ≤ x ∧ x < 6) (hr : 0 ≤ r ∧ r < 6) (hrx : r ≠ x) (pr : pOK v r) (px : pOK v x) (ho : oOK v) (hz : ∀ i, 0 ≤ i → i < v 4 x → w 5 (x * 4 + i) = dgt 8 z (v 4 x - 1 - i).toNat) : cBef w r x t = true ↔ Gz v x r t z := by
  rw [cBef_key (h.ok pr (Or.inr hrx)) (h.ok px (Or.inl rfl)) (h.oo ho) hr hx, h.gx px hz, h.gk pr hrx]
  exact Iff.rfl
def TS (v : CV) (x : Int) (μ : Mem) : Prop := trX v (cv μ 31) x ∧ RgC μ 31 ∧ μ (4 + 4) = v 4 ∧ μ (4 + 5) = v 5
def tr1 (x p : Int) (μ μ1 : Mem) : Prop := (∀ k, k ≠ 36 → μ1 k = μ k) ∧ ∀ i, i < x * 4 + p → μ1 36 i = μ 36 i
theorem TS.put {μ : Mem} {l : Int} (h : TS v x μ) (hp : 0 ≤ p ∧ p < 4) (hl : 0 ≤ l ∧ l ≤ 7) : TS v x (up μ (31 + 5) (x * 4 + p) l) := by
  obtain ⟨⟨a, b, c, d⟩, e, f, g⟩ := h
  refine ⟨⟨fun i hi => ?_, fun j j1 j2 j5 => ?_, fun i hi => ?_, fun i i0 i1 => ?_⟩, RgC.up (j := 5) e (by omega), by rw [up_ne (by decide)]; exact f, by rw [up_ne (by decide)]; exact g⟩
  · show up μ 36 (x * 4 + p) l 31 i = v 0 i
    rw [up_ne (by decide)]; exact a i hi
  · show up μ 36 (x * 4 + p) l (31 + j) = v j
    rw [up_ne (by omega)]; exact b j j1 j2 j5
  · show up μ 36 (x * 4 + p) l 36 i = v 5 i
    rw [up_off (Or.inr (by omega))]; exact c i hi
  · show 0 ≤ up μ 36 (x * 4 + p) l 36 (x * 4 + i) ∧ up μ 36 (x * 4 + p) l 36 (x * 4 + i) ≤ 7
    by_cases e : i = p
    · rw [e, up_self]; exact hl
    · rw [up_off (Or.inr (by omega))]; exact d i i0 i1
theorem k_try {m0 : Int} (hR : RoOk E) (hx : 0 ≤ x ∧ x < 6) (hr : 0 ≤ r ∧ r < 6) (hrx : r ≠ x) (pr : pOK v r) (px : pOK v x) (ho : oOK v) : ∀ (rr : Nat) (p ch q : Int) (μ : Mem) (d : Nat) (Q : Option Vl → Mem → Prop), p + rr = v 4 x → 0 ≤ p → (0 ≤ ch ∧ ch ≤ 4) → 0 ≤ q → 3 + rr ≤ d → TS v x μ →
    (∀ z, 0 ≤ z → z / 8 ^ rr = q → (∀ i, 0 ≤ i → i < p → dgt 8 z (v 4 x - 1 - i).toNat = μ 36 (x * 4 + i)) ∧ oc (fun i => v 5 (x * 4 + i)) (v 4 x) z p + ch = m0) →
    (∀ μ1 : Mem, tr1 x p μ μ1 → TS v x μ1 → (∀ z, 0 ≤ z → z / 8 ^ rr = q → oc (fun i => v 5 (x * 4 + i)) (v 4 x) z (v 4 x) = m0 → ¬ Gz v x r t z) → Q (some (.inl (bi false))) μ1) →
    (∀ (μ1 : Mem) (z : Int), tr1 x p μ μ1 → TS v x μ1 → 0 ≤ z → z / 8 ^ rr = q → oc (fun i => v 5 (x * 4 + i)) (v 4 x) z (v 4 x) = m0 → Gz v x r t z → (∀ y, 0 ≤ y → y / 8 ^ rr = q → y < z → oc (fun i => v 5 (x * 4 + i)) (v 4 x) y (v 4 x) = m0 → ¬ Gz v x r t y) → (∀ i, 0 ≤ i → i < v 4 x → μ1 36 (x * 4 + i) = dgt 8 z (v 4 x - 1 - i).toNat) → Q (some (.inl (bi true))) μ1) →
    Cl E (d + 1) M_X5_tryNames [.inr 31, .inr 4, .inl x, .inl r, .inl t, .inl p, .inl ch] μ Q := by
  intro rr
  have l4 := px.2.1
  induction rr with
  | zero =>
    intro p ch q μ d Q hp p0 hch q0 hd ts pre hF hS
    obtain ⟨tx, tg, t4, t5⟩ := id ts
    have e4 : μ (4 + 4) x = v 4 x := by rw [t4]
    have q1 : q / 8 ^ 0 = q := by rw [Int.pow_zero, Int.ediv_one]
    have un : ∀ z : Int, z / 8 ^ 0 = q → z = q := fun z hz => by rwa [Int.pow_zero, Int.ediv_one] at hz
    obtain ⟨pq, oq⟩ := pre q q0 q1
    have pn : p = v 4 x := by omega
    rw [pn] at oq pq
    have bf := trX.bef (t := t) (z := q) tx hx hr hrx pr px ho (fun i i0 i1 => (pq i i0 i1).symm)
    refine s_X5_tryNames (by omega) ⟨hx, by omega, by omega, fun z => ⟨fun z2 => absurd z2 (by omega), fun _ => ⟨tg, hR, hr, tx.ok pr (Or.inr hrx), tx.ok px (Or.inl rfl), ?_⟩⟩, fun z => hF μ ⟨fun _ _ => rfl, fun _ _ => rfl⟩ ts (fun z z0 z1 z2 => ?_)⟩
    · cases hb : cBef (cv μ 31) r x t
      · exact hF μ ⟨fun _ _ => rfl, fun _ _ => rfl⟩ ts (fun z z0 z1 z2 gz => by rw [un z z1] at gz; rw [bf.mpr gz] at hb; exact absurd hb (by decide))
      · exact hS μ q ⟨fun _ _ => rfl, fun _ _ => rfl⟩ ts q0 q1 (by omega) (bf.mp hb) (fun y y0 y1 y2 => absurd (un y y1) (by omega)) (fun i i0 i1 => (pq i i0 i1).symm)
    · rw [un z z1] at z2; omega
  | succ rr ihr =>
    intro p ch q μ d Q hp p0 hch q0 hd ts pre hF hS
    obtain ⟨tx, tg, t4, t5⟩ := id ts
    have e4 : μ (4 + 4) x = v 4 x := by rw [t4]
    have pn : (v 4 x - 1 - p).toNat = rr := by omega
    refine s_X5_tryNames (by omega) ⟨hx, by omega, by omega, fun z => ⟨fun z2 => ⟨by omega, ?_⟩, fun z2 => absurd (by omega) z2⟩, fun z => hF μ ⟨fun _ _ => rfl, fun _ _ => rfl⟩ ts (fun z z0 z1 z2 => ?_)⟩
    · rw [show μ (4 + 5) (x * 4 + p) = v 5 (x * 4 + p) by rw [t5], e4]
      suffices hh : ∀ μ' : Mem, tr1 x p μ μ' → TS v x μ' → (∀ z, 0 ≤ z → z / 8 ^ (rr + 1) = q → dgt 8 z rr < 0 → oc (fun i => v 5 (x * 4 + i)) (v 4 x) z (v 4 x) = m0 → ¬ Gz v x r t z) → Gg E (d + 1) M_X5_tryNames 46 [some (.inr 31), some (.inr 4), some (.inl x), some (.inl r), some (.inl t), some (.inl p), some (.inl ch), some (.inl (v 4 x - p)), some (.inl (v 5 (x * 4 + p))), some (.inl 0), none] [] μ' Q from
        hh μ ⟨fun _ _ => rfl, fun _ _ => rfl⟩ ts (fun z z0 z1 z2 => absurd z2 (by have := dgt_rng (B := 8) (z := z) (m := rr) (by decide); omega))
      refine up_ind (N := 8) (P := fun l => ∀ μ' : Mem, tr1 x p μ μ' → TS v x μ' → (∀ z, 0 ≤ z → z / 8 ^ (rr + 1) = q → dgt 8 z rr < l → oc (fun i => v 5 (x * 4 + i)) (v 4 x) z (v 4 x) = m0 → ¬ Gz v x r t z) → Gg E (d + 1) M_X5_tryNames 46 [some (.inr 31), some (.inr 4), some (.inl x), some (.inl r), some (.inl t), some (.inl p), some (.inl ch), some (.inl (v 4 x - p)), some (.inl (v 5 (x * 4 + p))), some (.inl l), none] [] μ' Q) 0 (by decide) (fun μ' k1 ts' no => ?_) (fun l l0 l1 ih μ' k1 ts' no => ?_)
      · exact s_X5_tryNames_46 (by omega) ⟨by decide, fun _ => hF μ' k1 ts' (fun z z0 z1 z2 => no z z0 z1 (dgt_rng (by decide)).2 z2), fun z => absurd (by decide) z⟩
      · have ow := px.2.2.2.2 p p0 (by omega)
        have ows := @oc_succ
        have step : ∀ y0 : Int, y0 = ch - (if l = v 5 (x * 4 + p) then 0 else 1) → Gg E (d + 1) M_X5_tryNames 69 [some (.inr 31), some (.inr 4), some (.inl x), some (.inl r), some (.inl t), some (.inl p), some (.inl ch), some (.inl (v 4 x - p)), some (.inl (v 5 (x * 4 + p))), some (.inl l), none] [.inl y0] μ' Q := by
          intro y0 hy
          have hy2 : y0 = ch ∨ y0 = ch - 1 := by split at hy <;> omega
          refine s_X5_tryNames_69 (by omega) ⟨by omega, fun z => ih μ' k1 ts' (fun z z0 z1 z2 z3 => ?_), fun z => ⟨by omega, fun μ3 e3 => ?_⟩⟩
          · by_cases e : dgt 8 z rr = l
            · have a := (pre z z0 z1).2
              have b := oc_succ (z := z) (own := fun i => v 5 (x * 4 + i)) (n := v 4 x) p0
              have c := (oc_far (z := z) (own := fun i => v 5 (x * 4 + i)) (n := v 4 x) (p := p + 1) (by omega) (by omega)).1
              rw [pn, e] at b
              by_cases el : l = v 5 (x * 4 + p)
              · rw [if_pos el] at hy; omega
              · rw [if_neg el] at b; omega
            · exact no z z0 z1 (by omega) z3
          · obtain ⟨d', hd'⟩ : ∃ d', d = d' + 1 := ⟨d - 1, by omega⟩
            subst hd'
            have ts3 : TS v x μ3 := by rw [e3]; exact ts'.put (by omega) (by omega)
            have k3 : tr1 x p μ μ3 := ⟨fun k hk => by rw [e3, up_ne hk, k1.1 k hk], fun i hi => by rw [e3, up_off (Or.inr (by omega)), k1.2 i hi]⟩
            refine ihr (p + 1) y0 (q * 8 + l) μ3 d' _ (by omega) (by omega) (by omega) (by omega) (by omega) ts3 (fun z z0 z1 => ?_) (fun μ4 k4 ts4 no4 => ⟨_, rfl, fun _ => ih μ4 ?_ ts4 (fun z z0 z1 z2 z3 => ?_), fun q => absurd q (by decide)⟩) (fun μ4 z k4 ts4 z0 z1 z2 z3 z4 z5 => ⟨_, rfl, fun q => absurd q (by decide), fun _ => ?_⟩)
            · obtain ⟨u1, u2⟩ := blk_up (by decide) l0 l1 z1
              obtain ⟨a, b⟩ := pre z z0 u1
              refine ⟨fun i i0 i1 => ?_, ?_⟩
              · by_cases e : i = p
                · rw [e, pn, u2, e3]; exact up_self.symm
                · rw [a i i0 (by omega), k3.2 _ (by omega)]
              · rw [oc_succ p0, pn, u2]
                rw [hy]
                omega
            · exact ⟨fun k hk => by rw [k4.1 k hk, k3.1 k hk], fun i hi => by rw [k4.2 i (by omega), k3.2 i hi]⟩
            · by_cases e : dgt 8 z rr = l
              · exact no4 z z0 (by rw [blk_dn (by decide) z1, e]) z3
              · exact no z z0 z1 (by omega) z3
            · obtain ⟨u1, u2⟩ := blk_up (by decide) l0 l1 z1
              refine hS μ4 z ⟨fun k hk => by rw [k4.1 k hk, k3.1 k hk], fun i hi => by rw [k4.2 i (by omega), k3.2 i hi]⟩ ts4 z0 u1 z2 z3 (fun y y0 y1 y2 y3 => ?_) z5
              have yb := blk_dn (B := 8) (by decide) y1
              rcases (show dgt 8 y rr < l ∨ dgt 8 y rr = l ∨ l < dgt 8 y rr by omega) with e | e | e
              · exact no y y0 y1 e y3
              · exact z4 y y0 (by rw [yb, e]) y2 y3
              · exact absurd (blk_mono (B := 8) (m := rr) (y := z) (z := y) (by decide) (by rw [yb, z1]; omega)) (by omega)
        refine s_X5_tryNames_46 (by omega) ⟨by omega, fun z => absurd z (by omega), fun _ => ⟨by omega, fun z => step _ (by rw [if_neg z]), fun z => step _ (by rw [if_pos z]; omega)⟩⟩
    · have a := (pre z z0 z1).2
      have b := (oc_far (z := z) (own := fun i => v 5 (x * 4 + i)) (n := v 4 x) (p := p) (by omega) (by omega)).2
      omega
end P82
