/-! Court: names compared, people counted. -/
def pOK (v : CV) (p : Int) : Prop := (1 ≤ v 3 p ∧ v 3 p ≤ 5) ∧ (1 ≤ v 4 p ∧ v 4 p ≤ 4) ∧ (1 ≤ v 6 p ∧ v 6 p ≤ 30) ∧ (1 ≤ v 7 p ∧ v 7 p ≤ 99) ∧ ∀ i, 0 ≤ i → i < v 4 p → 0 ≤ v 5 (p * 4 + i) ∧ v 5 (p * 4 + i) ≤ 7
def oOK (v : CV) : Prop := ∀ i, 0 ≤ i → i < 8 → ((0 ≤ v 1 i ∧ v 1 i ≤ 7) ∧ v 2 (v 1 i) = i) ∧ (0 ≤ v 2 i ∧ v 2 i ≤ 7) ∧ v 1 (v 2 i) = i
def VC (v : CV) : Prop := ((v 0 0 = 0 ∧ v 0 1 = 0 ∧ v 0 2 = 0 ∧ v 0 3 = 0 ∧ v 0 4 = 0 ∧ v 0 5 = 0) ∨ (v 0 0 = 1 ∧ (1 ≤ v 0 2 ∧ v 0 2 ≤ 4) ∧ oOK v)) ∧ (0 ≤ v 0 1 ∧ v 0 1 ≤ 6) ∧ (0 ≤ v 0 3 ∧ v 0 3 ≤ 30) ∧ (0 ≤ v 0 4 ∧ v 0 4 ≤ 1500) ∧ (0 ≤ v 0 5 ∧ v 0 5 < 256) ∧ ∀ p, 0 ≤ p → p < v 0 1 → pOK v p
def RoOk (E : Ex) : Prop := ∀ j : Nat, j < 6 → eR E 0 j = [-1, 0, 1, 1, 0, 4].getD j 0 ∧ eR E 1 j = [1, 1, 1, 1, 2, 0].getD j 0 ∧ eR E 2 j = [10, 11, 12, 11, 13, 14].getD j 0 ∧ eR E 3 j = [20, 21, 24, 22, 23, 23].getD j 0
def gGrp (k : Int) : Int := if k = 5 then 0 else if k = 4 then 2 else 1
theorem RoOk.grp {E : Ex} (h : RoOk E) {k : Int} (h1 : 0 ≤ k) (h2 : k < 6) : eR E 1 k.toNat = gGrp k := by
  rw [(h k.toNat (by omega)).2.1]
  rcases (show k = 0 ∨ k = 1 ∨ k = 2 ∨ k = 3 ∨ k = 4 ∨ k = 5 by omega) with rfl | rfl | rfl | rfl | rfl | rfl <;> rfl
theorem gGrp_rng (k : Int) : 0 ≤ gGrp k ∧ gGrp k ≤ 2 := by unfold gGrp; split <;> (try split) <;> omega
def cCmpF (v : CV) (a b t : Int) : Nat → Int → Int
  | 0, _ => v 4 a - v 4 b
  | n + 1, i => if cRead v a i = cRead v b i then cCmpF v a b t n (i + 1) else cPlace v (cRead v a i) t - cPlace v (cRead v b i) t
def cCmp (v : CV) (a b t : Int) : Int := cCmpF v a b t (if v 4 b < v 4 a then v 4 b else v 4 a).toNat 0
def cBef (v : CV) (a b t : Int) : Bool := if gGrp (v 3 a) = gGrp (v 3 b) then (if cCmp v a b t = 0 then decide (a < b) else decide (cCmp v a b t < 0)) else decide (gGrp (v 3 a) < gGrp (v 3 b))
def cBits (v : CV) (p : Int) : Nat := foldI (fun i a => a ||| 2 ^ (v 5 (p * 4 + i)).toNat) 0 (v 4 p)
theorem cRead_rng {v : CV} {p i : Int} (h : pOK v p) (h1 : 0 ≤ i) (h2 : i < v 4 p) : 0 ≤ cRead v p i ∧ cRead v p i ≤ 7 := by
  unfold cRead
  split
  · exact h.2.2.2.2 _ (by omega) (by omega)
  · exact h.2.2.2.2 _ h1 h2
theorem cPlace_rng {v : CV} {l t : Int} : 0 ≤ cPlace v l t ∧ cPlace v l t ≤ 7 := by unfold cPlace; omega
theorem cCmpF_rng {v : CV} {a b t : Int} (ha : pOK v a) (hb : pOK v b) : ∀ (n : Nat) (i : Int), -10 ≤ cCmpF v a b t n i ∧ cCmpF v a b t n i ≤ 10
  | 0, _ => by have := ha.2.1; have := hb.2.1; unfold cCmpF; omega
  | n + 1, i => by
    unfold cCmpF
    split
    · exact cCmpF_rng ha hb n (i + 1)
    · have := cPlace_rng (v := v) (l := cRead v a i) (t := t); have := cPlace_rng (v := v) (l := cRead v b i) (t := t); omega
theorem cBits_lt {v : CV} {p : Int} (h : pOK v p) : ∀ i, 0 ≤ i → i ≤ v 4 p → foldI (fun i a => a ||| 2 ^ (v 5 (p * 4 + i)).toNat) 0 i < 256 := by
  refine foldI_inv (I := fun _ x => x < 256) (by decide) (fun i x h1 h2 hx => ?_)
  have := h.2.2.2.2 i h1 h2
  exact Nat.or_lt_two_pow (n := 8) hx (Nat.lt_of_le_of_lt (Nat.pow_le_pow_right (by decide) (show (v 5 (p * 4 + i)).toNat ≤ 7 by omega)) (by decide))
section C22
variable {E : Ex} {μ : Mem} {Q : Option Vl → Mem → Prop} {c : Nat} {p d b i l t a s : Int}
set_option maxRecDepth 20000 in
theorem s_X2_lettersAsBits {E : Ex} {μ : Mem} {Q : Option Vl → Mem → Prop} {x1 : Int} {c : Nat} (hc : coS c) (h : Gg E 1 M_X2_lettersAsBits 4 [some (.inr c), some (.inl x1), some (.inl 0), some (.inl 0)] [] μ Q) : Cl E 1 M_X2_lettersAsBits [.inr c, .inl x1] μ Q := by
  show Gg E 1 M_X2_lettersAsBits 0 [some (.inr c), some (.inl x1), none, none] [] μ Q
  refine r_iconst (q := 1) (n := 0) DM_X2_lettersAsBits_0 rfl ?_
  refine v_istoren (q := 2) (ls' := [some (.inr c), some (.inl x1), some (.inl 0), none]) DM_X2_lettersAsBits_1 rfl (by decide) rfl ?_
  refine r_iconst (q := 3) (n := 0) DM_X2_lettersAsBits_2 rfl ?_
  refine v_istoren (q := 4) (ls' := [some (.inr c), some (.inl x1), some (.inl 0), some (.inl 0)]) DM_X2_lettersAsBits_3 rfl (by decide) rfl ?_
  exact h
set_option maxRecDepth 20000 in
theorem s_X2_lettersAsBits_4 {E : Ex} {μ : Mem} {Q : Option Vl → Mem → Prop} {x1 x2 x3 : Int} {c : Nat} (hc : coS c) (h : (0 ≤ x1 ∧ x1 < 6) ∧ inR x3 ∧ inR (μ (c + 4) x1) ∧ (x3 ≥ (μ (c + 4) x1) → Q (some (.inl x2)) μ) ∧ (¬ x3 ≥ (μ (c + 4) x1) → (0 ≤ x1 * 4 + x3 ∧ x1 * 4 + x3 < 24) ∧ Gg E 1 M_X2_lettersAsBits 4 [some (.inr c), some (.inl x1), some (.inl (jor x2 (jshl 1 (μ (c + 5) (x1 * 4 + x3))))), some (.inl (x3 + 1))] [] μ Q)) : Gg E 1 M_X2_lettersAsBits 4 [some (.inr c), some (.inl x1), some (.inl x2), some (.inl x3)] [] μ Q := by
  refine r_iloadn (q := 5) DM_X2_lettersAsBits_4 rfl rfl ?_
  refine r_aloadn (q := 6) DM_X2_lettersAsBits_5 rfl rfl ?_
  refine r_getR (q := 9) (r := c + 4) DM_X2_lettersAsBits_6 rfl fRX2_21 (co0 hc) rfl ?_
  refine r_iloadn (q := 10) DM_X2_lettersAsBits_9 rfl rfl ?_
  refine r_iald (q := 11) DM_X2_lettersAsBits_10 rfl (co4 hc) (by decide) ⟨h.1, ?_⟩
  have i1 := h.1
  replace h := h.2
  have i2 := h.1
  replace h := h.2
  have i3 := h.1
  replace h := h.2
  refine r_icge (q := 14) (t := 31) DM_X2_lettersAsBits_11 rfl (by decide) ⟨⟨i2, i3⟩, fun cc => ?_, fun cc => ?_⟩
  · replace h := h.1 cc
    refine r_iloadn (q := 32) DM_X2_lettersAsBits_31 rfl rfl ?_
    exact r_ret (v := some (.inl x2)) ⟨DM_X2_lettersAsBits_32, Or.inl rfl⟩ h
  · replace h := h.2 cc
    refine r_iloadn (q := 15) DM_X2_lettersAsBits_14 rfl rfl ?_
    refine r_iconst (q := 16) (n := 1) DM_X2_lettersAsBits_15 rfl ?_
    refine r_aloadn (q := 17) DM_X2_lettersAsBits_16 rfl rfl ?_
    refine r_iloadn (q := 18) DM_X2_lettersAsBits_17 rfl rfl ?_
    refine r_iloadn (q := 19) DM_X2_lettersAsBits_18 rfl rfl ?_
    have i4 := h.1
    replace h := h.2
    refine r_callVi [.inl x1, .inl x3] (q := 22) DM_X2_lettersAsBits_19 rfl kM_X2_letterOf lRX2_66 (co0 hc) rfl rfl (by decide) (Nat.le_of_ble_eq_true rfl) rfl (k_X2_letterOf hc i4 ⟨_, rfl, ?_⟩)
    refine r_ishl (q := 23) DM_X2_lettersAsBits_22 rfl ?_
    refine r_ior (q := 24) DM_X2_lettersAsBits_23 rfl ?_
    refine v_istoren (q := 25) (ls' := [some (.inr c), some (.inl x1), some (.inl (jor x2 (jshl 1 (μ (c + 5) (x1 * 4 + x3))))), some (.inl x3)]) DM_X2_lettersAsBits_24 rfl (by decide) rfl ?_
    refine v_iinc (q := 28) (ls' := [some (.inr c), some (.inl x1), some (.inl (jor x2 (jshl 1 (μ (c + 5) (x1 * 4 + x3))))), some (.inl (x3 + 1))]) DM_X2_lettersAsBits_25 rfl rfl (by decide) rfl ?_
    refine r_goto (q := 4) DM_X2_lettersAsBits_28 (by decide) ?_
    exact h
theorem k_X2_lettersAsBits (hc : coS c) (hp : 0 ≤ p ∧ p < 6) (ho : pOK (cv μ c) p) (h : Q (some (.inl (cBits (cv μ c) p : Nat))) μ) : Cl E 1 M_X2_lettersAsBits [.inr c, .inl p] μ Q := by
  refine s_X2_lettersAsBits hc ?_
  have hl := ho.2.1
  simp only [cv] at hl
  let g : Int → Nat → Nat := fun i a => a ||| 2 ^ (μ (c + 5) (p * 4 + i)).toNat
  suffices hh : ∀ i, 0 ≤ i → i ≤ μ (c + 4) p → Gg E 1 M_X2_lettersAsBits 4 [some (.inr c), some (.inl p), some (.inl (foldI g 0 i : Nat)), some (.inl i)] [] μ Q by exact hh 0 (Int.le_refl 0) (by omega)
  intro i0 h0 h1
  refine up_ind (P := fun i => Gg E 1 M_X2_lettersAsBits 4 [some (.inr c), some (.inl p), some (.inl (foldI g 0 i : Nat)), some (.inl i)] [] μ Q) i0 h1 ?_ (fun i hi1 hi2 ih => ?_)
  · exact s_X2_lettersAsBits_4 hc ⟨hp, by omega, by omega, fun _ => h, fun z => absurd (Int.le_refl _) z⟩
  · refine s_X2_lettersAsBits_4 hc ⟨hp, by omega, by omega, fun z => absurd z (by omega), fun _ => ⟨by omega, ?_⟩⟩
    have hr := ho.2.2.2.2 i (by omega) hi2
    simp only [cv] at hr
    have e := bit_add (foldI g 0 i) (cBits_lt ho i (by omega) (show i ≤ μ (c + 4) p by omega)) (μ (c + 5) (p * 4 + i)).toNat (by omega)
    rw [Int.toNat_of_nonneg hr.1] at e
    rw [e]
    rw [foldI_succ (by omega)] at ih
    exact ih
set_option maxRecDepth 20000 in
theorem s_X2_compareNames {E : Ex} {μ : Mem} {Q : Option Vl → Mem → Prop} {x1 x2 x3 : Int} {c : Nat} (hc : coS c) (h : (0 ≤ x1 ∧ x1 < 6) ∧ (0 ≤ x2 ∧ x2 < 6) ∧ (inR (μ (c + 4) x1) ∧ inR (μ (c + 4) x2)) ∧ Gg E 1 M_X2_compareNames 20 [some (.inr c), some (.inl x1), some (.inl x2), some (.inl x3), some (.inl (if (μ (c + 4) x2) < (μ (c + 4) x1) then (μ (c + 4) x2) else (μ (c + 4) x1))), some (.inl 0), none, none] [] μ Q) : Cl E 1 M_X2_compareNames [.inr c, .inl x1, .inl x2, .inl x3] μ Q := by
  show Gg E 1 M_X2_compareNames 0 [some (.inr c), some (.inl x1), some (.inl x2), some (.inl x3), none, none, none, none] [] μ Q
  refine r_aloadn (q := 1) DM_X2_compareNames_0 rfl rfl ?_
  refine r_getR (q := 4) (r := c + 4) DM_X2_compareNames_1 rfl fRX2_21 (co0 hc) rfl ?_
  refine r_iloadn (q := 5) DM_X2_compareNames_4 rfl rfl ?_
  refine r_iald (q := 6) DM_X2_compareNames_5 rfl (co4 hc) (by decide) ⟨h.1, ?_⟩
  have i1 := h.1
  replace h := h.2
  refine r_aloadn (q := 7) DM_X2_compareNames_6 rfl rfl ?_
  refine r_getR (q := 10) (r := c + 4) DM_X2_compareNames_7 rfl fRX2_21 (co0 hc) rfl ?_
  refine r_iloadn (q := 11) DM_X2_compareNames_10 rfl rfl ?_
  refine r_iald (q := 12) DM_X2_compareNames_11 rfl (co4 hc) (by decide) ⟨h.1, ?_⟩
  have i2 := h.1
  replace h := h.2
  refine r_min (q := 15) DM_X2_compareNames_12 rfl lRX2_70 min_st min_in min_co (by decide) (Nat.le_of_ble_eq_true rfl) ⟨h.1, ?_⟩
  replace h := h.2
  refine v_istore (q := 17) (ls' := [some (.inr c), some (.inl x1), some (.inl x2), some (.inl x3), some (.inl (if (μ (c + 4) x2) < (μ (c + 4) x1) then (μ (c + 4) x2) else (μ (c + 4) x1))), none, none, none]) DM_X2_compareNames_15 rfl (by decide) rfl ?_
  refine r_iconst (q := 18) (n := 0) DM_X2_compareNames_17 rfl ?_
  refine v_istore (q := 20) (ls' := [some (.inr c), some (.inl x1), some (.inl x2), some (.inl x3), some (.inl (if (μ (c + 4) x2) < (μ (c + 4) x1) then (μ (c + 4) x2) else (μ (c + 4) x1))), some (.inl 0), none, none]) DM_X2_compareNames_18 rfl (by decide) rfl ?_
  exact h
set_option maxRecDepth 20000 in
theorem s_X2_compareNames_20 {E : Ex} {μ : Mem} {Q : Option Vl → Mem → Prop} {x1 x2 x3 x4 x5 : Int} {c : Nat} (hc : coS c) (h : inR x5 ∧ inR x4 ∧ (x5 ≥ x4 → (0 ≤ x1 ∧ x1 < 6) ∧ (0 ≤ x2 ∧ x2 < 6) ∧ Q (some (.inl ((μ (c + 4) x1) - (μ (c + 4) x2)))) μ) ∧ (¬ x5 ≥ x4 → (RgC μ c) ∧ (0 ≤ x1 ∧ x1 < 6) ∧ (0 ≤ x5 ∧ x5 < μ (c + 4) x1) ∧ (μ (c + 4) x1 ≤ 4) ∧ (0 ≤ x2 ∧ x2 < 6) ∧ (0 ≤ x5 ∧ x5 < μ (c + 4) x2) ∧ (μ (c + 4) x2 ≤ 4) ∧ inR (cRead (cv μ c) x1 x5) ∧ inR (cRead (cv μ c) x2 x5) ∧ ((cRead (cv μ c) x1 x5) = (cRead (cv μ c) x2 x5) → Gg E 1 M_X2_compareNames 20 [some (.inr c), some (.inl x1), some (.inl x2), some (.inl x3), some (.inl x4), some (.inl (x5 + 1)), none, none] [] μ Q) ∧ (¬ (cRead (cv μ c) x1 x5) = (cRead (cv μ c) x2 x5) → (0 ≤ (cRead (cv μ c) x1 x5) ∧ (cRead (cv μ c) x1 x5) < 8) ∧ (0 ≤ (cRead (cv μ c) x2 x5) ∧ (cRead (cv μ c) x2 x5) < 8) ∧ Q (some (.inl ((cPlace (cv μ c) (cRead (cv μ c) x1 x5) x3) - (cPlace (cv μ c) (cRead (cv μ c) x2 x5) x3)))) μ))) : Gg E 1 M_X2_compareNames 20 [some (.inr c), some (.inl x1), some (.inl x2), some (.inl x3), some (.inl x4), some (.inl x5), none, none] [] μ Q := by
  refine r_iload (q := 22) DM_X2_compareNames_20 rfl rfl ?_
  refine r_iload (q := 24) DM_X2_compareNames_22 rfl rfl ?_
  have i1 := h.1
  replace h := h.2
  have i2 := h.1
  replace h := h.2
  refine r_icge (q := 27) (t := 74) DM_X2_compareNames_24 rfl (by decide) ⟨⟨i1, i2⟩, fun cc => ?_, fun cc => ?_⟩
  · replace h := h.1 cc
    refine r_aloadn (q := 75) DM_X2_compareNames_74 rfl rfl ?_
    refine r_getR (q := 78) (r := c + 4) DM_X2_compareNames_75 rfl fRX2_21 (co0 hc) rfl ?_
    refine r_iloadn (q := 79) DM_X2_compareNames_78 rfl rfl ?_
    refine r_iald (q := 80) DM_X2_compareNames_79 rfl (co4 hc) (by decide) ⟨h.1, ?_⟩
    have i3 := h.1
    replace h := h.2
    refine r_aloadn (q := 81) DM_X2_compareNames_80 rfl rfl ?_
    refine r_getR (q := 84) (r := c + 4) DM_X2_compareNames_81 rfl fRX2_21 (co0 hc) rfl ?_
    refine r_iloadn (q := 85) DM_X2_compareNames_84 rfl rfl ?_
    refine r_iald (q := 86) DM_X2_compareNames_85 rfl (co4 hc) (by decide) ⟨h.1, ?_⟩
    have i4 := h.1
    replace h := h.2
    refine r_isub (q := 87) DM_X2_compareNames_86 rfl ?_
    exact r_ret (v := some (.inl ((μ (c + 4) x1) - (μ (c + 4) x2)))) ⟨DM_X2_compareNames_87, Or.inl rfl⟩ h
  · replace h := h.2 cc
    refine r_aloadn (q := 28) DM_X2_compareNames_27 rfl rfl ?_
    refine r_iloadn (q := 29) DM_X2_compareNames_28 rfl rfl ?_
    refine r_iload (q := 31) DM_X2_compareNames_29 rfl rfl ?_
    have i5 := h.1
    replace h := h.2
    have i6 := h.1
    replace h := h.2
    have i7 := h.1
    replace h := h.2
    have i8 := h.1
    replace h := h.2
    refine r_callVi [.inl x1, .inl x5] (q := 34) DM_X2_compareNames_31 rfl kM_X2_letterAsRead lRX2_75 (co0 hc) rfl rfl (by decide) (Nat.le_of_ble_eq_true rfl) rfl (k_X2_letterAsRead hc i5 i6 i7 i8 ⟨_, rfl, ?_⟩)
    refine v_istore (q := 36) (ls' := [some (.inr c), some (.inl x1), some (.inl x2), some (.inl x3), some (.inl x4), some (.inl x5), some (.inl (cRead (cv μ c) x1 x5)), none]) DM_X2_compareNames_34 rfl (by decide) rfl ?_
    refine r_aloadn (q := 37) DM_X2_compareNames_36 rfl rfl ?_
    refine r_iloadn (q := 38) DM_X2_compareNames_37 rfl rfl ?_
    refine r_iload (q := 40) DM_X2_compareNames_38 rfl rfl ?_
    have i9 := h.1
    replace h := h.2
    have i10 := h.1
    replace h := h.2
    have i11 := h.1
    replace h := h.2
    refine r_callVi [.inl x2, .inl x5] (q := 43) DM_X2_compareNames_40 rfl kM_X2_letterAsRead lRX2_75 (co0 hc) rfl rfl (by decide) (Nat.le_of_ble_eq_true rfl) rfl (k_X2_letterAsRead hc i5 i9 i10 i11 ⟨_, rfl, ?_⟩)
    refine v_istore (q := 45) (ls' := [some (.inr c), some (.inl x1), some (.inl x2), some (.inl x3), some (.inl x4), some (.inl x5), some (.inl (cRead (cv μ c) x1 x5)), some (.inl (cRead (cv μ c) x2 x5))]) DM_X2_compareNames_43 rfl (by decide) rfl ?_
    refine r_iload (q := 47) DM_X2_compareNames_45 rfl rfl ?_
    refine r_iload (q := 49) DM_X2_compareNames_47 rfl rfl ?_
    have i12 := h.1
    replace h := h.2
    have i13 := h.1
    replace h := h.2
    refine r_iceq (q := 52) (t := 68) DM_X2_compareNames_49 rfl (by decide) ⟨⟨i12, i13⟩, fun cc => ?_, fun cc => ?_⟩
    · replace h := h.1 cc
      refine v_iinc (q := 71) (ls' := [some (.inr c), some (.inl x1), some (.inl x2), some (.inl x3), some (.inl x4), some (.inl (x5 + 1)), some (.inl (cRead (cv μ c) x1 x5)), some (.inl (cRead (cv μ c) x2 x5))]) DM_X2_compareNames_68 rfl rfl (by decide) rfl ?_
      refine r_goto (q := 20) DM_X2_compareNames_71 (by decide) ?_
      exact Gg.weak [true, true, true, true, true, true, false, false] h
    · replace h := h.2 cc
      refine r_aloadn (q := 53) DM_X2_compareNames_52 rfl rfl ?_
      refine r_iload (q := 55) DM_X2_compareNames_53 rfl rfl ?_
      refine r_iloadn (q := 56) DM_X2_compareNames_55 rfl rfl ?_
      have i14 := h.1
      replace h := h.2
      refine r_callVi [.inl (cRead (cv μ c) x1 x5), .inl x3] (q := 59) DM_X2_compareNames_56 rfl kM_X2_placeInOrder lRX2_78 (co0 hc) rfl rfl (by decide) (Nat.le_of_ble_eq_true rfl) rfl (k_X2_placeInOrder hc i14 ⟨_, rfl, ?_⟩)
      refine r_aloadn (q := 60) DM_X2_compareNames_59 rfl rfl ?_
      refine r_iload (q := 62) DM_X2_compareNames_60 rfl rfl ?_
      refine r_iloadn (q := 63) DM_X2_compareNames_62 rfl rfl ?_
      have i15 := h.1
      replace h := h.2
      refine r_callVi [.inl (cRead (cv μ c) x2 x5), .inl x3] (q := 66) DM_X2_compareNames_63 rfl kM_X2_placeInOrder lRX2_78 (co0 hc) rfl rfl (by decide) (Nat.le_of_ble_eq_true rfl) rfl (k_X2_placeInOrder hc i15 ⟨_, rfl, ?_⟩)
      refine r_isub (q := 67) DM_X2_compareNames_66 rfl ?_
      exact r_ret (v := some (.inl ((cPlace (cv μ c) (cRead (cv μ c) x1 x5) x3) - (cPlace (cv μ c) (cRead (cv μ c) x2 x5) x3)))) ⟨DM_X2_compareNames_67, Or.inl rfl⟩ h
theorem k_X2_compareNames (hc : coS c) (hg : RgC μ c) (ha : 0 ≤ a ∧ a < 6) (hb : 0 ≤ b ∧ b < 6) (pa : pOK (cv μ c) a) (pb : pOK (cv μ c) b) (h : Q (some (.inl (cCmp (cv μ c) a b t))) μ) : Cl E 1 M_X2_compareNames [.inr c, .inl a, .inl b, .inl t] μ Q := by
  have la := pa.2.1
  have lb := pb.2.1
  simp only [cv] at la lb
  refine s_X2_compareNames hc ⟨ha, hb, by omega, ?_⟩
  have hm : ∃ m, m = (if μ (c + 4) b < μ (c + 4) a then μ (c + 4) b else μ (c + 4) a) ∧ 0 ≤ m ∧ m ≤ μ (c + 4) a ∧ m ≤ μ (c + 4) b := ⟨_, rfl, by split <;> omega⟩
  replace h : Q (some (.inl (cCmpF (cv μ c) a b t (if μ (c + 4) b < μ (c + 4) a then μ (c + 4) b else μ (c + 4) a).toNat 0))) μ := h
  obtain ⟨m, em, m0, m1, m2⟩ := hm
  rw [← em] at h ⊢
  have key : ∀ (n : Nat) (i : Int), 0 ≤ i → i + n = m → Q (some (.inl (cCmpF (cv μ c) a b t n i))) μ → Gg E 1 M_X2_compareNames 20 [some (.inr c), some (.inl a), some (.inl b), some (.inl t), some (.inl m), some (.inl i), none, none] [] μ Q := by
    intro n
    induction n with
    | zero =>
      intro i h0 h1 hq
      exact s_X2_compareNames_20 hc ⟨by omega, by omega, fun _ => ⟨ha, hb, hq⟩, fun z => absurd (show i ≥ m by omega) z⟩
    | succ n ih =>
      intro i h0 h1 hq
      have ra := cRead_rng pa h0 (show i < μ (c + 4) a by omega)
      have rb := cRead_rng pb h0 (show i < μ (c + 4) b by omega)
      unfold cCmpF at hq
      refine s_X2_compareNames_20 hc ⟨by omega, by omega, fun z => absurd z (by omega), fun _ => ⟨hg, ha, by omega, by omega, hb, by omega, by omega, by omega, by omega, fun e => ?_, fun e => ⟨by omega, by omega, ?_⟩⟩⟩
      · rw [if_pos e] at hq
        exact ih (i + 1) (by omega) (by omega) hq
      · rwa [if_neg e] at hq
  exact key m.toNat 0 (Int.le_refl 0) (by omega) h
set_option maxRecDepth 20000 in
theorem s_X2_isBefore {E : Ex} {μ : Mem} {Q : Option Vl → Mem → Prop} {x1 x2 x3 : Int} {c : Nat} (hc : coS c) (h : (0 ≤ x1 ∧ x1 < 6) ∧ (0 ≤ (μ (c + 3) x1) ∧ (μ (c + 3) x1) < 6) ∧ (0 ≤ x2 ∧ x2 < 6) ∧ (0 ≤ (μ (c + 3) x2) ∧ (μ (c + 3) x2) < 6) ∧ inR ((eR E 1 ((μ (c + 3) x1)).toNat) - (eR E 1 ((μ (c + 3) x2)).toNat)) ∧ (((eR E 1 ((μ (c + 3) x1)).toNat) - (eR E 1 ((μ (c + 3) x2)).toNat)) = 0 → (RgC μ c) ∧ (pOK (cv μ c) x1) ∧ (pOK (cv μ c) x2) ∧ inR (cCmp (cv μ c) x1 x2 x3) ∧ ((cCmp (cv μ c) x1 x2 x3) ≠ 0 → ((cCmp (cv μ c) x1 x2 x3) ≥ 0 → Q (some (.inl (bi false))) μ) ∧ (¬ (cCmp (cv μ c) x1 x2 x3) ≥ 0 → Q (some (.inl (bi true))) μ)) ∧ ((cCmp (cv μ c) x1 x2 x3) = 0 → inR x1 ∧ inR x2 ∧ (x1 ≥ x2 → Q (some (.inl (bi false))) μ) ∧ (¬ x1 ≥ x2 → Q (some (.inl (bi true))) μ))) ∧ (¬ ((eR E 1 ((μ (c + 3) x1)).toNat) - (eR E 1 ((μ (c + 3) x2)).toNat)) = 0 → (((eR E 1 ((μ (c + 3) x1)).toNat) - (eR E 1 ((μ (c + 3) x2)).toNat)) ≥ 0 → Q (some (.inl (bi false))) μ) ∧ (¬ ((eR E 1 ((μ (c + 3) x1)).toNat) - (eR E 1 ((μ (c + 3) x2)).toNat)) ≥ 0 → Q (some (.inl (bi true))) μ))) : Cl E 2 M_X2_isBefore [.inr c, .inl x1, .inl x2, .inl x3] μ Q := by
  show Gg E 2 M_X2_isBefore 0 [some (.inr c), some (.inl x1), some (.inl x2), some (.inl x3), none, none] [] μ Q
  refine r_getsN (q := 3) (t := 1) DM_X2_isBefore_0 rfl (by decide) zRX2_81 ?_
  refine r_aloadn (q := 4) DM_X2_isBefore_3 rfl rfl ?_
  refine r_getR (q := 7) (r := c + 3) DM_X2_isBefore_4 rfl fRX2_18 (co0 hc) rfl ?_
  refine r_iloadn (q := 8) DM_X2_isBefore_7 rfl rfl ?_
  refine r_iald (q := 9) DM_X2_isBefore_8 rfl (co3 hc) (by decide) ⟨h.1, ?_⟩
  have i1 := h.1
  replace h := h.2
  refine v_tald (q := 10) (t := 1) (N := 6) DM_X2_isBefore_9 rfl (by decide) rfl ⟨h.1, ?_⟩
  replace h := h.2
  refine r_getsN (q := 13) (t := 1) DM_X2_isBefore_10 rfl (by decide) zRX2_81 ?_
  refine r_aloadn (q := 14) DM_X2_isBefore_13 rfl rfl ?_
  refine r_getR (q := 17) (r := c + 3) DM_X2_isBefore_14 rfl fRX2_18 (co0 hc) rfl ?_
  refine r_iloadn (q := 18) DM_X2_isBefore_17 rfl rfl ?_
  refine r_iald (q := 19) DM_X2_isBefore_18 rfl (co3 hc) (by decide) ⟨h.1, ?_⟩
  have i2 := h.1
  replace h := h.2
  refine v_tald (q := 20) (t := 1) (N := 6) DM_X2_isBefore_19 rfl (by decide) rfl ⟨h.1, ?_⟩
  replace h := h.2
  refine r_isub (q := 21) DM_X2_isBefore_20 rfl ?_
  refine v_istore (q := 23) (ls' := [some (.inr c), some (.inl x1), some (.inl x2), some (.inl x3), some (.inl ((eR E 1 ((μ (c + 3) x1)).toNat) - (eR E 1 ((μ (c + 3) x2)).toNat))), none]) DM_X2_isBefore_21 rfl (by decide) rfl ?_
  refine r_iload (q := 25) DM_X2_isBefore_23 rfl rfl ?_
  have i3 := h.1
  replace h := h.2
  refine r_ifeq (q := 28) (t := 39) DM_X2_isBefore_25 rfl (by decide) ⟨i3, fun cc => ?_, fun cc => ?_⟩
  · replace h := h.1 cc
    refine r_aloadn (q := 40) DM_X2_isBefore_39 rfl rfl ?_
    refine r_iloadn (q := 41) DM_X2_isBefore_40 rfl rfl ?_
    refine r_iloadn (q := 42) DM_X2_isBefore_41 rfl rfl ?_
    refine r_iloadn (q := 43) DM_X2_isBefore_42 rfl rfl ?_
    have i4 := h.1
    replace h := h.2
    have i5 := h.1
    replace h := h.2
    have i6 := h.1
    replace h := h.2
    refine r_callVi [.inl x1, .inl x2, .inl x3] (q := 46) DM_X2_isBefore_43 rfl kM_X2_compareNames lRX2_84 (co0 hc) rfl rfl (by decide) (Nat.le_of_ble_eq_true rfl) rfl (k_X2_compareNames hc i4 i1 i2 i5 i6 ⟨_, rfl, ?_⟩)
    refine v_istore (q := 48) (ls' := [some (.inr c), some (.inl x1), some (.inl x2), some (.inl x3), some (.inl ((eR E 1 ((μ (c + 3) x1)).toNat) - (eR E 1 ((μ (c + 3) x2)).toNat))), some (.inl (cCmp (cv μ c) x1 x2 x3))]) DM_X2_isBefore_46 rfl (by decide) rfl ?_
    refine r_iload (q := 50) DM_X2_isBefore_48 rfl rfl ?_
    have i7 := h.1
    replace h := h.2
    refine r_ifne (q := 53) (t := 66) DM_X2_isBefore_50 rfl (by decide) ⟨i7, fun cc => ?_, fun cc => ?_⟩
    · replace h := h.1 cc
      refine r_iload (q := 68) DM_X2_isBefore_66 rfl rfl ?_
      refine r_ifge (q := 71) (t := 75) DM_X2_isBefore_68 rfl (by decide) ⟨i7, fun cc => ?_, fun cc => ?_⟩
      · replace h := h.1 cc
        refine r_iconst (q := 76) (n := 0) DM_X2_isBefore_75 rfl ?_
        exact r_ret (v := some (.inl 0)) ⟨DM_X2_isBefore_76, Or.inr ⟨rfl, Or.inl rfl⟩⟩ h
      · replace h := h.2 cc
        refine r_iconst (q := 72) (n := 1) DM_X2_isBefore_71 rfl ?_
        refine r_goto (q := 76) DM_X2_isBefore_72 (by decide) ?_
        exact r_ret (v := some (.inl 1)) ⟨DM_X2_isBefore_76, Or.inr ⟨rfl, Or.inr rfl⟩⟩ h
    · replace h := h.2 cc
      refine r_iloadn (q := 54) DM_X2_isBefore_53 rfl rfl ?_
      refine r_iloadn (q := 55) DM_X2_isBefore_54 rfl rfl ?_
      have i8 := h.1
      replace h := h.2
      have i9 := h.1
      replace h := h.2
      refine r_icge (q := 58) (t := 62) DM_X2_isBefore_55 rfl (by decide) ⟨⟨i8, i9⟩, fun cc => ?_, fun cc => ?_⟩
      · replace h := h.1 cc
        refine r_iconst (q := 63) (n := 0) DM_X2_isBefore_62 rfl ?_
        refine r_goto (q := 76) DM_X2_isBefore_63 (by decide) ?_
        exact r_ret (v := some (.inl 0)) ⟨DM_X2_isBefore_76, Or.inr ⟨rfl, Or.inl rfl⟩⟩ h
      · replace h := h.2 cc
        refine r_iconst (q := 59) (n := 1) DM_X2_isBefore_58 rfl ?_
        refine r_goto (q := 76) DM_X2_isBefore_59 (by decide) ?_
        exact r_ret (v := some (.inl 1)) ⟨DM_X2_isBefore_76, Or.inr ⟨rfl, Or.inr rfl⟩⟩ h
  · replace h := h.2 cc
    refine r_iload (q := 30) DM_X2_isBefore_28 rfl rfl ?_
    refine r_ifge (q := 33) (t := 37) DM_X2_isBefore_30 rfl (by decide) ⟨i3, fun cc => ?_, fun cc => ?_⟩
    · replace h := h.1 cc
      refine r_iconst (q := 38) (n := 0) DM_X2_isBefore_37 rfl ?_
      exact r_ret (v := some (.inl 0)) ⟨DM_X2_isBefore_38, Or.inr ⟨rfl, Or.inl rfl⟩⟩ h
    · replace h := h.2 cc
      refine r_iconst (q := 34) (n := 1) DM_X2_isBefore_33 rfl ?_
      refine r_goto (q := 38) DM_X2_isBefore_34 (by decide) ?_
      exact r_ret (v := some (.inl 1)) ⟨DM_X2_isBefore_38, Or.inr ⟨rfl, Or.inr rfl⟩⟩ h
theorem k_X2_isBefore (hc : coS c) (hg : RgC μ c) (hR : RoOk E) (ha : 0 ≤ a ∧ a < 6) (hb : 0 ≤ b ∧ b < 6) (pa : pOK (cv μ c) a) (pb : pOK (cv μ c) b) (h : Q (some (.inl (bi (cBef (cv μ c) a b t)))) μ) : Cl E 2 M_X2_isBefore [.inr c, .inl a, .inl b, .inl t] μ Q := by
  have ka := pa.1
  have kb := pb.1
  have r := cCmpF_rng (t := t) pa pb
  have rr := r (if cv μ c 4 b < cv μ c 4 a then cv μ c 4 b else cv μ c 4 a).toNat 0
  simp only [cv] at ka kb
  have ga := gGrp_rng (μ (c + 3) a)
  have gb := gGrp_rng (μ (c + 3) b)
  have e1 := hR.grp (k := μ (c + 3) a) (by omega) (by omega)
  have e2 := hR.grp (k := μ (c + 3) b) (by omega) (by omega)
  refine s_X2_isBefore hc ?_
  rw [e1, e2]
  unfold cBef at h
  refine ⟨ha, by omega, hb, by omega, by omega, fun z => ?_, fun z => ⟨fun z2 => ?_, fun z2 => ?_⟩⟩
  · rw [if_pos (show gGrp (cv μ c 3 a) = gGrp (cv μ c 3 b) by simp only [cv]; omega)] at h
    refine ⟨hg, pa, pb, ?_, fun z2 => ⟨fun z3 => ?_, fun z3 => ?_⟩, fun z2 => ⟨by omega, by omega, fun z3 => ?_, fun z3 => ?_⟩⟩
    · unfold cCmp; omega
    · rwa [if_neg z2, decide_eq_false (by omega)] at h
    · rwa [if_neg z2, decide_eq_true (by omega)] at h
    · rwa [if_pos z2, decide_eq_false (by omega)] at h
    · rwa [if_pos z2, decide_eq_true (by omega)] at h
  · rwa [if_neg (show ¬ gGrp (cv μ c 3 a) = gGrp (cv μ c 3 b) by simp only [cv]; omega), decide_eq_false (by simp only [cv]; omega)] at h
  · rwa [if_neg (show ¬ gGrp (cv μ c 3 a) = gGrp (cv μ c 3 b) by simp only [cv]; omega), decide_eq_true (by simp only [cv]; omega)] at h
set_option maxRecDepth 20000 in
theorem s_X2_howMany {E : Ex} {μ : Mem} {Q : Option Vl → Mem → Prop} {x1 : Int} {c : Nat} (hc : coS c) (h : Gg E 3 M_X2_howMany 4 [some (.inr c), some (.inl x1), some (.inl 0), some (.inl 0)] [] μ Q) : Cl E 3 M_X2_howMany [.inr c, .inl x1] μ Q := by
  show Gg E 3 M_X2_howMany 0 [some (.inr c), some (.inl x1), none, none] [] μ Q
  refine r_iconst (q := 1) (n := 0) DM_X2_howMany_0 rfl ?_
  refine v_istoren (q := 2) (ls' := [some (.inr c), some (.inl x1), some (.inl 0), none]) DM_X2_howMany_1 rfl (by decide) rfl ?_
  refine r_iconst (q := 3) (n := 0) DM_X2_howMany_2 rfl ?_
  refine v_istoren (q := 4) (ls' := [some (.inr c), some (.inl x1), some (.inl 0), some (.inl 0)]) DM_X2_howMany_3 rfl (by decide) rfl ?_
  exact h
set_option maxRecDepth 20000 in
theorem s_X2_howMany_4 {E : Ex} {μ : Mem} {Q : Option Vl → Mem → Prop} {x1 x2 x3 : Int} {c : Nat} (hc : coS c) (h : inR x3 ∧ inR (μ c 1) ∧ (x3 ≥ (μ c 1) → Q (some (.inl x2)) μ) ∧ (¬ x3 ≥ (μ c 1) → (RgC μ c) ∧ (0 ≤ x3 ∧ x3 < 6) ∧ inR (cState (cv μ c) x3 (μ c 4)) ∧ inR x1 ∧ ((cState (cv μ c) x3 (μ c 4)) ≠ x1 → Gg E 3 M_X2_howMany 4 [some (.inr c), some (.inl x1), some (.inl x2), some (.inl (x3 + 1))] [] μ Q) ∧ ((cState (cv μ c) x3 (μ c 4)) = x1 → Gg E 3 M_X2_howMany 4 [some (.inr c), some (.inl x1), some (.inl (x2 + 1)), some (.inl (x3 + 1))] [] μ Q))) : Gg E 3 M_X2_howMany 4 [some (.inr c), some (.inl x1), some (.inl x2), some (.inl x3)] [] μ Q := by
  refine r_iloadn (q := 5) DM_X2_howMany_4 rfl rfl ?_
  refine r_aloadn (q := 6) DM_X2_howMany_5 rfl rfl ?_
  refine v_getI (q := 9) (ji := 1) DM_X2_howMany_6 rfl fRX2_43 (co0 hc) rfl rfl ?_
  have i1 := h.1
  replace h := h.2
  have i2 := h.1
  replace h := h.2
  refine r_icge (q := 12) (t := 30) DM_X2_howMany_9 rfl (by decide) ⟨⟨i1, i2⟩, fun cc => ?_, fun cc => ?_⟩
  · replace h := h.1 cc
    refine r_iloadn (q := 31) DM_X2_howMany_30 rfl rfl ?_
    exact r_ret (v := some (.inl x2)) ⟨DM_X2_howMany_31, Or.inl rfl⟩ h
  · replace h := h.2 cc
    refine r_aloadn (q := 13) DM_X2_howMany_12 rfl rfl ?_
    refine r_iloadn (q := 14) DM_X2_howMany_13 rfl rfl ?_
    have i3 := h.1
    replace h := h.2
    have i4 := h.1
    replace h := h.2
    refine r_callVi [.inl x3] (q := 17) DM_X2_howMany_14 rfl kM_X2_stateOf lRX2_103 (co0 hc) rfl rfl (by decide) (Nat.le_of_ble_eq_true rfl) rfl (k_X2_stateOf hc i3 i4 ⟨_, rfl, ?_⟩)
    refine r_iloadn (q := 18) DM_X2_howMany_17 rfl rfl ?_
    have i5 := h.1
    replace h := h.2
    have i6 := h.1
    replace h := h.2
    refine r_icne (q := 21) (t := 24) DM_X2_howMany_18 rfl (by decide) ⟨⟨i5, i6⟩, fun cc => ?_, fun cc => ?_⟩
    · replace h := h.1 cc
      refine v_iinc (q := 27) (ls' := [some (.inr c), some (.inl x1), some (.inl x2), some (.inl (x3 + 1))]) DM_X2_howMany_24 rfl rfl (by decide) rfl ?_
      refine r_goto (q := 4) DM_X2_howMany_27 (by decide) ?_
      exact h
    · replace h := h.2 cc
      refine v_iinc (q := 24) (ls' := [some (.inr c), some (.inl x1), some (.inl (x2 + 1)), some (.inl x3)]) DM_X2_howMany_21 rfl rfl (by decide) rfl ?_
      refine v_iinc (q := 27) (ls' := [some (.inr c), some (.inl x1), some (.inl (x2 + 1)), some (.inl (x3 + 1))]) DM_X2_howMany_24 rfl rfl (by decide) rfl ?_
      refine r_goto (q := 4) DM_X2_howMany_27 (by decide) ?_
      exact h
theorem cState_rng {v : CV} {p d : Int} : 0 ≤ cState v p d ∧ cState v p d ≤ 3 := by unfold cState; split <;> split <;> omega
theorem k_X2_howMany (hc : coS c) (hg : RgC μ c) (hn : 0 ≤ μ c 1 ∧ μ c 1 ≤ 6) (hs : inR s) (h : Q (some (.inl (cntI (fun p => decide (cState (cv μ c) p (μ c 4) = s)) (μ c 1)))) μ) : Cl E 3 M_X2_howMany [.inr c, .inl s] μ Q := by
  refine s_X2_howMany hc ?_
  refine up_ind (N := μ c 1) (P := fun p => Gg E 3 M_X2_howMany 4 [some (.inr c), some (.inl s), some (.inl (cntI (fun p => decide (cState (cv μ c) p (μ c 4) = s)) p)), some (.inl p)] [] μ Q) 0 hn.1 ?_ (fun p h1 h2 ih => ?_)
  · exact s_X2_howMany_4 hc ⟨by omega, by omega, fun _ => h, fun z => absurd (Int.le_refl _) z⟩
  · have r := cState_rng (v := cv μ c) (p := p) (d := μ c 4)
    rw [cntI_succ h1] at ih
    refine s_X2_howMany_4 hc ⟨by omega, by omega, fun z => absurd z (by omega), fun _ => ⟨hg, by omega, by omega, hs, fun z => ?_, fun z => ?_⟩⟩
    · rwa [decide_eq_false z, show bi false = 0 from rfl, Int.add_zero] at ih
    · rwa [decide_eq_true z, show bi true = 1 from rfl] at ih
set_option maxRecDepth 20000 in
theorem s_X2_howManyBefore {E : Ex} {μ : Mem} {Q : Option Vl → Mem → Prop} {x1 : Int} {c : Nat} (hc : coS c) (h : (0 ≤ μ c 3 ∧ μ c 3 ≤ 2000000) ∧ (0 ≤ (μ c 4) ∧ (μ c 4) < 2147483648) ∧ Gg E 3 M_X2_howManyBefore 15 [some (.inr c), some (.inl x1), some (.inl (cTurn (cv μ c) (μ c 4) 0)), some (.inl 0), some (.inl 0)] [] μ Q) : Cl E 3 M_X2_howManyBefore [.inr c, .inl x1] μ Q := by
  show Gg E 3 M_X2_howManyBefore 0 [some (.inr c), some (.inl x1), none, none, none] [] μ Q
  refine r_aloadn (q := 1) DM_X2_howManyBefore_0 rfl rfl ?_
  refine r_aloadn (q := 2) DM_X2_howManyBefore_1 rfl rfl ?_
  refine v_getI (q := 5) (ji := 4) DM_X2_howManyBefore_2 rfl fRX2_53 (co0 hc) rfl rfl ?_
  refine r_iconst (q := 6) (n := 0) DM_X2_howManyBefore_5 rfl ?_
  have i1 := h.1
  replace h := h.2
  have i2 := h.1
  replace h := h.2
  refine r_callVi [.inl (μ c 4), .inl 0] (q := 9) DM_X2_howManyBefore_6 rfl kM_X2_turnOn lRX2_106 (co0 hc) rfl rfl (by decide) (Nat.le_of_ble_eq_true rfl) rfl (k_X2_turnOn hc i1 i2 ⟨_, rfl, ?_⟩)
  refine v_istoren (q := 10) (ls' := [some (.inr c), some (.inl x1), some (.inl (cTurn (cv μ c) (μ c 4) 0)), none, none]) DM_X2_howManyBefore_9 rfl (by decide) rfl ?_
  refine r_iconst (q := 11) (n := 0) DM_X2_howManyBefore_10 rfl ?_
  refine v_istoren (q := 12) (ls' := [some (.inr c), some (.inl x1), some (.inl (cTurn (cv μ c) (μ c 4) 0)), some (.inl 0), none]) DM_X2_howManyBefore_11 rfl (by decide) rfl ?_
  refine r_iconst (q := 13) (n := 0) DM_X2_howManyBefore_12 rfl ?_
  refine v_istore (q := 15) (ls' := [some (.inr c), some (.inl x1), some (.inl (cTurn (cv μ c) (μ c 4) 0)), some (.inl 0), some (.inl 0)]) DM_X2_howManyBefore_13 rfl (by decide) rfl ?_
  exact h
set_option maxRecDepth 20000 in
theorem s_X2_howManyBefore_15 {E : Ex} {μ : Mem} {Q : Option Vl → Mem → Prop} {x1 x2 x3 x4 : Int} {c : Nat} (hc : coS c) (h : inR x4 ∧ inR (μ c 1) ∧ (x4 ≥ (μ c 1) → Q (some (.inl x3)) μ) ∧ (¬ x4 ≥ (μ c 1) → (RgC μ c) ∧ (0 ≤ x4 ∧ x4 < 6) ∧ inR (μ c 4) ∧ ((cWait (cv μ c) x4 (μ c 4)) = false → Gg E 3 M_X2_howManyBefore 15 [some (.inr c), some (.inl x1), some (.inl x2), some (.inl x3), some (.inl (x4 + 1))] [] μ Q) ∧ ((cWait (cv μ c) x4 (μ c 4)) = true → (RoOk E) ∧ (0 ≤ x1 ∧ x1 < 6) ∧ (pOK (cv μ c) x4) ∧ (pOK (cv μ c) x1) ∧ ((cBef (cv μ c) x4 x1 x2) = false → Gg E 3 M_X2_howManyBefore 15 [some (.inr c), some (.inl x1), some (.inl x2), some (.inl x3), some (.inl (x4 + 1))] [] μ Q) ∧ ((cBef (cv μ c) x4 x1 x2) = true → Gg E 3 M_X2_howManyBefore 15 [some (.inr c), some (.inl x1), some (.inl x2), some (.inl (x3 + 1)), some (.inl (x4 + 1))] [] μ Q)))) : Gg E 3 M_X2_howManyBefore 15 [some (.inr c), some (.inl x1), some (.inl x2), some (.inl x3), some (.inl x4)] [] μ Q := by
  refine r_iload (q := 17) DM_X2_howManyBefore_15 rfl rfl ?_
  refine r_aloadn (q := 18) DM_X2_howManyBefore_17 rfl rfl ?_
  refine v_getI (q := 21) (ji := 1) DM_X2_howManyBefore_18 rfl fRX2_43 (co0 hc) rfl rfl ?_
  have i1 := h.1
  replace h := h.2
  have i2 := h.1
  replace h := h.2
  refine r_icge (q := 24) (t := 57) DM_X2_howManyBefore_21 rfl (by decide) ⟨⟨i1, i2⟩, fun cc => ?_, fun cc => ?_⟩
  · replace h := h.1 cc
    refine r_iloadn (q := 58) DM_X2_howManyBefore_57 rfl rfl ?_
    exact r_ret (v := some (.inl x3)) ⟨DM_X2_howManyBefore_58, Or.inl rfl⟩ h
  · replace h := h.2 cc
    refine r_aloadn (q := 25) DM_X2_howManyBefore_24 rfl rfl ?_
    refine r_iload (q := 27) DM_X2_howManyBefore_25 rfl rfl ?_
    refine r_aloadn (q := 28) DM_X2_howManyBefore_27 rfl rfl ?_
    refine v_getI (q := 31) (ji := 4) DM_X2_howManyBefore_28 rfl fRX2_53 (co0 hc) rfl rfl ?_
    have i3 := h.1
    replace h := h.2
    have i4 := h.1
    replace h := h.2
    have i5 := h.1
    replace h := h.2
    refine r_callVi [.inl x4, .inl (μ c 4)] (q := 34) DM_X2_howManyBefore_31 rfl kM_X2_waitsOn lRX2_100 (co0 hc) rfl rfl (by decide) (Nat.le_of_ble_eq_true rfl) rfl (k_X2_waitsOn hc i3 i4 i5 ⟨_, rfl, ?_⟩)
    refine r_bbeq (q := 37) (t := 51) DM_X2_howManyBefore_34 rfl (by decide) ⟨fun cc => ?_, fun cc => ?_⟩
    · replace h := h.1 cc
      refine v_iinc (q := 54) (ls' := [some (.inr c), some (.inl x1), some (.inl x2), some (.inl x3), some (.inl (x4 + 1))]) DM_X2_howManyBefore_51 rfl rfl (by decide) rfl ?_
      refine r_goto (q := 15) DM_X2_howManyBefore_54 (by decide) ?_
      exact h
    · replace h := h.2 cc
      refine r_aloadn (q := 38) DM_X2_howManyBefore_37 rfl rfl ?_
      refine r_iload (q := 40) DM_X2_howManyBefore_38 rfl rfl ?_
      refine r_iloadn (q := 41) DM_X2_howManyBefore_40 rfl rfl ?_
      refine r_iloadn (q := 42) DM_X2_howManyBefore_41 rfl rfl ?_
      have i6 := h.1
      replace h := h.2
      have i7 := h.1
      replace h := h.2
      have i8 := h.1
      replace h := h.2
      have i9 := h.1
      replace h := h.2
      refine r_callVi [.inl x4, .inl x1, .inl x2] (q := 45) DM_X2_howManyBefore_42 rfl kM_X2_isBefore lRX2_109 (co0 hc) rfl rfl (by decide) (Nat.le_of_ble_eq_true rfl) rfl (k_X2_isBefore hc i3 i6 i4 i7 i8 i9 ⟨_, rfl, ?_⟩)
      refine r_bbeq (q := 48) (t := 51) DM_X2_howManyBefore_45 rfl (by decide) ⟨fun cc => ?_, fun cc => ?_⟩
      · replace h := h.1 cc
        refine v_iinc (q := 54) (ls' := [some (.inr c), some (.inl x1), some (.inl x2), some (.inl x3), some (.inl (x4 + 1))]) DM_X2_howManyBefore_51 rfl rfl (by decide) rfl ?_
        refine r_goto (q := 15) DM_X2_howManyBefore_54 (by decide) ?_
        exact h
      · replace h := h.2 cc
        refine v_iinc (q := 51) (ls' := [some (.inr c), some (.inl x1), some (.inl x2), some (.inl (x3 + 1)), some (.inl x4)]) DM_X2_howManyBefore_48 rfl rfl (by decide) rfl ?_
        refine v_iinc (q := 54) (ls' := [some (.inr c), some (.inl x1), some (.inl x2), some (.inl (x3 + 1)), some (.inl (x4 + 1))]) DM_X2_howManyBefore_51 rfl rfl (by decide) rfl ?_
        refine r_goto (q := 15) DM_X2_howManyBefore_54 (by decide) ?_
        exact h
theorem k_X2_howManyBefore (hc : coS c) (hg : RgC μ c) (hR : RoOk E) (hV : VC (cv μ c)) (ha : 0 ≤ a ∧ a < μ c 1) (h : Q (some (.inl (cntI (fun p => cWait (cv μ c) p (μ c 4) && cBef (cv μ c) p a (cTurn (cv μ c) (μ c 4) 0)) (μ c 1)))) μ) : Cl E 3 M_X2_howManyBefore [.inr c, .inl a] μ Q := by
  obtain ⟨-, v1, v3, v4, v5, vp⟩ := hV
  simp only [cv, Nat.add_zero] at v1 v3 v4 v5
  refine s_X2_howManyBefore hc ⟨by omega, by omega, ?_⟩
  refine up_ind (N := μ c 1) (P := fun p => Gg E 3 M_X2_howManyBefore 15 [some (.inr c), some (.inl a), some (.inl (cTurn (cv μ c) (μ c 4) 0)), some (.inl (cntI (fun p => cWait (cv μ c) p (μ c 4) && cBef (cv μ c) p a (cTurn (cv μ c) (μ c 4) 0)) p)), some (.inl p)] [] μ Q) 0 v1.1 ?_ (fun p h1 h2 ih => ?_)
  · exact s_X2_howManyBefore_15 hc ⟨by omega, by omega, fun _ => h, fun z => absurd (Int.le_refl _) z⟩
  · rw [cntI_succ h1] at ih
    refine s_X2_howManyBefore_15 hc ⟨by omega, by omega, fun z => absurd z (by omega), fun _ => ⟨hg, by omega, by omega, fun z => ?_, fun z => ⟨hR, by omega, vp p h1 h2, vp a ha.1 ha.2, fun z2 => ?_, fun z2 => ?_⟩⟩⟩
    · rwa [z, Bool.false_and, show bi false = 0 from rfl, Int.add_zero] at ih
    · rwa [z, z2, Bool.true_and, show bi false = 0 from rfl, Int.add_zero] at ih
    · rwa [z, z2, Bool.true_and, show bi true = 1 from rfl] at ih
set_option maxRecDepth 20000 in
theorem s_X2_howManyWaitWith {E : Ex} {μ : Mem} {Q : Option Vl → Mem → Prop} {x1 : Int} {c : Nat} (hc : coS c) (h : Gg E 2 M_X2_howManyWaitWith 4 [some (.inr c), some (.inl x1), some (.inl 0), some (.inl 0)] [] μ Q) : Cl E 2 M_X2_howManyWaitWith [.inr c, .inl x1] μ Q := by
  show Gg E 2 M_X2_howManyWaitWith 0 [some (.inr c), some (.inl x1), none, none] [] μ Q
  refine r_iconst (q := 1) (n := 0) DM_X2_howManyWaitWith_0 rfl ?_
  refine v_istoren (q := 2) (ls' := [some (.inr c), some (.inl x1), some (.inl 0), none]) DM_X2_howManyWaitWith_1 rfl (by decide) rfl ?_
  refine r_iconst (q := 3) (n := 0) DM_X2_howManyWaitWith_2 rfl ?_
  refine v_istoren (q := 4) (ls' := [some (.inr c), some (.inl x1), some (.inl 0), some (.inl 0)]) DM_X2_howManyWaitWith_3 rfl (by decide) rfl ?_
  exact h
set_option maxRecDepth 20000 in
theorem s_X2_howManyWaitWith_4 {E : Ex} {μ : Mem} {Q : Option Vl → Mem → Prop} {x1 x2 x3 : Int} {c : Nat} (hc : coS c) (h : inR x3 ∧ inR (μ c 1) ∧ (x3 ≥ (μ c 1) → Q (some (.inl x2)) μ) ∧ (¬ x3 ≥ (μ c 1) → (RgC μ c) ∧ (0 ≤ x3 ∧ x3 < 6) ∧ inR (μ c 4) ∧ ((cWait (cv μ c) x3 (μ c 4)) = false → Gg E 2 M_X2_howManyWaitWith 4 [some (.inr c), some (.inl x1), some (.inl x2), some (.inl (x3 + 1))] [] μ Q) ∧ ((cWait (cv μ c) x3 (μ c 4)) = true → (pOK (cv μ c) x3) ∧ inR (jand (jshr ((cBits (cv μ c) x3 : Nat) : Int) x1) 1) ∧ ((jand (jshr ((cBits (cv μ c) x3 : Nat) : Int) x1) 1) ≠ 1 → Gg E 2 M_X2_howManyWaitWith 4 [some (.inr c), some (.inl x1), some (.inl x2), some (.inl (x3 + 1))] [] μ Q) ∧ ((jand (jshr ((cBits (cv μ c) x3 : Nat) : Int) x1) 1) = 1 → Gg E 2 M_X2_howManyWaitWith 4 [some (.inr c), some (.inl x1), some (.inl (x2 + 1)), some (.inl (x3 + 1))] [] μ Q)))) : Gg E 2 M_X2_howManyWaitWith 4 [some (.inr c), some (.inl x1), some (.inl x2), some (.inl x3)] [] μ Q := by
  refine r_iloadn (q := 5) DM_X2_howManyWaitWith_4 rfl rfl ?_
  refine r_aloadn (q := 6) DM_X2_howManyWaitWith_5 rfl rfl ?_
  refine v_getI (q := 9) (ji := 1) DM_X2_howManyWaitWith_6 rfl fRX2_43 (co0 hc) rfl rfl ?_
  have i1 := h.1
  replace h := h.2
  have i2 := h.1
  replace h := h.2
  refine r_icge (q := 12) (t := 46) DM_X2_howManyWaitWith_9 rfl (by decide) ⟨⟨i1, i2⟩, fun cc => ?_, fun cc => ?_⟩
  · replace h := h.1 cc
    refine r_iloadn (q := 47) DM_X2_howManyWaitWith_46 rfl rfl ?_
    exact r_ret (v := some (.inl x2)) ⟨DM_X2_howManyWaitWith_47, Or.inl rfl⟩ h
  · replace h := h.2 cc
    refine r_aloadn (q := 13) DM_X2_howManyWaitWith_12 rfl rfl ?_
    refine r_iloadn (q := 14) DM_X2_howManyWaitWith_13 rfl rfl ?_
    refine r_aloadn (q := 15) DM_X2_howManyWaitWith_14 rfl rfl ?_
    refine v_getI (q := 18) (ji := 4) DM_X2_howManyWaitWith_15 rfl fRX2_53 (co0 hc) rfl rfl ?_
    have i3 := h.1
    replace h := h.2
    have i4 := h.1
    replace h := h.2
    have i5 := h.1
    replace h := h.2
    refine r_callVi [.inl x3, .inl (μ c 4)] (q := 21) DM_X2_howManyWaitWith_18 rfl kM_X2_waitsOn lRX2_100 (co0 hc) rfl rfl (by decide) (Nat.le_of_ble_eq_true rfl) rfl (k_X2_waitsOn hc i3 i4 i5 ⟨_, rfl, ?_⟩)
    refine r_bbeq (q := 24) (t := 40) DM_X2_howManyWaitWith_21 rfl (by decide) ⟨fun cc => ?_, fun cc => ?_⟩
    · replace h := h.1 cc
      refine v_iinc (q := 43) (ls' := [some (.inr c), some (.inl x1), some (.inl x2), some (.inl (x3 + 1))]) DM_X2_howManyWaitWith_40 rfl rfl (by decide) rfl ?_
      refine r_goto (q := 4) DM_X2_howManyWaitWith_43 (by decide) ?_
      exact h
    · replace h := h.2 cc
      refine r_aloadn (q := 25) DM_X2_howManyWaitWith_24 rfl rfl ?_
      refine r_iloadn (q := 26) DM_X2_howManyWaitWith_25 rfl rfl ?_
      have i6 := h.1
      replace h := h.2
      refine r_callVi [.inl x3] (q := 29) DM_X2_howManyWaitWith_26 rfl kM_X2_lettersAsBits lRX2_113 (co0 hc) rfl rfl (by decide) (Nat.le_of_ble_eq_true rfl) rfl (k_X2_lettersAsBits hc i4 i6 ⟨_, rfl, ?_⟩)
      refine r_iloadn (q := 30) DM_X2_howManyWaitWith_29 rfl rfl ?_
      refine r_ishr (q := 31) DM_X2_howManyWaitWith_30 rfl ?_
      refine r_iconst (q := 32) (n := 1) DM_X2_howManyWaitWith_31 rfl ?_
      refine r_iand (q := 33) DM_X2_howManyWaitWith_32 rfl ?_
      refine r_iconst (q := 34) (n := 1) DM_X2_howManyWaitWith_33 rfl ?_
      have i7 := h.1
      replace h := h.2
      refine r_icne (q := 37) (t := 40) DM_X2_howManyWaitWith_34 rfl (by decide) ⟨⟨i7, (by decide)⟩, fun cc => ?_, fun cc => ?_⟩
      · replace h := h.1 cc
        refine v_iinc (q := 43) (ls' := [some (.inr c), some (.inl x1), some (.inl x2), some (.inl (x3 + 1))]) DM_X2_howManyWaitWith_40 rfl rfl (by decide) rfl ?_
        refine r_goto (q := 4) DM_X2_howManyWaitWith_43 (by decide) ?_
        exact h
      · replace h := h.2 cc
        refine v_iinc (q := 40) (ls' := [some (.inr c), some (.inl x1), some (.inl (x2 + 1)), some (.inl x3)]) DM_X2_howManyWaitWith_37 rfl rfl (by decide) rfl ?_
        refine v_iinc (q := 43) (ls' := [some (.inr c), some (.inl x1), some (.inl (x2 + 1)), some (.inl (x3 + 1))]) DM_X2_howManyWaitWith_40 rfl rfl (by decide) rfl ?_
        refine r_goto (q := 4) DM_X2_howManyWaitWith_43 (by decide) ?_
        exact h
theorem k_X2_howManyWaitWith (hc : coS c) (hg : RgC μ c) (hV : VC (cv μ c)) (hl : 0 ≤ l ∧ l < 8) (h : Q (some (.inl (cntI (fun p => cWait (cv μ c) p (μ c 4) && (cBits (cv μ c) p).testBit l.toNat) (μ c 1)))) μ) : Cl E 2 M_X2_howManyWaitWith [.inr c, .inl l] μ Q := by
  obtain ⟨-, v1, v3, v4, v5, vp⟩ := hV
  simp only [cv, Nat.add_zero] at v1 v3 v4 v5
  refine s_X2_howManyWaitWith hc ?_
  refine up_ind (N := μ c 1) (P := fun p => Gg E 2 M_X2_howManyWaitWith 4 [some (.inr c), some (.inl l), some (.inl (cntI (fun p => cWait (cv μ c) p (μ c 4) && (cBits (cv μ c) p).testBit l.toNat) p)), some (.inl p)] [] μ Q) 0 v1.1 ?_ (fun p h1 h2 ih => ?_)
  · exact s_X2_howManyWaitWith_4 hc ⟨by omega, by omega, fun _ => h, fun z => absurd (Int.le_refl _) z⟩
  · rw [cntI_succ h1] at ih
    have hb := bit_ask (cBits (cv μ c) p) (cBits_lt (vp p h1 h2) _ (by have := (vp p h1 h2).2.1; omega) (Int.le_refl _)) l.toNat (by omega)
    rw [Int.toNat_of_nonneg hl.1] at hb
    refine s_X2_howManyWaitWith_4 hc ⟨by omega, by omega, fun z => absurd z (by omega), fun _ => ⟨hg, by omega, by omega, fun z => ?_, fun z => ⟨vp p h1 h2, ?_⟩⟩⟩
    · rwa [z, Bool.false_and, show bi false = 0 from rfl, Int.add_zero] at ih
    · rw [hb]
      rw [z, Bool.true_and] at ih
      refine ⟨bi_inR _, fun z2 => ?_, fun z2 => ?_⟩
      · have : (cBits (cv μ c) p).testBit l.toNat = false := by
          cases hq : (cBits (cv μ c) p).testBit l.toNat
          · rfl
          · rw [hq] at z2; exact absurd rfl z2
        rwa [this, show bi false = 0 from rfl, Int.add_zero] at ih
      · rwa [z2] at ih
end C22
