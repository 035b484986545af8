/-! Court: who is first, open days, seats taken. -/
def cCan (v : CV) (p d : Int) : Bool := cWait v p d && decide (cBits v p &&& (v 0 5).toNat = 0)
def cFirst (v : CV) (d b : Int) : Int := foldI (fun p a => if cCan v p d = true ∧ (a = -1 ∨ cBef v p a (cTurn v d b) = true) then p else a) (-1) (v 0 1)
def cLast (v : CV) (x t : Int) : Int := foldI (fun p a => if p ≠ x ∧ cWait v p (v 0 4) = true ∧ (a = -1 ∨ cBef v a p t = true) then p else a) (-1) (v 0 1)
def cSoon (v : CV) (d : Int) : Int := foldI (fun p a => if cServ v p d = true then (if v 8 p + v 6 p < a then v 8 p + v 6 p else a) else a) 1000000 (v 0 1)
def cOpen (v : CV) (d : Int) : Int := if cntI (fun p => cServ v p d) (v 0 1) < v 0 2 then d else cSoon v d
def cSum (v : CV) : Int := foldI (fun p a => a + (if cSeat v p = true then v 8 p else v 7 p)) 0 (v 0 1)
def upv (v : CV) (j : Nat) (i x : Int) : CV := fun j' i' => if j' = j ∧ i' = i then x else v j' i'
theorem cv_up {μ : Mem} {c j : Nat} {i x : Int} : cv (up μ (c + j) i x) c = upv (cv μ c) j i x := by
  funext j' i'
  unfold cv up upv
  by_cases h : j' = j
  · subst h
    simp
  · have : ¬ c + j' = c + j := by omega
    simp [h, this]
theorem cv_up0 {μ : Mem} {c : Nat} {i x : Int} : cv (up μ c i x) c = upv (cv μ c) 0 i x := cv_up (j := 0)
/-- the memory has changed in the court c alone, which is now v -/
def chC (μ μ1 : Mem) (c : Nat) (v : CV) : Prop := cv μ1 c = v ∧ ∀ k, (k < c ∨ c + 10 ≤ k) → μ1 k = μ k
def cTill (e b : Int) : Nat → CV → Int → CV
  | 0, v, _ => v
  | n + 1, v, f => if cOpen v f ≤ e ∧ cFirst v (cOpen v f) b ≠ -1 then cTill e b n (upv (upv (upv v 8 (cFirst v (cOpen v f) b) (cOpen v f)) 9 (v 0 1 - (n + 1)) (cFirst v (cOpen v f) b)) 0 15 (v 0 1 - (n + 1) + 1)) (cOpen v f) else v
def cSeats (v : CV) (e b : Int) : CV := cTill e b (v 0 1).toNat (upv v 0 15 0) (v 0 4 + 1)
theorem cFirst_rng {v : CV} {d b : Int} : ∀ n, 0 ≤ n → foldI (fun p a => if cCan v p d = true ∧ (a = -1 ∨ cBef v p a (cTurn v d b) = true) then p else a) (-1) n = -1 ∨ (0 ≤ foldI (fun p a => if cCan v p d = true ∧ (a = -1 ∨ cBef v p a (cTurn v d b) = true) then p else a) (-1) n ∧ foldI (fun p a => if cCan v p d = true ∧ (a = -1 ∨ cBef v p a (cTurn v d b) = true) then p else a) (-1) n < n) := fun n hn =>
  foldI_inv (I := fun p a => a = -1 ∨ (0 ≤ a ∧ a < p)) (N := n) (Or.inl rfl) (fun p a h1 _ h => by split <;> omega) n hn (Int.le_refl n)
theorem cLast_rng {v : CV} {x t : Int} : ∀ n, 0 ≤ n → foldI (fun p a => if p ≠ x ∧ cWait v p (v 0 4) = true ∧ (a = -1 ∨ cBef v a p t = true) then p else a) (-1) n = -1 ∨ (0 ≤ foldI (fun p a => if p ≠ x ∧ cWait v p (v 0 4) = true ∧ (a = -1 ∨ cBef v a p t = true) then p else a) (-1) n ∧ foldI (fun p a => if p ≠ x ∧ cWait v p (v 0 4) = true ∧ (a = -1 ∨ cBef v a p t = true) then p else a) (-1) n < n) := fun n hn =>
  foldI_inv (I := fun p a => a = -1 ∨ (0 ≤ a ∧ a < p)) (N := n) (Or.inl rfl) (fun p a h1 _ h => by split <;> omega) n hn (Int.le_refl n)
theorem cSoon_rng {v : CV} {d : Int} (hd : 0 ≤ d) : ∀ n, 0 ≤ n → d < foldI (fun p a => if cServ v p d = true then (if v 8 p + v 6 p < a then v 8 p + v 6 p else a) else a) 1000000 n ∨ d ≥ 1000000 := by
  intro n hn
  rcases Int.lt_or_le d 1000000 with h | h
  · refine Or.inl (foldI_inv (I := fun _ a => d < a) (N := n) h (fun p a _ _ ha => ?_) n hn (Int.le_refl n))
    split
    · next hs =>
      have hs := (of_decide_eq_true hs).2
      split <;> omega
    · exact ha
  · exact Or.inr h
theorem cSoon_le {v : CV} {d : Int} : ∀ n, 0 ≤ n → foldI (fun p a => if cServ v p d = true then (if v 8 p + v 6 p < a then v 8 p + v 6 p else a) else a) 1000000 n ≤ 1000000 := fun n hn =>
  foldI_inv (I := fun _ a => a ≤ 1000000) (N := n) (Int.le_refl _) (fun p a _ _ ha => by split <;> (try split) <;> omega) n hn (Int.le_refl n)
theorem cOpen_rng {v : CV} {d : Int} (hv : 0 ≤ v 0 1) (hd : 0 ≤ d) (hd2 : d < 1000000) : d ≤ cOpen v d ∧ cOpen v d ≤ 1000000 := by
  unfold cOpen
  split
  · omega
  · have h1 := cSoon_rng (v := v) hd (v 0 1) hv
    have h2 := cSoon_le (v := v) (d := d) (v 0 1) hv
    unfold cSoon
    omega
section C23
variable {E : Ex} {μ : Mem} {Q : Option Vl → Mem → Prop} {c : Nat} {p d b i l t a s : Int}
set_option maxRecDepth 20000 in
theorem s_X2_firstOn {E : Ex} {μ : Mem} {Q : Option Vl → Mem → Prop} {x1 x2 : Int} {c : Nat} (hc : coS c) (h : (0 ≤ μ c 3 ∧ μ c 3 ≤ 2000000) ∧ (0 ≤ x1 ∧ x1 < 2147483648) ∧ Gg E 3 M_X2_firstOn 13 [some (.inr c), some (.inl x1), some (.inl x2), some (.inl (cTurn (cv μ c) x1 x2)), some (.inl (-1)), some (.inl 0), none] [] μ Q) : Cl E 3 M_X2_firstOn [.inr c, .inl x1, .inl x2] μ Q := by
  show Gg E 3 M_X2_firstOn 0 [some (.inr c), some (.inl x1), some (.inl x2), none, none, none, none] [] μ Q
  refine r_aloadn (q := 1) DM_X2_firstOn_0 rfl rfl ?_
  refine r_iloadn (q := 2) DM_X2_firstOn_1 rfl rfl ?_
  refine r_iloadn (q := 3) DM_X2_firstOn_2 rfl rfl ?_
  have i1 := h.1
  replace h := h.2
  have i2 := h.1
  replace h := h.2
  refine r_callVi [.inl x1, .inl x2] (q := 6) DM_X2_firstOn_3 rfl kM_X2_turnOn lRX2_106 (co0 hc) rfl rfl (by decide) (Nat.le_of_ble_eq_true rfl) rfl (k_X2_turnOn hc i1 i2 ⟨_, rfl, ?_⟩)
  refine v_istoren (q := 7) (ls' := [some (.inr c), some (.inl x1), some (.inl x2), some (.inl (cTurn (cv μ c) x1 x2)), none, none, none]) DM_X2_firstOn_6 rfl (by decide) rfl ?_
  refine r_iconst (q := 8) (n := (-1)) DM_X2_firstOn_7 rfl ?_
  refine v_istore (q := 10) (ls' := [some (.inr c), some (.inl x1), some (.inl x2), some (.inl (cTurn (cv μ c) x1 x2)), some (.inl (-1)), none, none]) DM_X2_firstOn_8 rfl (by decide) rfl ?_
  refine r_iconst (q := 11) (n := 0) DM_X2_firstOn_10 rfl ?_
  refine v_istore (q := 13) (ls' := [some (.inr c), some (.inl x1), some (.inl x2), some (.inl (cTurn (cv μ c) x1 x2)), some (.inl (-1)), some (.inl 0), none]) DM_X2_firstOn_11 rfl (by decide) rfl ?_
  exact h
set_option maxRecDepth 20000 in
theorem s_X2_firstOn_13 {E : Ex} {μ : Mem} {Q : Option Vl → Mem → Prop} {x1 x2 x3 x4 x5 : Int} {c : Nat} (hc : coS c) (h : inR x5 ∧ inR (μ c 1) ∧ (x5 ≥ (μ c 1) → Q (some (.inl x4)) μ) ∧ (¬ x5 ≥ (μ c 1) → (RgC μ c) ∧ (0 ≤ x5 ∧ x5 < 6) ∧ inR x1 ∧ ((cWait (cv μ c) x5 x1) = false → Gg E 3 M_X2_firstOn 51 [some (.inr c), some (.inl x1), some (.inl x2), some (.inl x3), some (.inl x4), some (.inl x5), none] [.inl 0] μ Q) ∧ ((cWait (cv μ c) x5 x1) = true → (pOK (cv μ c) x5) ∧ inR (jand ((cBits (cv μ c) x5 : Nat) : Int) (μ c 5)) ∧ ((jand ((cBits (cv μ c) x5 : Nat) : Int) (μ c 5)) ≠ 0 → Gg E 3 M_X2_firstOn 51 [some (.inr c), some (.inl x1), some (.inl x2), some (.inl x3), some (.inl x4), some (.inl x5), none] [.inl 0] μ Q) ∧ ((jand ((cBits (cv μ c) x5 : Nat) : Int) (μ c 5)) = 0 → Gg E 3 M_X2_firstOn 51 [some (.inr c), some (.inl x1), some (.inl x2), some (.inl x3), some (.inl x4), some (.inl x5), none] [.inl 1] μ Q)))) : Gg E 3 M_X2_firstOn 13 [some (.inr c), some (.inl x1), some (.inl x2), some (.inl x3), some (.inl x4), some (.inl x5), none] [] μ Q := by
  refine r_iload (q := 15) DM_X2_firstOn_13 rfl rfl ?_
  refine r_aloadn (q := 16) DM_X2_firstOn_15 rfl rfl ?_
  refine v_getI (q := 19) (ji := 1) DM_X2_firstOn_16 rfl fRX2_43 (co0 hc) rfl rfl ?_
  have i1 := h.1
  replace h := h.2
  have i2 := h.1
  replace h := h.2
  refine r_icge (q := 22) (t := 86) DM_X2_firstOn_19 rfl (by decide) ⟨⟨i1, i2⟩, fun cc => ?_, fun cc => ?_⟩
  · replace h := h.1 cc
    refine r_iload (q := 88) DM_X2_firstOn_86 rfl rfl ?_
    exact r_ret (v := some (.inl x4)) ⟨DM_X2_firstOn_88, Or.inl rfl⟩ h
  · replace h := h.2 cc
    refine r_aloadn (q := 23) DM_X2_firstOn_22 rfl rfl ?_
    refine r_iload (q := 25) DM_X2_firstOn_23 rfl rfl ?_
    refine r_iloadn (q := 26) DM_X2_firstOn_25 rfl rfl ?_
    have i3 := h.1
    replace h := h.2
    have i4 := h.1
    replace h := h.2
    have i5 := h.1
    replace h := h.2
    refine r_callVi [.inl x5, .inl x1] (q := 29) DM_X2_firstOn_26 rfl kM_X2_waitsOn lRX2_100 (co0 hc) rfl rfl (by decide) (Nat.le_of_ble_eq_true rfl) rfl (k_X2_waitsOn hc i3 i4 i5 ⟨_, rfl, ?_⟩)
    refine r_bbeq (q := 32) (t := 50) DM_X2_firstOn_29 rfl (by decide) ⟨fun cc => ?_, fun cc => ?_⟩
    · replace h := h.1 cc
      refine r_iconst (q := 51) (n := 0) DM_X2_firstOn_50 rfl ?_
      exact h
    · replace h := h.2 cc
      refine r_aloadn (q := 33) DM_X2_firstOn_32 rfl rfl ?_
      refine r_iload (q := 35) DM_X2_firstOn_33 rfl rfl ?_
      have i6 := h.1
      replace h := h.2
      refine r_callVi [.inl x5] (q := 38) DM_X2_firstOn_35 rfl kM_X2_lettersAsBits lRX2_113 (co0 hc) rfl rfl (by decide) (Nat.le_of_ble_eq_true rfl) rfl (k_X2_lettersAsBits hc i4 i6 ⟨_, rfl, ?_⟩)
      refine r_aloadn (q := 39) DM_X2_firstOn_38 rfl rfl ?_
      refine v_getI (q := 42) (ji := 5) DM_X2_firstOn_39 rfl fRX2_56 (co0 hc) rfl rfl ?_
      refine r_iand (q := 43) DM_X2_firstOn_42 rfl ?_
      have i7 := h.1
      replace h := h.2
      refine r_ifne (q := 46) (t := 50) DM_X2_firstOn_43 rfl (by decide) ⟨i7, fun cc => ?_, fun cc => ?_⟩
      · replace h := h.1 cc
        refine r_iconst (q := 51) (n := 0) DM_X2_firstOn_50 rfl ?_
        exact h
      · replace h := h.2 cc
        refine r_iconst (q := 47) (n := 1) DM_X2_firstOn_46 rfl ?_
        refine r_goto (q := 51) DM_X2_firstOn_47 (by decide) ?_
        exact h
set_option maxRecDepth 20000 in
theorem s_X2_firstOn_51 {E : Ex} {μ : Mem} {Q : Option Vl → Mem → Prop} {x1 x2 x3 x4 x5 y0 : Int} {c : Nat} (hc : coS c) (h : inR y0 ∧ (y0 = 0 → Gg E 3 M_X2_firstOn 13 [some (.inr c), some (.inl x1), some (.inl x2), some (.inl x3), some (.inl x4), some (.inl (x5 + 1)), none] [] μ Q) ∧ (¬ y0 = 0 → inR x4 ∧ (x4 = (-1) → Gg E 3 M_X2_firstOn 13 [some (.inr c), some (.inl x1), some (.inl x2), some (.inl x3), some (.inl x5), some (.inl (x5 + 1)), none] [] μ Q) ∧ (¬ x4 = (-1) → (RgC μ c) ∧ (RoOk E) ∧ (0 ≤ x5 ∧ x5 < 6) ∧ (0 ≤ x4 ∧ x4 < 6) ∧ (pOK (cv μ c) x5) ∧ (pOK (cv μ c) x4) ∧ ((cBef (cv μ c) x5 x4 x3) = false → Gg E 3 M_X2_firstOn 13 [some (.inr c), some (.inl x1), some (.inl x2), some (.inl x3), some (.inl x4), some (.inl (x5 + 1)), none] [] μ Q) ∧ ((cBef (cv μ c) x5 x4 x3) = true → Gg E 3 M_X2_firstOn 13 [some (.inr c), some (.inl x1), some (.inl x2), some (.inl x3), some (.inl x5), some (.inl (x5 + 1)), none] [] μ Q)))) : Gg E 3 M_X2_firstOn 51 [some (.inr c), some (.inl x1), some (.inl x2), some (.inl x3), some (.inl x4), some (.inl x5), none] [.inl y0] μ Q := by
  refine v_istore (q := 53) (ls' := [some (.inr c), some (.inl x1), some (.inl x2), some (.inl x3), some (.inl x4), some (.inl x5), some (.inl y0)]) DM_X2_firstOn_51 rfl (by decide) rfl ?_
  refine r_iload (q := 55) DM_X2_firstOn_53 rfl rfl ?_
  have i1 := h.1
  replace h := h.2
  refine r_ifeq (q := 58) (t := 80) DM_X2_firstOn_55 rfl (by decide) ⟨i1, fun cc => ?_, fun cc => ?_⟩
  · replace h := h.1 cc
    refine v_iinc (q := 83) (ls' := [some (.inr c), some (.inl x1), some (.inl x2), some (.inl x3), some (.inl x4), some (.inl (x5 + 1)), some (.inl y0)]) DM_X2_firstOn_80 rfl rfl (by decide) rfl ?_
    refine r_goto (q := 13) DM_X2_firstOn_83 (by decide) ?_
    exact Gg.weak [true, true, true, true, true, true, false] h
  · replace h := h.2 cc
    refine r_iload (q := 60) DM_X2_firstOn_58 rfl rfl ?_
    refine r_iconst (q := 61) (n := (-1)) DM_X2_firstOn_60 rfl ?_
    have i2 := h.1
    replace h := h.2
    refine r_iceq (q := 64) (t := 76) DM_X2_firstOn_61 rfl (by decide) ⟨⟨i2, (by decide)⟩, fun cc => ?_, fun cc => ?_⟩
    · replace h := h.1 cc
      refine r_iload (q := 78) DM_X2_firstOn_76 rfl rfl ?_
      refine v_istore (q := 80) (ls' := [some (.inr c), some (.inl x1), some (.inl x2), some (.inl x3), some (.inl x5), some (.inl x5), some (.inl y0)]) DM_X2_firstOn_78 rfl (by decide) rfl ?_
      refine v_iinc (q := 83) (ls' := [some (.inr c), some (.inl x1), some (.inl x2), some (.inl x3), some (.inl x5), some (.inl (x5 + 1)), some (.inl y0)]) DM_X2_firstOn_80 rfl rfl (by decide) rfl ?_
      refine r_goto (q := 13) DM_X2_firstOn_83 (by decide) ?_
      exact Gg.weak [true, true, true, true, true, true, false] h
    · replace h := h.2 cc
      refine r_aloadn (q := 65) DM_X2_firstOn_64 rfl rfl ?_
      refine r_iload (q := 67) DM_X2_firstOn_65 rfl rfl ?_
      refine r_iload (q := 69) DM_X2_firstOn_67 rfl rfl ?_
      refine r_iloadn (q := 70) DM_X2_firstOn_69 rfl rfl ?_
      have i3 := h.1
      replace h := h.2
      have i4 := h.1
      replace h := h.2
      have i5 := h.1
      replace h := h.2
      have i6 := h.1
      replace h := h.2
      have i7 := h.1
      replace h := h.2
      have i8 := h.1
      replace h := h.2
      refine r_callVi [.inl x5, .inl x4, .inl x3] (q := 73) DM_X2_firstOn_70 rfl kM_X2_isBefore lRX2_109 (co0 hc) rfl rfl (by decide) (Nat.le_of_ble_eq_true rfl) rfl (k_X2_isBefore hc i3 i4 i5 i6 i7 i8 ⟨_, rfl, ?_⟩)
      refine r_bbeq (q := 76) (t := 80) DM_X2_firstOn_73 rfl (by decide) ⟨fun cc => ?_, fun cc => ?_⟩
      · replace h := h.1 cc
        refine v_iinc (q := 83) (ls' := [some (.inr c), some (.inl x1), some (.inl x2), some (.inl x3), some (.inl x4), some (.inl (x5 + 1)), some (.inl y0)]) DM_X2_firstOn_80 rfl rfl (by decide) rfl ?_
        refine r_goto (q := 13) DM_X2_firstOn_83 (by decide) ?_
        exact Gg.weak [true, true, true, true, true, true, false] h
      · replace h := h.2 cc
        refine r_iload (q := 78) DM_X2_firstOn_76 rfl rfl ?_
        refine v_istore (q := 80) (ls' := [some (.inr c), some (.inl x1), some (.inl x2), some (.inl x3), some (.inl x5), some (.inl x5), some (.inl y0)]) DM_X2_firstOn_78 rfl (by decide) rfl ?_
        refine v_iinc (q := 83) (ls' := [some (.inr c), some (.inl x1), some (.inl x2), some (.inl x3), some (.inl x5), some (.inl (x5 + 1)), some (.inl y0)]) DM_X2_firstOn_80 rfl rfl (by decide) rfl ?_
        refine r_goto (q := 13) DM_X2_firstOn_83 (by decide) ?_
        exact Gg.weak [true, true, true, true, true, true, false] h
theorem k_X2_firstOn (hc : coS c) (hg : RgC μ c) (hR : RoOk E) (hV : VC (cv μ c)) (hd : 0 ≤ d ∧ d < 2147483648) (h : Q (some (.inl (cFirst (cv μ c) d b))) μ) : Cl E 3 M_X2_firstOn [.inr c, .inl d, .inl b] μ Q := by
  obtain ⟨-, v1, v3, v4, v5, vp⟩ := hV
  simp only [cv, Nat.add_zero] at v1 v3 v4 v5
  refine s_X2_firstOn hc ⟨by omega, hd, ?_⟩
  let g : Int → Int → Int := fun p a => if cCan (cv μ c) p d = true ∧ (a = -1 ∨ cBef (cv μ c) p a (cTurn (cv μ c) d b) = true) then p else a
  refine up_ind (N := μ c 1) (P := fun p => Gg E 3 M_X2_firstOn 13 [some (.inr c), some (.inl d), some (.inl b), some (.inl (cTurn (cv μ c) d b)), some (.inl (foldI g (-1) p)), some (.inl p), none] [] μ Q) 0 v1.1 ?_ (fun p h1 h2 ih => ?_)
  · exact s_X2_firstOn_13 hc ⟨by omega, by omega, fun _ => h, fun z => absurd (Int.le_refl _) z⟩
  · rw [foldI_succ h1] at ih
    have hb : jand ((cBits (cv μ c) p : Nat) : Int) (((μ c 5).toNat : Nat) : Int) = ((cBits (cv μ c) p &&& (μ c 5).toNat : Nat) : Int) := jand_nat (cBits_lt (vp p h1 h2) _ (by have := (vp p h1 h2).2.1; omega) (Int.le_refl _)) (show (μ c 5).toNat < 256 by omega)
    rw [Int.toNat_of_nonneg v5.1] at hb
    have hr : foldI g (-1) p = -1 ∨ (0 ≤ foldI g (-1) p ∧ foldI g (-1) p < p) := cFirst_rng (v := cv μ c) (d := d) (b := b) p h1
    have hle : cBits (cv μ c) p &&& (μ c 5).toNat ≤ 255 := Nat.le_trans Nat.and_le_right (by omega)
    have key : ∀ y : Bool, y = cCan (cv μ c) p d → Gg E 3 M_X2_firstOn 51 [some (.inr c), some (.inl d), some (.inl b), some (.inl (cTurn (cv μ c) d b)), some (.inl (foldI g (-1) p)), some (.inl p), none] [.inl (bi y)] μ Q := by
      intro y hy
      refine s_X2_firstOn_51 hc ⟨bi_inR y, fun z => ?_, fun z => ⟨by omega, fun z2 => ?_, fun z2 => ?_⟩⟩
      · rw [bi_eq0] at z
        have : ¬ (cCan (cv μ c) p d = true ∧ (foldI g (-1) p = -1 ∨ cBef (cv μ c) p (foldI g (-1) p) (cTurn (cv μ c) d b) = true)) := fun q => by rw [← hy, z] at q; exact absurd q.1 (by decide)
        rwa [show g p (foldI g (-1) p) = foldI g (-1) p from if_neg this] at ih
      · have z := bi_ne0.mp z
        rwa [show g p (foldI g (-1) p) = p from if_pos ⟨by rw [← hy]; exact z, Or.inl z2⟩] at ih
      · have z := bi_ne0.mp z
        have hr2 : 0 ≤ foldI g (-1) p ∧ foldI g (-1) p < p := by
          rcases hr with q | q
          · exact absurd q z2
          · exact q
        refine ⟨hg, hR, by omega, by omega, vp p h1 h2, vp _ hr2.1 (by simp only [cv, Nat.add_zero]; omega), fun z3 => ?_, fun z3 => ?_⟩
        · rwa [show g p (foldI g (-1) p) = foldI g (-1) p from if_neg (fun q => by rcases q.2 with q | q; exact z2 q; rw [z3] at q; exact absurd q (by decide))] at ih
        · rwa [show g p (foldI g (-1) p) = p from if_pos ⟨by rw [← hy]; exact z, Or.inr z3⟩] at ih
    refine s_X2_firstOn_13 hc ⟨by omega, by omega, fun z => absurd z (by omega), fun _ => ⟨hg, by omega, by omega, fun z => ?_, fun z => ⟨vp p h1 h2, ?_⟩⟩⟩
    · exact key false (by unfold cCan; rw [z]; rfl)
    · rw [hb]
      refine ⟨by omega, fun z2 => ?_, fun z2 => ?_⟩
      · exact key false (by unfold cCan; rw [z, Bool.true_and, decide_eq_false]; intro q; exact z2 (by rw [show cv μ c 0 5 = μ c 5 from rfl] at q; rw [q]; rfl))
      · exact key true (by unfold cCan; rw [z, Bool.true_and, decide_eq_true]; rw [show cv μ c 0 5 = μ c 5 from rfl]; omega)
set_option maxRecDepth 20000 in
theorem s_X2_lastWaitingBut {E : Ex} {μ : Mem} {Q : Option Vl → Mem → Prop} {x1 x2 : Int} {c : Nat} (hc : coS c) (h : Gg E 3 M_X2_lastWaitingBut 5 [some (.inr c), some (.inl x1), some (.inl x2), some (.inl (-1)), some (.inl 0)] [] μ Q) : Cl E 3 M_X2_lastWaitingBut [.inr c, .inl x1, .inl x2] μ Q := by
  show Gg E 3 M_X2_lastWaitingBut 0 [some (.inr c), some (.inl x1), some (.inl x2), none, none] [] μ Q
  refine r_iconst (q := 1) (n := (-1)) DM_X2_lastWaitingBut_0 rfl ?_
  refine v_istoren (q := 2) (ls' := [some (.inr c), some (.inl x1), some (.inl x2), some (.inl (-1)), none]) DM_X2_lastWaitingBut_1 rfl (by decide) rfl ?_
  refine r_iconst (q := 3) (n := 0) DM_X2_lastWaitingBut_2 rfl ?_
  refine v_istore (q := 5) (ls' := [some (.inr c), some (.inl x1), some (.inl x2), some (.inl (-1)), some (.inl 0)]) DM_X2_lastWaitingBut_3 rfl (by decide) rfl ?_
  exact h
set_option maxRecDepth 20000 in
theorem s_X2_lastWaitingBut_5 {E : Ex} {μ : Mem} {Q : Option Vl → Mem → Prop} {x1 x2 x3 x4 : Int} {c : Nat} (hc : coS c) (h : inR x4 ∧ inR (μ c 1) ∧ (x4 ≥ (μ c 1) → Q (some (.inl x3)) μ) ∧ (¬ x4 ≥ (μ c 1) → inR x1 ∧ (x4 = x1 → Gg E 3 M_X2_lastWaitingBut 5 [some (.inr c), some (.inl x1), some (.inl x2), some (.inl x3), some (.inl (x4 + 1))] [] μ Q) ∧ (¬ x4 = x1 → (RgC μ c) ∧ (0 ≤ x4 ∧ x4 < 6) ∧ inR (μ c 4) ∧ ((cWait (cv μ c) x4 (μ c 4)) = false → Gg E 3 M_X2_lastWaitingBut 5 [some (.inr c), some (.inl x1), some (.inl x2), some (.inl x3), some (.inl (x4 + 1))] [] μ Q) ∧ ((cWait (cv μ c) x4 (μ c 4)) = true → inR x3 ∧ (x3 = (-1) → Gg E 3 M_X2_lastWaitingBut 5 [some (.inr c), some (.inl x1), some (.inl x2), some (.inl x4), some (.inl (x4 + 1))] [] μ Q) ∧ (¬ x3 = (-1) → (RoOk E) ∧ (0 ≤ x3 ∧ x3 < 6) ∧ (pOK (cv μ c) x3) ∧ (pOK (cv μ c) x4) ∧ ((cBef (cv μ c) x3 x4 x2) = false → Gg E 3 M_X2_lastWaitingBut 5 [some (.inr c), some (.inl x1), some (.inl x2), some (.inl x3), some (.inl (x4 + 1))] [] μ Q) ∧ ((cBef (cv μ c) x3 x4 x2) = true → Gg E 3 M_X2_lastWaitingBut 5 [some (.inr c), some (.inl x1), some (.inl x2), some (.inl x4), some (.inl (x4 + 1))] [] μ Q)))))) : Gg E 3 M_X2_lastWaitingBut 5 [some (.inr c), some (.inl x1), some (.inl x2), some (.inl x3), some (.inl x4)] [] μ Q := by
  refine r_iload (q := 7) DM_X2_lastWaitingBut_5 rfl rfl ?_
  refine r_aloadn (q := 8) DM_X2_lastWaitingBut_7 rfl rfl ?_
  refine v_getI (q := 11) (ji := 1) DM_X2_lastWaitingBut_8 rfl fRX2_43 (co0 hc) rfl rfl ?_
  have i1 := h.1
  replace h := h.2
  have i2 := h.1
  replace h := h.2
  refine r_icge (q := 14) (t := 58) DM_X2_lastWaitingBut_11 rfl (by decide) ⟨⟨i1, i2⟩, fun cc => ?_, fun cc => ?_⟩
  · replace h := h.1 cc
    refine r_iloadn (q := 59) DM_X2_lastWaitingBut_58 rfl rfl ?_
    exact r_ret (v := some (.inl x3)) ⟨DM_X2_lastWaitingBut_59, Or.inl rfl⟩ h
  · replace h := h.2 cc
    refine r_iload (q := 16) DM_X2_lastWaitingBut_14 rfl rfl ?_
    refine r_iloadn (q := 17) DM_X2_lastWaitingBut_16 rfl rfl ?_
    have i3 := h.1
    replace h := h.2
    refine r_iceq (q := 20) (t := 52) DM_X2_lastWaitingBut_17 rfl (by decide) ⟨⟨i1, i3⟩, fun cc => ?_, fun cc => ?_⟩
    · replace h := h.1 cc
      refine v_iinc (q := 55) (ls' := [some (.inr c), some (.inl x1), some (.inl x2), some (.inl x3), some (.inl (x4 + 1))]) DM_X2_lastWaitingBut_52 rfl rfl (by decide) rfl ?_
      refine r_goto (q := 5) DM_X2_lastWaitingBut_55 (by decide) ?_
      exact h
    · replace h := h.2 cc
      refine r_aloadn (q := 21) DM_X2_lastWaitingBut_20 rfl rfl ?_
      refine r_iload (q := 23) DM_X2_lastWaitingBut_21 rfl rfl ?_
      refine r_aloadn (q := 24) DM_X2_lastWaitingBut_23 rfl rfl ?_
      refine v_getI (q := 27) (ji := 4) DM_X2_lastWaitingBut_24 rfl fRX2_53 (co0 hc) rfl rfl ?_
      have i4 := h.1
      replace h := h.2
      have i5 := h.1
      replace h := h.2
      have i6 := h.1
      replace h := h.2
      refine r_callVi [.inl x4, .inl (μ c 4)] (q := 30) DM_X2_lastWaitingBut_27 rfl kM_X2_waitsOn lRX2_100 (co0 hc) rfl rfl (by decide) (Nat.le_of_ble_eq_true rfl) rfl (k_X2_waitsOn hc i4 i5 i6 ⟨_, rfl, ?_⟩)
      refine r_bbeq (q := 33) (t := 52) DM_X2_lastWaitingBut_30 rfl (by decide) ⟨fun cc => ?_, fun cc => ?_⟩
      · replace h := h.1 cc
        refine v_iinc (q := 55) (ls' := [some (.inr c), some (.inl x1), some (.inl x2), some (.inl x3), some (.inl (x4 + 1))]) DM_X2_lastWaitingBut_52 rfl rfl (by decide) rfl ?_
        refine r_goto (q := 5) DM_X2_lastWaitingBut_55 (by decide) ?_
        exact h
      · replace h := h.2 cc
        refine r_iloadn (q := 34) DM_X2_lastWaitingBut_33 rfl rfl ?_
        refine r_iconst (q := 35) (n := (-1)) DM_X2_lastWaitingBut_34 rfl ?_
        have i7 := h.1
        replace h := h.2
        refine r_iceq (q := 38) (t := 49) DM_X2_lastWaitingBut_35 rfl (by decide) ⟨⟨i7, (by decide)⟩, fun cc => ?_, fun cc => ?_⟩
        · replace h := h.1 cc
          refine r_iload (q := 51) DM_X2_lastWaitingBut_49 rfl rfl ?_
          refine v_istoren (q := 52) (ls' := [some (.inr c), some (.inl x1), some (.inl x2), some (.inl x4), some (.inl x4)]) DM_X2_lastWaitingBut_51 rfl (by decide) rfl ?_
          refine v_iinc (q := 55) (ls' := [some (.inr c), some (.inl x1), some (.inl x2), some (.inl x4), some (.inl (x4 + 1))]) DM_X2_lastWaitingBut_52 rfl rfl (by decide) rfl ?_
          refine r_goto (q := 5) DM_X2_lastWaitingBut_55 (by decide) ?_
          exact h
        · replace h := h.2 cc
          refine r_aloadn (q := 39) DM_X2_lastWaitingBut_38 rfl rfl ?_
          refine r_iloadn (q := 40) DM_X2_lastWaitingBut_39 rfl rfl ?_
          refine r_iload (q := 42) DM_X2_lastWaitingBut_40 rfl rfl ?_
          refine r_iloadn (q := 43) DM_X2_lastWaitingBut_42 rfl rfl ?_
          have i8 := h.1
          replace h := h.2
          have i9 := h.1
          replace h := h.2
          have i10 := h.1
          replace h := h.2
          have i11 := h.1
          replace h := h.2
          refine r_callVi [.inl x3, .inl x4, .inl x2] (q := 46) DM_X2_lastWaitingBut_43 rfl kM_X2_isBefore lRX2_109 (co0 hc) rfl rfl (by decide) (Nat.le_of_ble_eq_true rfl) rfl (k_X2_isBefore hc i4 i8 i9 i5 i10 i11 ⟨_, rfl, ?_⟩)
          refine r_bbeq (q := 49) (t := 52) DM_X2_lastWaitingBut_46 rfl (by decide) ⟨fun cc => ?_, fun cc => ?_⟩
          · replace h := h.1 cc
            refine v_iinc (q := 55) (ls' := [some (.inr c), some (.inl x1), some (.inl x2), some (.inl x3), some (.inl (x4 + 1))]) DM_X2_lastWaitingBut_52 rfl rfl (by decide) rfl ?_
            refine r_goto (q := 5) DM_X2_lastWaitingBut_55 (by decide) ?_
            exact h
          · replace h := h.2 cc
            refine r_iload (q := 51) DM_X2_lastWaitingBut_49 rfl rfl ?_
            refine v_istoren (q := 52) (ls' := [some (.inr c), some (.inl x1), some (.inl x2), some (.inl x4), some (.inl x4)]) DM_X2_lastWaitingBut_51 rfl (by decide) rfl ?_
            refine v_iinc (q := 55) (ls' := [some (.inr c), some (.inl x1), some (.inl x2), some (.inl x4), some (.inl (x4 + 1))]) DM_X2_lastWaitingBut_52 rfl rfl (by decide) rfl ?_
            refine r_goto (q := 5) DM_X2_lastWaitingBut_55 (by decide) ?_
            exact h
theorem k_X2_lastWaitingBut (hc : coS c) (hg : RgC μ c) (hR : RoOk E) (hV : VC (cv μ c)) (ha : inR a) (h : Q (some (.inl (cLast (cv μ c) a t))) μ) : Cl E 3 M_X2_lastWaitingBut [.inr c, .inl a, .inl t] μ Q := by
  obtain ⟨-, v1, v3, v4, v5, vp⟩ := hV
  simp only [cv, Nat.add_zero] at v1 v3 v4 v5
  refine s_X2_lastWaitingBut hc ?_
  let g : Int → Int → Int := fun p x => if p ≠ a ∧ cWait (cv μ c) p (cv μ c 0 4) = true ∧ (x = -1 ∨ cBef (cv μ c) x p t = true) then p else x
  refine up_ind (N := μ c 1) (P := fun p => Gg E 3 M_X2_lastWaitingBut 5 [some (.inr c), some (.inl a), some (.inl t), some (.inl (foldI g (-1) p)), some (.inl p)] [] μ Q) 0 v1.1 ?_ (fun p h1 h2 ih => ?_)
  · exact s_X2_lastWaitingBut_5 hc ⟨by omega, by omega, fun _ => h, fun z => absurd (Int.le_refl _) z⟩
  · rw [foldI_succ h1] at ih
    have hr : foldI g (-1) p = -1 ∨ (0 ≤ foldI g (-1) p ∧ foldI g (-1) p < p) := cLast_rng (v := cv μ c) (x := a) (t := t) p h1
    refine s_X2_lastWaitingBut_5 hc ⟨by omega, by omega, fun z => absurd z (by omega), fun _ => ⟨ha, fun z => ?_, fun z => ⟨hg, by omega, by omega, fun z2 => ?_, fun z2 => ⟨by omega, fun z3 => ?_, fun z3 => ⟨hR, by omega, vp _ (by omega) (by simp only [cv, Nat.add_zero]; omega), vp p h1 h2, fun z4 => ?_, fun z4 => ?_⟩⟩⟩⟩⟩
    · rwa [show g p (foldI g (-1) p) = foldI g (-1) p from if_neg (fun q => q.1 z)] at ih
    · rwa [show g p (foldI g (-1) p) = foldI g (-1) p from if_neg (fun q => by have := q.2.1; rw [show cv μ c 0 4 = μ c 4 from rfl, z2] at this; exact absurd this (by decide))] at ih
    · rwa [show g p (foldI g (-1) p) = p from if_pos ⟨z, z2, Or.inl z3⟩] at ih
    · rwa [show g p (foldI g (-1) p) = foldI g (-1) p from if_neg (fun q => by rcases q.2.2 with q | q; exact z3 q; rw [z4] at q; exact absurd q (by decide))] at ih
    · rwa [show g p (foldI g (-1) p) = p from if_pos ⟨z, z2, Or.inr z4⟩] at ih
set_option maxRecDepth 20000 in
theorem s_X2_openDay {E : Ex} {μ : Mem} {Q : Option Vl → Mem → Prop} {x1 : Int} {c : Nat} (hc : coS c) (h : Gg E 2 M_X2_openDay 8 [some (.inr c), some (.inl x1), some (.inl 0), some (.inl 1000000), some (.inl 0)] [] μ Q) : Cl E 2 M_X2_openDay [.inr c, .inl x1] μ Q := by
  show Gg E 2 M_X2_openDay 0 [some (.inr c), some (.inl x1), none, none, none] [] μ Q
  refine r_iconst (q := 1) (n := 0) DM_X2_openDay_0 rfl ?_
  refine v_istoren (q := 2) (ls' := [some (.inr c), some (.inl x1), some (.inl 0), none, none]) DM_X2_openDay_1 rfl (by decide) rfl ?_
  refine r_ldc (q := 4) (n := 1000000) DM_X2_openDay_2 rfl nRX2_125 ?_
  refine v_istoren (q := 5) (ls' := [some (.inr c), some (.inl x1), some (.inl 0), some (.inl 1000000), none]) DM_X2_openDay_4 rfl (by decide) rfl ?_
  refine r_iconst (q := 6) (n := 0) DM_X2_openDay_5 rfl ?_
  refine v_istore (q := 8) (ls' := [some (.inr c), some (.inl x1), some (.inl 0), some (.inl 1000000), some (.inl 0)]) DM_X2_openDay_6 rfl (by decide) rfl ?_
  exact h
set_option maxRecDepth 20000 in
theorem s_X2_openDay_8 {E : Ex} {μ : Mem} {Q : Option Vl → Mem → Prop} {x1 x2 x3 x4 : Int} {c : Nat} (hc : coS c) (h : inR x4 ∧ inR (μ c 1) ∧ (x4 ≥ (μ c 1) → inR x2 ∧ inR (μ c 2) ∧ (x2 ≥ (μ c 2) → Q (some (.inl x3)) μ) ∧ (¬ x2 ≥ (μ c 2) → Q (some (.inl x1)) μ)) ∧ (¬ x4 ≥ (μ c 1) → (RgC μ c) ∧ (0 ≤ x4 ∧ x4 < 6) ∧ inR x1 ∧ ((cServ (cv μ c) x4 x1) = false → Gg E 2 M_X2_openDay 8 [some (.inr c), some (.inl x1), some (.inl x2), some (.inl x3), some (.inl (x4 + 1))] [] μ Q) ∧ ((cServ (cv μ c) x4 x1) = true → (inR x3 ∧ inR (μ (c + 8) x4 + μ (c + 6) x4)) ∧ Gg E 2 M_X2_openDay 8 [some (.inr c), some (.inl x1), some (.inl (x2 + 1)), some (.inl (if (μ (c + 8) x4 + μ (c + 6) x4) < x3 then (μ (c + 8) x4 + μ (c + 6) x4) else x3)), some (.inl (x4 + 1))] [] μ Q))) : Gg E 2 M_X2_openDay 8 [some (.inr c), some (.inl x1), some (.inl x2), some (.inl x3), some (.inl x4)] [] μ Q := by
  refine r_iload (q := 10) DM_X2_openDay_8 rfl rfl ?_
  refine r_aloadn (q := 11) DM_X2_openDay_10 rfl rfl ?_
  refine v_getI (q := 14) (ji := 1) DM_X2_openDay_11 rfl fRX2_43 (co0 hc) rfl rfl ?_
  have i1 := h.1
  replace h := h.2
  have i2 := h.1
  replace h := h.2
  refine r_icge (q := 17) (t := 47) DM_X2_openDay_14 rfl (by decide) ⟨⟨i1, i2⟩, fun cc => ?_, fun cc => ?_⟩
  · replace h := h.1 cc
    refine r_iloadn (q := 48) DM_X2_openDay_47 rfl rfl ?_
    refine r_aloadn (q := 49) DM_X2_openDay_48 rfl rfl ?_
    refine v_getI (q := 52) (ji := 2) DM_X2_openDay_49 rfl fRX2_47 (co0 hc) rfl rfl ?_
    have i3 := h.1
    replace h := h.2
    have i4 := h.1
    replace h := h.2
    refine r_icge (q := 55) (t := 59) DM_X2_openDay_52 rfl (by decide) ⟨⟨i3, i4⟩, fun cc => ?_, fun cc => ?_⟩
    · replace h := h.1 cc
      refine r_iloadn (q := 60) DM_X2_openDay_59 rfl rfl ?_
      exact r_ret (v := some (.inl x3)) ⟨DM_X2_openDay_60, Or.inl rfl⟩ h
    · replace h := h.2 cc
      refine r_iloadn (q := 56) DM_X2_openDay_55 rfl rfl ?_
      refine r_goto (q := 60) DM_X2_openDay_56 (by decide) ?_
      exact r_ret (v := some (.inl x1)) ⟨DM_X2_openDay_60, Or.inl rfl⟩ h
  · replace h := h.2 cc
    refine r_aloadn (q := 18) DM_X2_openDay_17 rfl rfl ?_
    refine r_iload (q := 20) DM_X2_openDay_18 rfl rfl ?_
    refine r_iloadn (q := 21) DM_X2_openDay_20 rfl rfl ?_
    have i5 := h.1
    replace h := h.2
    have i6 := h.1
    replace h := h.2
    have i7 := h.1
    replace h := h.2
    refine r_callVi [.inl x4, .inl x1] (q := 24) DM_X2_openDay_21 rfl kM_X2_servesOn lRX2_96 (co0 hc) rfl rfl (by decide) (Nat.le_of_ble_eq_true rfl) rfl (k_X2_servesOn hc i5 i6 i7 ⟨_, rfl, ?_⟩)
    refine r_bbeq (q := 27) (t := 41) DM_X2_openDay_24 rfl (by decide) ⟨fun cc => ?_, fun cc => ?_⟩
    · replace h := h.1 cc
      refine v_iinc (q := 44) (ls' := [some (.inr c), some (.inl x1), some (.inl x2), some (.inl x3), some (.inl (x4 + 1))]) DM_X2_openDay_41 rfl rfl (by decide) rfl ?_
      refine r_goto (q := 8) DM_X2_openDay_44 (by decide) ?_
      exact h
    · replace h := h.2 cc
      refine v_iinc (q := 30) (ls' := [some (.inr c), some (.inl x1), some (.inl (x2 + 1)), some (.inl x3), some (.inl x4)]) DM_X2_openDay_27 rfl rfl (by decide) rfl ?_
      refine r_iloadn (q := 31) DM_X2_openDay_30 rfl rfl ?_
      refine r_aloadn (q := 32) DM_X2_openDay_31 rfl rfl ?_
      refine r_iload (q := 34) DM_X2_openDay_32 rfl rfl ?_
      refine r_callVi [.inl x4] (q := 37) DM_X2_openDay_34 rfl kM_X2_freeDay lRX2_92 (co0 hc) rfl rfl (by decide) (Nat.le_of_ble_eq_true rfl) rfl (k_X2_freeDay hc i6 ⟨_, rfl, ?_⟩)
      refine r_min (q := 40) DM_X2_openDay_37 rfl lRX2_70 min_st min_in min_co (by decide) (Nat.le_of_ble_eq_true rfl) ⟨h.1, ?_⟩
      replace h := h.2
      refine v_istoren (q := 41) (ls' := [some (.inr c), some (.inl x1), some (.inl (x2 + 1)), some (.inl (if (μ (c + 8) x4 + μ (c + 6) x4) < x3 then (μ (c + 8) x4 + μ (c + 6) x4) else x3)), some (.inl x4)]) DM_X2_openDay_40 rfl (by decide) rfl ?_
      refine v_iinc (q := 44) (ls' := [some (.inr c), some (.inl x1), some (.inl (x2 + 1)), some (.inl (if (μ (c + 8) x4 + μ (c + 6) x4) < x3 then (μ (c + 8) x4 + μ (c + 6) x4) else x3)), some (.inl (x4 + 1))]) DM_X2_openDay_41 rfl rfl (by decide) rfl ?_
      refine r_goto (q := 8) DM_X2_openDay_44 (by decide) ?_
      exact h
theorem k_X2_openDay (hc : coS c) (hg : RgC μ c) (hn : 0 ≤ μ c 1 ∧ μ c 1 ≤ 6) (hd : inR d) (h : Q (some (.inl (cOpen (cv μ c) d))) μ) : Cl E 2 M_X2_openDay [.inr c, .inl d] μ Q := by
  refine s_X2_openDay hc ?_
  let g : Int → Int → Int := fun p a => if cServ (cv μ c) p d = true then (if cv μ c 8 p + cv μ c 6 p < a then cv μ c 8 p + cv μ c 6 p else a) else a
  refine up_ind (N := μ c 1) (P := fun p => Gg E 2 M_X2_openDay 8 [some (.inr c), some (.inl d), some (.inl (cntI (fun p => cServ (cv μ c) p d) p)), some (.inl (foldI g 1000000 p)), some (.inl p)] [] μ Q) 0 hn.1 ?_ (fun p h1 h2 ih => ?_)
  · have hcn := cntI_rng (f := fun p => cServ (cv μ c) p d) (μ c 1) hn.1
    have g2 := hg.f 2
    unfold cOpen cSoon at h
    refine s_X2_openDay_8 hc ⟨by omega, by omega, fun _ => ⟨by omega, by omega, fun z => ?_, fun z => ?_⟩, fun z => absurd (Int.le_refl _) z⟩
    · rwa [if_neg (show ¬ cntI (fun p => cServ (cv μ c) p d) (cv μ c 0 1) < cv μ c 0 2 by simp only [cv, Nat.add_zero] at z ⊢; omega)] at h
    · rwa [if_pos (show cntI (fun p => cServ (cv μ c) p d) (cv μ c 0 1) < cv μ c 0 2 by simp only [cv, Nat.add_zero] at z ⊢; omega)] at h
  · rw [foldI_succ h1, cntI_succ h1] at ih
    have g8 := hg 8 p (by decide)
    have g6 := hg 6 p (by decide)
    have hle := cSoon_le (v := cv μ c) (d := d) p h1
    have hge : -4000000 ≤ foldI g 1000000 p := foldI_inv (I := fun _ a => -4000000 ≤ a) (N := p) (by decide) (fun p a _ _ ha => by have g8 := hg 8 p (by decide); have g6 := hg 6 p (by decide); show -4000000 ≤ g p a; simp only [g, cv]; split <;> (try split) <;> omega) p h1 (Int.le_refl p)
    refine s_X2_openDay_8 hc ⟨by omega, by omega, fun z => absurd z (by omega), fun _ => ⟨hg, by omega, hd, fun z => ?_, fun z => ⟨⟨⟨by omega, ?_⟩, by omega⟩, ?_⟩⟩⟩
    · rwa [z, show bi false = 0 from rfl, Int.add_zero, show g p (foldI g 1000000 p) = foldI g 1000000 p from if_neg (by rw [z]; decide)] at ih
    · have : foldI g 1000000 p ≤ 1000000 := hle
      omega
    · rwa [z, show bi true = 1 from rfl, show g p (foldI g 1000000 p) = (if μ (c + 8) p + μ (c + 6) p < foldI g 1000000 p then μ (c + 8) p + μ (c + 6) p else foldI g 1000000 p) from if_pos z] at ih
set_option maxRecDepth 20000 in
theorem s_X2_waitedByAll {E : Ex} {μ : Mem} {Q : Option Vl → Mem → Prop} {c : Nat} (hc : coS c) (h : Gg E 1 M_X2_waitedByAll 4 [some (.inr c), some (.inl 0), some (.inl 0)] [] μ Q) : Cl E 1 M_X2_waitedByAll [.inr c] μ Q := by
  show Gg E 1 M_X2_waitedByAll 0 [some (.inr c), none, none] [] μ Q
  refine r_iconst (q := 1) (n := 0) DM_X2_waitedByAll_0 rfl ?_
  refine v_istoren (q := 2) (ls' := [some (.inr c), some (.inl 0), none]) DM_X2_waitedByAll_1 rfl (by decide) rfl ?_
  refine r_iconst (q := 3) (n := 0) DM_X2_waitedByAll_2 rfl ?_
  refine v_istoren (q := 4) (ls' := [some (.inr c), some (.inl 0), some (.inl 0)]) DM_X2_waitedByAll_3 rfl (by decide) rfl ?_
  exact h
set_option maxRecDepth 20000 in
theorem s_X2_waitedByAll_4 {E : Ex} {μ : Mem} {Q : Option Vl → Mem → Prop} {x1 x2 : Int} {c : Nat} (hc : coS c) (h : inR x2 ∧ inR (μ c 1) ∧ (x2 ≥ (μ c 1) → Q (some (.inl x1)) μ) ∧ (¬ x2 ≥ (μ c 1) → (RgC μ c) ∧ (0 ≤ x2 ∧ x2 < 6) ∧ ((cSeat (cv μ c) x2) = false → Gg E 1 M_X2_waitedByAll 4 [some (.inr c), some (.inl (x1 + (μ (c + 7) x2))), some (.inl (x2 + 1))] [] μ Q) ∧ ((cSeat (cv μ c) x2) = true → Gg E 1 M_X2_waitedByAll 4 [some (.inr c), some (.inl (x1 + (μ (c + 8) x2))), some (.inl (x2 + 1))] [] μ Q))) : Gg E 1 M_X2_waitedByAll 4 [some (.inr c), some (.inl x1), some (.inl x2)] [] μ Q := by
  refine r_iloadn (q := 5) DM_X2_waitedByAll_4 rfl rfl ?_
  refine r_aloadn (q := 6) DM_X2_waitedByAll_5 rfl rfl ?_
  refine v_getI (q := 9) (ji := 1) DM_X2_waitedByAll_6 rfl fRX2_43 (co0 hc) rfl rfl ?_
  have i1 := h.1
  replace h := h.2
  have i2 := h.1
  replace h := h.2
  refine r_icge (q := 12) (t := 44) DM_X2_waitedByAll_9 rfl (by decide) ⟨⟨i1, i2⟩, fun cc => ?_, fun cc => ?_⟩
  · replace h := h.1 cc
    refine r_iloadn (q := 45) DM_X2_waitedByAll_44 rfl rfl ?_
    exact r_ret (v := some (.inl x1)) ⟨DM_X2_waitedByAll_45, Or.inl rfl⟩ h
  · replace h := h.2 cc
    refine r_iloadn (q := 13) DM_X2_waitedByAll_12 rfl rfl ?_
    refine r_aloadn (q := 14) DM_X2_waitedByAll_13 rfl rfl ?_
    refine r_iloadn (q := 15) DM_X2_waitedByAll_14 rfl rfl ?_
    have i3 := h.1
    replace h := h.2
    have i4 := h.1
    replace h := h.2
    refine r_callVi [.inl x2] (q := 18) DM_X2_waitedByAll_15 rfl kM_X2_isSeated lRX2_88 (co0 hc) rfl rfl (by decide) (Nat.le_of_ble_eq_true rfl) rfl (k_X2_isSeated hc i3 i4 ⟨_, rfl, ?_⟩)
    refine r_bbeq (q := 21) (t := 30) DM_X2_waitedByAll_18 rfl (by decide) ⟨fun cc => ?_, fun cc => ?_⟩
    · replace h := h.1 cc
      refine r_aloadn (q := 31) DM_X2_waitedByAll_30 rfl rfl ?_
      refine r_getR (q := 34) (r := c + 7) DM_X2_waitedByAll_31 rfl fRX2_30 (co0 hc) rfl ?_
      refine r_iloadn (q := 35) DM_X2_waitedByAll_34 rfl rfl ?_
      refine r_iald (q := 36) DM_X2_waitedByAll_35 rfl (co7 hc) (by decide) ⟨i4, ?_⟩
      refine r_iadd (q := 37) DM_X2_waitedByAll_36 rfl ?_
      refine v_istoren (q := 38) (ls' := [some (.inr c), some (.inl (x1 + (μ (c + 7) x2))), some (.inl x2)]) DM_X2_waitedByAll_37 rfl (by decide) rfl ?_
      refine v_iinc (q := 41) (ls' := [some (.inr c), some (.inl (x1 + (μ (c + 7) x2))), some (.inl (x2 + 1))]) DM_X2_waitedByAll_38 rfl rfl (by decide) rfl ?_
      refine r_goto (q := 4) DM_X2_waitedByAll_41 (by decide) ?_
      exact h
    · replace h := h.2 cc
      refine r_aloadn (q := 22) DM_X2_waitedByAll_21 rfl rfl ?_
      refine r_getR (q := 25) (r := c + 8) DM_X2_waitedByAll_22 rfl fRX2_33 (co0 hc) rfl ?_
      refine r_iloadn (q := 26) DM_X2_waitedByAll_25 rfl rfl ?_
      refine r_iald (q := 27) DM_X2_waitedByAll_26 rfl (co8 hc) (by decide) ⟨i4, ?_⟩
      refine r_goto (q := 36) DM_X2_waitedByAll_27 (by decide) ?_
      refine r_iadd (q := 37) DM_X2_waitedByAll_36 rfl ?_
      refine v_istoren (q := 38) (ls' := [some (.inr c), some (.inl (x1 + (μ (c + 8) x2))), some (.inl x2)]) DM_X2_waitedByAll_37 rfl (by decide) rfl ?_
      refine v_iinc (q := 41) (ls' := [some (.inr c), some (.inl (x1 + (μ (c + 8) x2))), some (.inl (x2 + 1))]) DM_X2_waitedByAll_38 rfl rfl (by decide) rfl ?_
      refine r_goto (q := 4) DM_X2_waitedByAll_41 (by decide) ?_
      exact h
theorem k_X2_waitedByAll (hc : coS c) (hg : RgC μ c) (hn : 0 ≤ μ c 1 ∧ μ c 1 ≤ 6) (h : Q (some (.inl (cSum (cv μ c)))) μ) : Cl E 1 M_X2_waitedByAll [.inr c] μ Q := by
  refine s_X2_waitedByAll hc ?_
  let g : Int → Int → Int := fun p a => a + (if cSeat (cv μ c) p = true then cv μ c 8 p else cv μ c 7 p)
  refine up_ind (N := μ c 1) (P := fun p => Gg E 1 M_X2_waitedByAll 4 [some (.inr c), some (.inl (foldI g 0 p)), some (.inl p)] [] μ Q) 0 hn.1 ?_ (fun p h1 h2 ih => ?_)
  · exact s_X2_waitedByAll_4 hc ⟨by omega, by omega, fun _ => h, fun z => absurd (Int.le_refl _) z⟩
  · rw [foldI_succ h1] at ih
    refine s_X2_waitedByAll_4 hc ⟨by omega, by omega, fun z => absurd z (by omega), fun _ => ⟨hg, by omega, fun z => ?_, fun z => ?_⟩⟩
    · rwa [show g p (foldI g 0 p) = foldI g 0 p + μ (c + 7) p by simp only [g]; rw [if_neg (by rw [z]; decide)]; rfl] at ih
    · rwa [show g p (foldI g 0 p) = foldI g 0 p + μ (c + 8) p by simp only [g]; rw [if_pos z]; rfl] at ih
end C23
