/-! The reference: the court by a row. -/
set_option maxRecDepth 20000 in
theorem s_X8_waitedByLine {E : Ex} {μ : Mem} {Q : Option Vl → Mem → Prop} {x1 : Int} {v : CV}  (h : Cl E 0 M_X8_copies [.inr 89, .inl 0, .inr 91, .inl 0] μ (fun vv μ1 => vv = none ∧ Gg E 2 M_X8_waitedByLine 17 [some (.inr 83), some (.inl x1), some (.inl 0), some (.inl 0)] [] μ1 Q)) : Cl E 2 M_X8_waitedByLine [.inr 83, .inl x1] μ Q := by
  show Gg E 2 M_X8_waitedByLine 0 [some (.inr 83), some (.inl x1), none, none] [] μ Q
  refine r_aloadn (q := 1) DM_X8_waitedByLine_0 rfl rfl ?_
  refine r_getR (q := 4) (r := 89) DM_X8_waitedByLine_1 rfl fRX8_25 sh_83 rfl ?_
  refine r_iconst (q := 5) (n := 0) DM_X8_waitedByLine_4 rfl ?_
  refine r_aloadn (q := 6) DM_X8_waitedByLine_5 rfl rfl ?_
  refine r_getR (q := 9) (r := 91) DM_X8_waitedByLine_6 rfl fRX8_31 sh_83 rfl ?_
  refine r_iconst (q := 10) (n := 0) DM_X8_waitedByLine_9 rfl ?_
  refine r_callSv [.inr 89, .inl 0, .inr 91, .inl 0] (q := 13) DM_X8_waitedByLine_10 rfl kM_X8_copies lRX8_151 rfl (by decide) (Nat.le_of_ble_eq_true rfl) rfl (Cl.imp h (fun vv μ1 h => ?_))
  obtain ⟨hv, h⟩ := h
  refine ⟨hv, ?_⟩
  refine r_iconst (q := 14) (n := 0) DM_X8_waitedByLine_13 rfl ?_
  refine v_istoren (q := 15) (ls' := [some (.inr 83), some (.inl x1), some (.inl 0), none]) DM_X8_waitedByLine_14 rfl (by decide) rfl ?_
  refine r_iconst (q := 16) (n := 0) DM_X8_waitedByLine_15 rfl ?_
  refine v_istoren (q := 17) (ls' := [some (.inr 83), some (.inl x1), some (.inl 0), some (.inl 0)]) DM_X8_waitedByLine_16 rfl (by decide) rfl ?_
  exact h
set_option maxRecDepth 20000 in
theorem s_X8_waitedByLine_17 {E : Ex} {μ : Mem} {Q : Option Vl → Mem → Prop} {x1 x2 x3 : Int} {v : CV}  (h : inR x3 ∧ (x3 ≥ 300 → Cl E 1 M_X8_waitedTried [.inr 83] μ (fun vv μ2 => ∃ v3, vv = some (.inl v3) ∧ Q (some (.inl v3)) μ2)) ∧ (¬ x3 ≥ 300 → (Rel v (μ 91)) ∧ (v 0 4 < 1500) ∧ (v 0 0 = 1) ∧ ∀ μ7 : Mem, (Rel (upv v 0 4 (v 0 4 + 1)) (μ7 91) ∧ ∀ j, j ≠ 91 → μ7 j = μ j) → Gg E 2 M_X8_waitedByLine 31 [some (.inr 83), some (.inl x1), some (.inl x2), some (.inl x3)] [] μ7 Q)) : Gg E 2 M_X8_waitedByLine 17 [some (.inr 83), some (.inl x1), some (.inl x2), some (.inl x3)] [] μ Q := by
  refine r_iloadn (q := 18) DM_X8_waitedByLine_17 rfl rfl ?_
  refine r_sipush (q := 21) (n := 300) DM_X8_waitedByLine_18 rfl (by decide) ?_
  have i1 := h.1
  replace h := h.2
  refine r_icge (q := 24) (t := 110) DM_X8_waitedByLine_21 rfl (by decide) ⟨⟨i1, (by decide)⟩, fun cc => ?_, fun cc => ?_⟩
  · replace h := h.1 cc
    refine r_aloadn (q := 111) DM_X8_waitedByLine_110 rfl rfl ?_
    refine r_callVi [] (q := 114) DM_X8_waitedByLine_111 rfl kM_X8_waitedTried lRX8_223 sh_83 rfl rfl (by decide) (Nat.le_of_ble_eq_true rfl) rfl (Cl.imp h (fun vv μ2 h => ?_))
    obtain ⟨v3, hv, h⟩ := h
    refine ⟨v3, hv, ?_⟩
    exact r_ret (v := some (.inl v3)) ⟨DM_X8_waitedByLine_114, Or.inl rfl⟩ h
  · replace h := h.2 cc
    refine r_aloadn (q := 25) DM_X8_waitedByLine_24 rfl rfl ?_
    refine r_getR (q := 28) (r := 91) DM_X8_waitedByLine_25 rfl fRX8_31 sh_83 rfl ?_
    have i4 := h.1
    replace h := h.2
    have i5 := h.1
    replace h := h.2
    have i6 := h.1
    replace h := h.2
    refine r_callSv [.inr 91] (q := 31) DM_X8_waitedByLine_28 rfl kM_X8_ages lRX8_183 rfl (by decide) (Nat.le_of_ble_eq_true rfl) rfl (k_X8_ages sh_91 i4 i5 i6 (fun μ7 e7 => ⟨rfl, ?_⟩))
    replace h := h μ7 e7
    exact h
set_option maxRecDepth 20000 in
theorem s_X8_waitedByLine_31 {E : Ex} {μ : Mem} {Q : Option Vl → Mem → Prop} {x1 x2 x3 : Int} {v : CV}  (h : inR x2 ∧ inR x1 ∧ (x2 ≥ x1 → Gg E 2 M_X8_waitedByLine 17 [some (.inr 83), some (.inl x1), some (.inl x2), some (.inl (x3 + 1))] [] μ Q) ∧ (¬ x2 ≥ x1 → (0 ≤ x2 ∧ x2 < 6) ∧ (Rel v (μ 91)) ∧ (0 ≤ (μ 98 x2) ∧ (μ 98 x2) < v 0 1) ∧ ((cWait v (μ 98 x2) (v 0 4)) = false → Gg E 2 M_X8_waitedByLine 69 [some (.inr 83), some (.inl x1), some (.inl x2), some (.inl x3)] [] μ Q) ∧ ((cWait v (μ 98 x2) (v 0 4)) = true → inR (cntI (fun p => decide (cState v p (v 0 4) = 1)) (v 0 1)) ∧ inR (μ 91 0) ∧ ((cntI (fun p => decide (cState v p (v 0 4) = 1)) (v 0 1)) ≥ (μ 91 0) → Gg E 2 M_X8_waitedByLine 17 [some (.inr 83), some (.inl x1), some (.inl x2), some (.inl (x3 + 1))] [] μ Q) ∧ (¬ (cntI (fun p => decide (cState v p (v 0 4) = 1)) (v 0 1)) ≥ (μ 91 0) → Gg E 2 M_X8_waitedByLine 69 [some (.inr 83), some (.inl x1), some (.inl x2), some (.inl x3)] [] μ Q)))) : Gg E 2 M_X8_waitedByLine 31 [some (.inr 83), some (.inl x1), some (.inl x2), some (.inl x3)] [] μ Q := by
  refine r_iloadn (q := 32) DM_X8_waitedByLine_31 rfl rfl ?_
  refine r_iloadn (q := 33) DM_X8_waitedByLine_32 rfl rfl ?_
  have i1 := h.1
  replace h := h.2
  have i2 := h.1
  replace h := h.2
  refine r_icge (q := 36) (t := 104) DM_X8_waitedByLine_33 rfl (by decide) ⟨⟨i1, i2⟩, fun cc => ?_, fun cc => ?_⟩
  · replace h := h.1 cc
    refine v_iinc (q := 107) (ls' := [some (.inr 83), some (.inl x1), some (.inl x2), some (.inl (x3 + 1))]) DM_X8_waitedByLine_104 rfl rfl (by decide) rfl ?_
    refine r_goto (q := 17) DM_X8_waitedByLine_107 (by decide) ?_
    exact h
  · replace h := h.2 cc
    refine r_aloadn (q := 37) DM_X8_waitedByLine_36 rfl rfl ?_
    refine r_getR (q := 40) (r := 91) DM_X8_waitedByLine_37 rfl fRX8_31 sh_83 rfl ?_
    refine r_aloadn (q := 41) DM_X8_waitedByLine_40 rfl rfl ?_
    refine r_getR (q := 44) (r := 98) DM_X8_waitedByLine_41 rfl fRX8_53 sh_83 rfl ?_
    refine r_iloadn (q := 45) DM_X8_waitedByLine_44 rfl rfl ?_
    refine r_iald (q := 46) DM_X8_waitedByLine_45 rfl sh_98 (by decide) ⟨h.1, ?_⟩
    have i3 := h.1
    replace h := h.2
    have i4 := h.1
    replace h := h.2
    have i5 := h.1
    replace h := h.2
    refine r_callSi [.inr 91, .inl (μ 98 x2)] (q := 49) DM_X8_waitedByLine_46 rfl kM_X8_waits lRX8_172 rfl (by decide) (Nat.le_of_ble_eq_true rfl) rfl (k_X8_waits sh_91 i4 i5 ⟨_, rfl, ?_⟩)
    refine r_bbeq (q := 52) (t := 69) DM_X8_waitedByLine_49 rfl (by decide) ⟨fun cc => ?_, fun cc => ?_⟩
    · replace h := h.1 cc
      exact h
    · replace h := h.2 cc
      refine r_aloadn (q := 53) DM_X8_waitedByLine_52 rfl rfl ?_
      refine r_getR (q := 56) (r := 91) DM_X8_waitedByLine_53 rfl fRX8_31 sh_83 rfl ?_
      refine r_iconst (q := 57) (n := 1) DM_X8_waitedByLine_56 rfl ?_
      refine r_callSi [.inr 91, .inl 1] (q := 60) DM_X8_waitedByLine_57 rfl kM_X8_manySo lRX8_193 rfl (by decide) (Nat.le_of_ble_eq_true rfl) rfl (k_X8_manySo sh_91 i4 (by decide) ⟨_, rfl, ?_⟩)
      refine r_aloadn (q := 61) DM_X8_waitedByLine_60 rfl rfl ?_
      refine r_getR (q := 64) (r := 91) DM_X8_waitedByLine_61 rfl fRX8_31 sh_83 rfl ?_
      refine r_iconst (q := 65) (n := 0) DM_X8_waitedByLine_64 rfl ?_
      refine r_iald (q := 66) DM_X8_waitedByLine_65 rfl sh_91 (by decide) ⟨by decide, ?_⟩
      have i6 := h.1
      replace h := h.2
      have i7 := h.1
      replace h := h.2
      refine r_icge (q := 69) (t := 104) DM_X8_waitedByLine_66 rfl (by decide) ⟨⟨i6, i7⟩, fun cc => ?_, fun cc => ?_⟩
      · replace h := h.1 cc
        refine v_iinc (q := 107) (ls' := [some (.inr 83), some (.inl x1), some (.inl x2), some (.inl (x3 + 1))]) DM_X8_waitedByLine_104 rfl rfl (by decide) rfl ?_
        refine r_goto (q := 17) DM_X8_waitedByLine_107 (by decide) ?_
        exact h
      · replace h := h.2 cc
        exact h
set_option maxRecDepth 20000 in
theorem s_X8_waitedByLine_69 {E : Ex} {μ : Mem} {Q : Option Vl → Mem → Prop} {x1 x2 x3 : Int} {v : CV}  (h : (0 ≤ x2 ∧ x2 < 6) ∧ (Rel v (μ 91)) ∧ (0 ≤ (μ 98 x2) ∧ (μ 98 x2) < v 0 1) ∧ ((cWait v (μ 98 x2) (v 0 4)) = false → Gg E 2 M_X8_waitedByLine 31 [some (.inr 83), some (.inl x1), some (.inl (x2 + 1)), some (.inl x3)] [] μ Q) ∧ ((cWait v (μ 98 x2) (v 0 4)) = true → Cl E 0 M_X8_seats [.inr 91, .inl (μ 98 x2)] μ (fun vv μ4 => vv = none ∧ Gg E 2 M_X8_waitedByLine 31 [some (.inr 83), some (.inl x1), some (.inl (x2 + 1)), some (.inl x3)] [] μ4 Q))) : Gg E 2 M_X8_waitedByLine 69 [some (.inr 83), some (.inl x1), some (.inl x2), some (.inl x3)] [] μ Q := by
  refine r_aloadn (q := 70) DM_X8_waitedByLine_69 rfl rfl ?_
  refine r_getR (q := 73) (r := 91) DM_X8_waitedByLine_70 rfl fRX8_31 sh_83 rfl ?_
  refine r_aloadn (q := 74) DM_X8_waitedByLine_73 rfl rfl ?_
  refine r_getR (q := 77) (r := 98) DM_X8_waitedByLine_74 rfl fRX8_53 sh_83 rfl ?_
  refine r_iloadn (q := 78) DM_X8_waitedByLine_77 rfl rfl ?_
  refine r_iald (q := 79) DM_X8_waitedByLine_78 rfl sh_98 (by decide) ⟨h.1, ?_⟩
  have i1 := h.1
  replace h := h.2
  have i2 := h.1
  replace h := h.2
  have i3 := h.1
  replace h := h.2
  refine r_callSi [.inr 91, .inl (μ 98 x2)] (q := 82) DM_X8_waitedByLine_79 rfl kM_X8_waits lRX8_172 rfl (by decide) (Nat.le_of_ble_eq_true rfl) rfl (k_X8_waits sh_91 i2 i3 ⟨_, rfl, ?_⟩)
  refine r_bbeq (q := 85) (t := 98) DM_X8_waitedByLine_82 rfl (by decide) ⟨fun cc => ?_, fun cc => ?_⟩
  · replace h := h.1 cc
    refine v_iinc (q := 101) (ls' := [some (.inr 83), some (.inl x1), some (.inl (x2 + 1)), some (.inl x3)]) DM_X8_waitedByLine_98 rfl rfl (by decide) rfl ?_
    refine r_goto (q := 31) DM_X8_waitedByLine_101 (by decide) ?_
    exact h
  · replace h := h.2 cc
    refine r_aloadn (q := 86) DM_X8_waitedByLine_85 rfl rfl ?_
    refine r_getR (q := 89) (r := 91) DM_X8_waitedByLine_86 rfl fRX8_31 sh_83 rfl ?_
    refine r_aloadn (q := 90) DM_X8_waitedByLine_89 rfl rfl ?_
    refine r_getR (q := 93) (r := 98) DM_X8_waitedByLine_90 rfl fRX8_53 sh_83 rfl ?_
    refine r_iloadn (q := 94) DM_X8_waitedByLine_93 rfl rfl ?_
    refine r_iald (q := 95) DM_X8_waitedByLine_94 rfl sh_98 (by decide) ⟨i1, ?_⟩
    refine r_callSv [.inr 91, .inl (μ 98 x2)] (q := 98) DM_X8_waitedByLine_95 rfl kM_X8_seats lRX8_196 rfl (by decide) (Nat.le_of_ble_eq_true rfl) rfl (Cl.imp h (fun vv μ4 h => ?_))
    obtain ⟨hv, h⟩ := h
    refine ⟨hv, ?_⟩
    refine v_iinc (q := 101) (ls' := [some (.inr 83), some (.inl x1), some (.inl (x2 + 1)), some (.inl x3)]) DM_X8_waitedByLine_98 rfl rfl (by decide) rfl ?_
    refine r_goto (q := 31) DM_X8_waitedByLine_101 (by decide) ?_
    exact h
def LJ (v : CV) (O : Int → Int) (u z : Int) (w : CV) (x D e : Int) : Prop := ((∀ j, j ≠ 0 → j ≠ 8 → w j = v j) ∧ (∀ i, i ≠ 4 → w 0 i = v 0 i) ∧ w 0 4 = D) ∧ (∀ d, e ≤ d → sv w d = cntI (fun s => decide (d < (gs v O u z x).1 s)) (v 0 2)) ∧ (∀ k, x ≤ k → k < nW v → w 8 (lin v z k) = -1000000) ∧ cSum w = (gs v O u z x).2 + rst v z x ∧ ∀ p, 0 ≤ p → p < v 0 1 → w 8 p = -1000000 ∨ w 8 p ≤ v 0 4 + 99
def LB (v : CV) (O : Int → Int) (u z x e : Int) : Prop := x < nW v → ∀ s, 0 ≤ s → s < v 0 2 → e ≤ (gs v O u z x).1 s
section P89
variable {E : Ex} {v w : CV} {O : Int → Int} {u z x D e : Int} {μ : Mem} {Q : Option Vl → Mem → Prop}
theorem LJ.day (h : LJ v O u z w x D (D + 1)) : LJ v O u z (upv w 0 4 (D + 1)) x (D + 1) (D + 1) := by
  obtain ⟨⟨a1, a2, a3⟩, b, c, d, f⟩ := h
  refine ⟨⟨fun j j0 j8 => by rw [upv_ne j0]; exact a1 j j0 j8, fun i hi => by rw [upv_i hi]; exact a2 i hi, upv_self⟩, fun t ht => ?_, fun k k0 k1 => by rw [upv_ne (by decide)]; exact c k k0 k1, by rw [cSum_day]; exact d, fun p p0 p1 => by rw [upv_ne (by decide)]; exact f p p0 p1⟩
  rw [← b t ht]
  rfl
theorem LJ.more (h : LJ v O u z w x D D) : LJ v O u z w x D (D + 1) := ⟨h.1, fun d hd => h.2.1 d (by omega), h.2.2⟩
theorem LJ.skip (hV : VC v) (hS : 1 ≤ v 0 2) (hp : perm v z) (h : LJ v O u z w x D D) (x0 : 0 ≤ x) (x1 : x < nW v) (hb : LB v O u z x D) (hw : cWait w (lin v z x) D = false) : LJ v O u z w (x + 1) D D ∧ LB v O u z (x + 1) D := by
  obtain ⟨⟨a1, a2, a3⟩, b, c, d, f⟩ := h
  have c1 := c x (Int.le_refl _) x1
  have w7 : w 7 = v 7 := a1 7 (by decide) (by decide)
  have hl : v 7 (lin v z x) ≤ D := by
    unfold cWait at hw
    have := of_decide_eq_false hw
    rw [w7] at this
    rcases (show v 7 (lin v z x) ≤ D ∨ D < v 7 (lin v z x) by omega) with q | q
    · exact q
    · exact absurd ⟨c1, q⟩ this
  have fo := fos_ok (O := (gs v O u z x).1) hS
  have lb := hb x1 _ fo.1.1 fo.1.2
  have g : gs v O u z (x + 1) = ((gs v O u z x).1, (gs v O u z x).2 + v 7 (lin v z x)) := by
    rw [gs_succ x0]; unfold gst; rw [if_neg (by omega)]
  refine ⟨⟨⟨a1, a2, a3⟩, fun t ht => by rw [g]; exact b t ht, fun k k0 k1 => c k (by omega) k1, ?_, f⟩, fun _ s s0 s1 => by rw [g]; exact hb x1 s s0 s1⟩
  rw [g, rst_succ hV.2.1.1 hp x0 x1, d]
  show _ = (gs v O u z x).2 + v 7 (lin v z x) + (rst v z x - v 7 (lin v z x))
  omega
theorem LJ.seat (hV : VC v) (hS : 1 ≤ v 0 2) (hp : perm v z) (h : LJ v O u z w x D D) (x0 : 0 ≤ x) (x1 : x < nW v) (hD : 0 ≤ D) (hb : LB v O u z x D) (hw : cWait w (lin v z x) D = true) (hs : sv w D < v 0 2) : LJ v O u z (upv w 8 (lin v z x) D) (x + 1) D D ∧ LB v O u z (x + 1) D := by
  obtain ⟨⟨a1, a2, a3⟩, b, c, d, f⟩ := h
  have c1 := c x (Int.le_refl _) x1
  have w7 : w 7 = v 7 := a1 7 (by decide) (by decide)
  have w6 : w 6 = v 6 := a1 6 (by decide) (by decide)
  have n1 : w 0 1 = v 0 1 := a2 1 (by decide)
  have lo := lin_ok (v := v) (z := z) hV.2.1.1 x0 x1
  have hl : D < v 7 (lin v z x) := by
    unfold cWait at hw
    have := (of_decide_eq_true hw).2
    rwa [w7] at this
  have pk := hV.2.2.2.2.2 _ lo.1.1 lo.1.2
  have l9 := pk.2.2.2.1
  have v4 := hV.2.2.2.1
  have fo := fos_ok (O := (gs v O u z x).1) hS
  have lb := hb x1 _ fo.1.1 fo.1.2
  have up : (gs v O u z x).1 (fos (gs v O u z x).1 (v 0 2)) ≤ D := by
    rcases (show (gs v O u z x).1 (fos (gs v O u z x).1 (v 0 2)) ≤ D ∨ D < (gs v O u z x).1 (fos (gs v O u z x).1 (v 0 2)) by omega) with q | q
    · exact q
    · have al := cnt_all (f := fun s => decide (D < (gs v O u z x).1 s)) (N := v 0 2) (by omega) (fun s s0 s1 => decide_eq_true (by have := fo.2 s s0 s1; omega))
      rw [← b D (Int.le_refl _)] at al
      omega
  obtain ⟨a, ea⟩ : ∃ a, a = fos (gs v O u z x).1 (v 0 2) := ⟨_, rfl⟩
  rw [← ea] at fo lb up
  have eD : (gs v O u z x).1 a = D := by omega
  have g : gs v O u z (x + 1) = ((fun i => if i = a then D + v 6 (lin v z x) else (gs v O u z x).1 i), (gs v O u z x).2 + D) := by
    rw [gs_succ x0]; unfold gst; rw [← ea, eD, if_pos hl]
  have g1 : ∀ i, (gs v O u z (x + 1)).1 i = if i = a then D + v 6 (lin v z x) else (gs v O u z x).1 i := fun i => by rw [g]
  have g2 : (gs v O u z (x + 1)).2 = (gs v O u z x).2 + D := by rw [g]
  have t6 := pk.2.2.1
  refine ⟨⟨⟨fun j j0 j8 => by rw [upv_ne j8]; exact a1 j j0 j8, fun i hi => by rw [upv_ne (by decide)]; exact a2 i hi, by rw [upv_ne (by decide)]; exact a3⟩, fun t ht => ?_, fun k k0 k1 => ?_, ?_, fun p p0 p1 => ?_⟩, fun y s s0 s1 => ?_⟩
  · have A : sv (upv w 8 (lin v z x) D) t = sv w t + (bi (cServ (upv w 8 (lin v z x) D) (lin v z x) t) - bi (cServ w (lin v z x) t)) := by
      unfold sv
      rw [show (upv w 8 (lin v z x) D) 0 1 = w 0 1 by rw [upv_ne (by decide)]]
      refine cnt_one lo.1.1 (by omega) (fun p p0 p1 hq => ?_)
      unfold cServ
      rw [upv_i hq, upv_ne (by decide)]
    have B : cntI (fun s => decide (t < (gs v O u z (x + 1)).1 s)) (v 0 2) = cntI (fun s => decide (t < (gs v O u z x).1 s)) (v 0 2) + (bi (decide (t < (gs v O u z (x + 1)).1 a)) - bi (decide (t < (gs v O u z x).1 a))) :=
      cnt_one fo.1.1 fo.1.2 (fun s _ _ hq => by rw [g1 s, if_neg hq])
    rw [A, B, b t ht, g1 a, if_pos rfl, eD, decide_eq_false (show ¬ t < D by omega)]
    have s1 : cServ w (lin v z x) t = false := by unfold cServ; exact decide_eq_false (fun q => q.1 c1)
    have s2 : cServ (upv w 8 (lin v z x) D) (lin v z x) t = decide (t < D + v 6 (lin v z x)) := by
      unfold cServ
      rw [upv_self, upv_ne (by decide), w6]
      by_cases q : t < D + v 6 (lin v z x)
      · rw [decide_eq_true q]; exact decide_eq_true ⟨by omega, q⟩
      · rw [decide_eq_false q]; exact decide_eq_false (fun y => q y.2)
    rw [s1, s2]
  · rw [upv_i (fun q => lin_inj hV.2.1.1 hp x0 (show x < k by omega) k1 q.symm)]
    exact c k (by omega) k1
  · have A := sum_one (g := fun p => if cSeat w p = true then w 8 p else w 7 p) (g' := fun p => if cSeat (upv w 8 (lin v z x) D) p = true then (upv w 8 (lin v z x) D) 8 p else (upv w 8 (lin v z x) D) 7 p) lo.1.1 lo.1.2 (fun p _ _ hq => by
      unfold cSeat
      rw [upv_i hq, upv_ne (by decide)])
    have s1 : cSeat w (lin v z x) = false := by unfold cSeat; exact decide_eq_false (fun q => q c1)
    have s2 : cSeat (upv w 8 (lin v z x) D) (lin v z x) = true := by unfold cSeat; rw [upv_self]; exact decide_eq_true (by omega)
    rw [s1, s2, if_pos rfl, if_neg (by decide), upv_self, w7] at A
    have e1 : cSum (upv w 8 (lin v z x) D) = foldI (fun p a => a + (if cSeat (upv w 8 (lin v z x) D) p = true then (upv w 8 (lin v z x) D) 8 p else (upv w 8 (lin v z x) D) 7 p)) 0 (v 0 1) := by
      unfold cSum
      rw [show (upv w 8 (lin v z x) D) 0 1 = v 0 1 by rw [upv_ne (by decide)]; exact n1]
    have e2 : cSum w = foldI (fun p a => a + (if cSeat w p = true then w 8 p else w 7 p)) 0 (v 0 1) := by
      unfold cSum
      rw [n1]
    rw [w7] at e2
    rw [e1, A, ← e2, d, g2, rst_succ hV.2.1.1 hp x0 x1]
    omega
  · by_cases q : p = lin v z x
    · rw [q, upv_self]; right; omega
    · rw [upv_i q]; exact f p p0 p1
  · rw [g1 s]
    split
    · omega
    · exact hb x1 s s0 s1
theorem LJ.first (hV : VC v) (op : OP v O) : LJ v O (pst v (v 0 1)) z v 0 (v 0 4) (v 0 4 + 1) ↔ (∀ p, 0 ≤ p → p < v 0 1 → v 8 p = -1000000 ∨ v 8 p ≤ v 0 4 + 99) := by
  refine ⟨fun h => h.2.2.2.2, fun h => ⟨⟨fun _ _ _ => rfl, fun _ _ => rfl, rfl⟩, op.2, fun k k0 k1 => ?_, ?_, h⟩⟩
  · have := (lin_ok (v := v) (z := z) hV.2.1.1 k0 k1).2.1
    unfold wf cWait at this
    exact (of_decide_eq_true this).1
  · show cSum v = pst v (v 0 1) + rst v z 0
    have key : ∀ c : Nat, foldI (fun p a => a + (if cSeat v p = true then v 8 p else v 7 p)) 0 (c : Int) = pst v c + foldI (fun p a => a + (if wf v p = true ∧ usd v z 0 p = false then v 7 p else 0)) 0 (c : Int) := by
      intro c
      induction c with
      | zero => rfl
      | succ c ih =>
        have ps : pst v ((c : Int) + 1) = if wf v c = true then pst v c else pst v c + (if cSeat v c = true then v 8 c else v 7 c) := foldI_succ (by omega)
        rw [show ((c + 1 : Nat) : Int) = (c : Int) + 1 by omega, foldI_succ (by omega), foldI_succ (by omega), ps, ih]
        have us : usd v z 0 (c : Int) = false := rfl
        cases hf : wf v c
        · rw [if_neg (show ¬ (false = true) by decide), if_neg (show ¬ (false = true ∧ usd v z 0 (c : Int) = false) from fun q => absurd q.1 (by decide))]; omega
        · have : cSeat v c = false := by
            unfold wf cWait at hf
            unfold cSeat
            exact decide_eq_false (fun q => q (of_decide_eq_true hf).1)
          rw [this, if_pos rfl, if_neg (by decide), if_pos ⟨rfl, us⟩]; omega
    have := key (v 0 1).toNat
    rw [show (((v 0 1).toNat : Nat) : Int) = v 0 1 by have := hV.2.1; omega] at this
    exact this
theorem k_X8_waitedByLine (hR : Rel v (μ 89)) (hs : v 0 0 = 1) (hd : v 0 4 ≤ 999) (op : OP v O) (hz : 0 ≤ z) (hp : perm v z) (hl : ∀ k, 0 ≤ k → k < nW v → μ 98 k = lin v z k) (h : ∀ μ1 : Mem, (∀ k, k ≠ 91 → μ1 k = μ k) → Q (some (.inl (gs v O (pst v (v 0 1)) z (nW v)).2)) μ1) : Cl E 2 M_X8_waitedByLine [.inr 83, .inl (nW v)] μ Q := by
  have hV := hR.2.1
  have N6 := hR.n
  have n6 := nW_rng hV.2.1
  have D0 := hV.2.2.2.1
  have S4 : 1 ≤ v 0 2 ∧ v 0 2 ≤ 4 := by
    rcases hV.1 with q | q
    · exact absurd (q.1.symm.trans hs) (by decide)
    · exact q.2.1
  have hpk := hV.2.2.2.2.2
  refine s_X8_waitedByLine (v := v) (k_X8_copies sh_89 (by decide) sh_91 (by decide) (by decide) (by decide) (by decide) (fun μ1 o1 o2 o3 => ⟨rfl, ?_⟩))
  refine Gg.agr (clip_agr (c := 91) (n := 91) sh_91) ?_
  obtain ⟨μ2, em⟩ : ∃ μ2, μ2 = clip μ1 91 91 := ⟨_, rfl⟩
  have k2 : ∀ k, k ≠ 91 → μ2 k = μ k := fun k hk => by rw [em, clip_ne hk, o1 k hk]
  have r2 : Rel v (μ2 91) := by
    refine hR.arr (fun i i0 i1 => ?_) (fun i => ?_)
    · have := o2 i i0 i1
      rw [Int.zero_add] at this
      rw [em, clip_in ⟨i0, i1⟩, this]
    · rw [em]
      by_cases hi : 0 ≤ i ∧ i < 91
      · have := o2 i hi.1 hi.2
        rw [Int.zero_add] at this
        rw [clip_in hi, this]; exact hR.2.2.1 i
      · rw [clip_out hi]; omega
  show Gg E 2 M_X8_waitedByLine 17 _ [] (clip μ1 91 ((91 : Nat) : Int)) Q
  rw [show clip μ1 91 ((91 : Nat) : Int) = μ2 from em.symm]
  obtain ⟨u, eu⟩ : ∃ u, u = pst v (v 0 1) := ⟨_, rfl⟩
  rw [← eu] at h
  have loop : ∀ (r t : Nat), t + r = 300 → ∀ (w : CV) (x : Int) (μ' : Mem), (0 ≤ x ∧ x ≤ nW v) → Rel w (μ' 91) → (∀ k, k ≠ 91 → μ' k = μ k) → LJ v O u z w x (v 0 4 + t) (v 0 4 + t + 1) → LB v O u z x (v 0 4 + t + 1) → (x < nW v → t = 0 ∨ v 0 4 + t < v 7 (lin v z x)) → Gg E 2 M_X8_waitedByLine 17 [some (.inr 83), some (.inl (nW v)), some (.inl x), some (.inl (t : Int))] [] μ' Q := by
    intro r
    induction r with
    | zero =>
      intro t ht w x μ' hx rw1 k1 lj lb al
      have t3 : t = 300 := by omega
      have xn : x = nW v := by
        rcases (show x < nW v ∨ x = nW v by omega) with q | q
        · have := al q
          have lo := lin_ok (v := v) (z := z) N6.1 hx.1 q
          have := (hpk _ lo.1.1 lo.1.2).2.2.2.1
          omega
        · exact q
      obtain ⟨⟨a1, a2, a3⟩, b, c, d, f⟩ := lj
      have n1 : w 0 1 = v 0 1 := a2 1 (by decide)
      refine s_X8_waitedByLine_17 (v := w) ⟨by omega, fun _ => k_X8_waitedTried rw1 (fun p p0 p1 => ?_) ⟨_, rfl, ?_⟩, fun q => absurd (by omega) q⟩
      · have pk := hpk p p0 (by omega)
        have l9 := pk.2.2.2.1
        have t6 := pk.2.2.1
        have := f p p0 (by omega)
        unfold cState
        rw [a3, a1 7 (by decide) (by decide), a1 6 (by decide) (by decide)]
        split
        · rw [if_neg (by omega)]
        · rw [if_neg (by omega)]
      · rw [d, xn, rst_end hV hz hp, Int.add_zero]
        exact h μ' k1
    | succ r ih =>
      intro t ht w x μ' hx rw1 k1 lj lb al
      have a3 := lj.1.2.2
      have a0 : w 0 0 = 1 := by rw [lj.1.2.1 0 (by decide)]; exact hs
      refine s_X8_waitedByLine_17 (v := w) ⟨by omega, fun q => absurd q (by omega), fun _ => ⟨rw1, by omega, a0, fun μ7 h7 => ?_⟩⟩
      rw [a3] at h7
      have inner : ∀ (s : Nat) (x : Int), 0 ≤ x → x + s = nW v → ∀ (w : CV) (μ' : Mem), Rel w (μ' 91) → (∀ k, k ≠ 91 → μ' k = μ k) → LJ v O u z w x (v 0 4 + t + 1) (v 0 4 + t + 1) → LB v O u z x (v 0 4 + t + 1) → Gg E 2 M_X8_waitedByLine 31 [some (.inr 83), some (.inl (nW v)), some (.inl x), some (.inl (t : Int))] [] μ' Q := by
        intro s
        induction s with
        | zero =>
          intro x x0 xs w μ' rw1 k1 lj lb
          refine s_X8_waitedByLine_31 (v := w) ⟨by omega, by omega, fun _ => ?_, fun q => absurd (by omega) q⟩
          have := ih (t + 1) (by omega) w x μ' (by omega) rw1 k1 (by rw [show v 0 4 + ((t + 1 : Nat) : Int) = v 0 4 + t + 1 by omega]; exact lj.more) (fun q => absurd q (by omega)) (fun q => absurd q (by omega))
          rwa [show ((t + 1 : Nat) : Int) = (t : Int) + 1 by omega] at this
        | succ s ihs =>
          intro x x0 xs w μ' rw1 k1 lj lb
          have x1 : x < nW v := by omega
          have f98 : μ' 98 x = lin v z x := by rw [k1 98 (by decide)]; exact hl x x0 x1
          have lo := lin_ok (v := v) (z := z) N6.1 x0 x1
          obtain ⟨⟨a1, a2, a3⟩, b, c, d, f⟩ := id lj
          have n1 : w 0 1 = v 0 1 := a2 1 (by decide)
          have w02 : w 0 2 = v 0 2 := a2 2 (by decide)
          have e0 : μ' 91 0 = w 0 2 := rw1.1.1
          have cs : cntI (fun p => decide (cState w p (v 0 4 + t + 1) = 1)) (w 0 1) = sv w (v 0 4 + t + 1) := cntI_congr (fun p _ _ => cServ_state.symm)
          have sr := cntI_rng (f := fun p => cServ w p (v 0 4 + t + 1)) (w 0 1) (by omega)
          replace sr : 0 ≤ sv w (v 0 4 + t + 1) ∧ sv w (v 0 4 + t + 1) ≤ w 0 1 := sr
          refine s_X8_waitedByLine_31 (v := w) ⟨by omega, by omega, fun q => absurd q (by omega), fun _ => ?_⟩
          rw [f98, a3, cs]
          refine ⟨by omega, rw1, by omega, fun hw => ?_, fun hw => ⟨by omega, by omega, fun ge => ?_, fun lt => ?_⟩⟩
          · refine s_X8_waitedByLine_69 (v := w) ?_
            rw [f98, a3]
            obtain ⟨lj', lb'⟩ := lj.skip hV S4.1 hp x0 x1 lb hw
            exact ⟨by omega, rw1, by omega, fun _ => ihs (x + 1) (by omega) (by omega) w μ' rw1 k1 lj' lb', fun q => absurd (q.symm.trans hw) (by decide)⟩
          · have := ih (t + 1) (by omega) w x μ' (by omega) rw1 k1 (by rw [show v 0 4 + ((t + 1 : Nat) : Int) = v 0 4 + t + 1 by omega]; exact lj.more) (fun _ s s0 s1 => ?_) (fun _ => Or.inr ?_)
            · rwa [show ((t + 1 : Nat) : Int) = (t : Int) + 1 by omega] at this
            · have bb := b (v 0 4 + t + 1) (Int.le_refl _)
              have := cntI_full (f := fun s => decide (v 0 4 + t + 1 < (gs v O u z x).1 s)) (N := v 0 2) (by omega) (by omega) s s0 s1
              have := of_decide_eq_true this
              omega
            · unfold cWait at hw
              have := (of_decide_eq_true hw).2
              rw [a1 7 (by decide) (by decide)] at this
              omega
          · refine s_X8_waitedByLine_69 (v := w) ?_
            rw [f98, a3]
            obtain ⟨lj', lb'⟩ := lj.seat hV S4.1 hp x0 x1 (by omega) lb hw (by omega)
            refine ⟨by omega, rw1, by omega, fun q => absurd (q.symm.trans hw) (by decide), fun _ => k_X8_seats sh_91 rw1 (by omega) (by rw [a3]; exact hw) (by omega) (fun μ4 h4 => ⟨rfl, ihs (x + 1) (by omega) (by omega) (upv w 8 (lin v z x) (v 0 4 + t + 1)) μ4 ?_ (fun k hk => by rw [h4.2 k hk, k1 k hk]) lj' lb'⟩)⟩
            have := h4.1
            rwa [a3] at this
      refine inner (nW v - x).toNat x hx.1 (by omega) (upv w 0 4 (v 0 4 + t + 1)) μ7 h7.1 (fun k hk => by rw [h7.2 k hk, k1 k hk]) lj.day lb
  have l0 := loop 300 0 rfl v 0 μ2 (by omega) r2 k2 (by rw [show v 0 4 + ((0 : Nat) : Int) = v 0 4 by omega, eu]; exact (LJ.first hV op).mpr (fun p p0 p1 => by rcases hR.2.2.2 p p0 p1 with q | q <;> omega)) (fun _ s s0 s1 => by have := (op.1 s s0 s1).1; show v 0 4 + ((0 : Nat) : Int) + 1 ≤ O s; omega) (fun _ => Or.inl rfl)
  exact l0
end P89
