/-! The relation of a court's value and the reference's row of numbers. -/
def RgA (a : Int → Int) : Prop := ∀ i, -2000000 ≤ a i ∧ a i ≤ 2000000
def rP (v : CV) (a : Int → Int) (p : Int) : Prop := a (13 + 13 * p + 0) = v 3 p ∧ a (13 + 13 * p + 1) = v 6 p ∧ a (13 + 13 * p + 2) = v 7 p ∧ a (13 + 13 * p + 3) = v 4 p ∧ (∀ i, 0 ≤ i → i < v 4 p → a (13 + 13 * p + (4 + i)) = v 5 (p * 4 + i)) ∧ a (13 + 13 * p + 8) = cState v p (v 0 4) ∧ a (13 + 13 * p + 9) = (if cState v p (v 0 4) = 1 then v 8 p + v 6 p - v 0 4 else 0) ∧ a (13 + 13 * p + 10) = v 8 p ∧ a (13 + 13 * p + 11) = (if cState v p (v 0 4) = 2 then v 8 p + v 6 p else -1000000) ∧ a (13 + 13 * p + 12) = (if cState v p (v 0 4) = 3 then v 7 p else -1000000)
def RcV (v : CV) (a : Int → Int) : Prop := a 0 = v 0 2 ∧ a 1 = v 0 3 ∧ a 2 = v 0 1 ∧ a 3 = v 0 4 ∧ a 4 = v 0 5 ∧ (∀ i, 0 ≤ i → i < 8 → a (5 + i) = v 1 i) ∧ ∀ p, 0 ≤ p → p < v 0 1 → rP v a p
def SCv (v : CV) : Prop := ∀ p, 0 ≤ p → p < v 0 1 → v 8 p = -1000000 ∨ (1 ≤ v 8 p ∧ v 8 p ≤ v 0 4)
def Rel (v : CV) (a : Int → Int) : Prop := RcV v a ∧ VC v ∧ RgA a ∧ SCv v
theorem Rel.p {v : CV} {a : Int → Int} (h : Rel v a) {p : Int} (h1 : 0 ≤ p) (h2 : p < v 0 1) : rP v a p := h.1.2.2.2.2.2.2 p h1 h2
theorem Rel.ok {v : CV} {a : Int → Int} (h : Rel v a) {p : Int} (h1 : 0 ≤ p) (h2 : p < v 0 1) : pOK v p := h.2.1.2.2.2.2.2 p h1 h2
theorem Rel.n {v : CV} {a : Int → Int} (h : Rel v a) : 0 ≤ v 0 1 ∧ v 0 1 ≤ 6 := h.2.1.2.1
theorem Rel.a2 {v : CV} {a : Int → Int} (h : Rel v a) : a 2 = v 0 1 := h.1.2.2.1
theorem Rel.a3 {v : CV} {a : Int → Int} (h : Rel v a) : a 3 = v 0 4 := h.1.2.2.2.1
theorem cState_wait {v : CV} {p d : Int} : cState v p d = 0 ↔ cWait v p d = true := by
  unfold cState cWait
  rw [decide_eq_true_eq]
  split <;> split <;> omega
section C31
variable {E : Ex} {μ : Mem} {Q : Option Vl → Mem → Prop} {k : Nat} {v : CV} {a b x p l n i s d t : Int}
theorem k_X8_waits (hk : shp k = (0, 91, [])) (hR : Rel v (μ k)) (hp : 0 ≤ p ∧ p < v 0 1) (h : Q (some (.inl (bi (cWait v p (v 0 4))))) μ) : Cl E 1 M_X8_waits [.inr k, .inl p] μ Q := by
  have hn := hR.n
  have e := (hR.p hp.1 hp.2).2.2.2.2.2.1
  have r := cState_rng (v := v) (p := p) (d := v 0 4)
  refine s_X8_waits hk ⟨by omega, by omega, fun z => ?_, fun z => ?_⟩
  · have : cWait v p (v 0 4) = false := by
      cases hq : cWait v p (v 0 4)
      · rfl
      · exact absurd (e.trans (cState_wait.mpr hq)) z
    rwa [this] at h
  · rwa [cState_wait.mp (e.symm.trans z)] at h
theorem k_X8_classOf (hk : shp k = (0, 91, [])) (hR : Rel v (μ k)) (hp : 0 ≤ p ∧ p < v 0 1) (h : Q (some (.inl (gGrp (v 3 p)))) μ) : Cl E 1 M_X8_classOf [.inr k, .inl p] μ Q := by
  have hn := hR.n
  have e := (hR.p hp.1 hp.2).1
  have r := (hR.ok hp.1 hp.2).1
  refine s_X8_classOf hk ⟨by omega, by omega, ?_⟩
  rw [e]
  refine ⟨fun z => ⟨fun z2 => ?_, fun z2 => ?_⟩, fun z => ?_⟩
  · rwa [gGrp, if_neg z, if_neg z2] at h
  · rwa [gGrp, if_neg z, if_pos z2] at h
  · rwa [gGrp, if_pos z] at h
def cLet (v : CV) (p i : Int) : Int := if i < v 4 p then cRead v p i else -1
theorem cLet_rng {v : CV} {p i : Int} (h : pOK v p) (h1 : 0 ≤ i) : -1 ≤ cLet v p i ∧ cLet v p i ≤ 7 := by
  unfold cLet
  split
  · next q => have := cRead_rng h h1 q; omega
  · omega
theorem k_X8_letterOf (hk : shp k = (0, 91, [])) (hR : Rel v (μ k)) (hp : 0 ≤ p ∧ p < v 0 1) (hi : 0 ≤ i ∧ i < 100) (h : Q (some (.inl (cLet v p i))) μ) : Cl E 1 M_X8_letterOf [.inr k, .inl p, .inl i] μ Q := by
  have hn := hR.n
  obtain ⟨e0, -, -, e3, e4, -⟩ := hR.p hp.1 hp.2
  obtain ⟨r3, r4, -⟩ := hR.ok hp.1 hp.2
  unfold cLet cRead at h
  refine s_X8_letterOf hk ⟨by omega, by omega, by omega, ?_⟩
  rw [e0, e3]
  refine ⟨fun z => ⟨by omega, by omega, fun z2 => ⟨by omega, ?_⟩, fun z2 => ⟨by omega, ?_⟩⟩, fun z => ?_⟩
  · rw [if_pos z, if_neg z2] at h
    rwa [e4 i hi.1 z]
  · rw [if_pos z, if_pos z2] at h
    rwa [e4 _ (by omega) (by omega)]
  · rwa [if_neg z] at h
theorem k_X8_manySo (hk : shp k = (0, 91, [])) (hR : Rel v (μ k)) (hs : inR s) (h : Q (some (.inl (cntI (fun p => decide (cState v p (v 0 4) = s)) (v 0 1)))) μ) : Cl E 1 M_X8_manySo [.inr k, .inl s] μ Q := by
  have hn := hR.n
  have e2 := hR.a2
  refine s_X8_manySo hk ?_
  refine up_ind (N := v 0 1) (P := fun p => Gg E 1 M_X8_manySo 4 [some (.inr k), some (.inl s), some (.inl (cntI (fun p => decide (cState v p (v 0 4) = s)) p)), some (.inl p)] [] μ Q) 0 hn.1 ?_ (fun p h1 h2 ih => ?_)
  · exact s_X8_manySo_4 hk ⟨by omega, by omega, fun _ => h, fun z => absurd (show v 0 1 ≥ μ k 2 by omega) z⟩
  · have r := cState_rng (v := v) (p := p) (d := v 0 4)
    have e := (hR.p h1 h2).2.2.2.2.2.1
    rw [cntI_succ h1] at ih
    refine s_X8_manySo_4 hk ⟨by omega, by omega, fun z => absurd z (by omega), fun _ => ⟨by omega, by omega, hs, fun z => ?_, fun z => ?_⟩⟩
    · rwa [decide_eq_false (by rw [← e]; exact z), show bi false = 0 from rfl] at ih
    · rwa [decide_eq_true (by rw [← e]; exact z), show bi true = 1 from rfl] at ih
theorem Rel.ord {v : CV} {a : Int → Int} (h : Rel v a) (hp : 0 < v 0 1) : oOK v := by
  rcases h.2.1.1 with q | q
  · omega
  · exact q.2.2
theorem k_X8_rank (hk : shp k = (0, 91, [])) (hR : Rel v (μ k)) (hp : 0 < v 0 1) (hl : 0 ≤ l ∧ l < 8) (hb : 0 ≤ b ∧ b < 1000) (h : Q (some (.inl (cPlace v l (cTurn v (v 0 4) b)))) μ) : Cl E 0 M_X8_rank [.inr k, .inl l, .inl b] μ Q := by
  have ho := hR.ord hp
  obtain ⟨⟨e0, e1, e2, e3, e4, e5, -⟩, ⟨-, -, v3, v4, -⟩, -⟩ := hR
  have hT : 0 ≤ cTurn v (v 0 4) b ∧ cTurn v (v 0 4) b ≤ 100000 := by
    unfold cTurn
    split
    · omega
    · have h1 : 0 ≤ v 0 4 / v 0 3 := Int.ediv_nonneg v4.1 v3.1
      have h2 : v 0 4 / v 0 3 ≤ v 0 4 := Int.ediv_le_self _ v4.1
      omega
  have hl2 := (ho l hl.1 hl.2).2
  have hP : ∃ P, P = cPlace v l (cTurn v (v 0 4) b) ∧ 0 ≤ P ∧ P ≤ 7 ∧ (P + cTurn v (v 0 4) b) % 8 = v 2 l := ⟨_, rfl, by unfold cPlace; omega, by unfold cPlace; omega, by unfold cPlace; omega⟩
  obtain ⟨P, eP, P0, P7, P8⟩ := hP
  rw [← eP] at h
  have loop : ∀ j, 0 ≤ j → j ≤ P → Gg E 0 M_X8_rank 23 [some (.inr k), some (.inl l), some (.inl b), some (.inl (cTurn v (v 0 4) b)), some (.inl j)] [] μ Q := by
    intro j0 hj0 hj1
    have val : ∀ j, 0 ≤ j → μ k (5 + (j + cTurn v (v 0 4) b) % 8) = v 1 ((j + cTurn v (v 0 4) b) % 8) := fun j hj => e5 _ (by omega) (by omega)
    refine up_ind (N := P) (P := fun j => Gg E 0 M_X8_rank 23 [some (.inr k), some (.inl l), some (.inl b), some (.inl (cTurn v (v 0 4) b)), some (.inl j)] [] μ Q) j0 hj1 ?_ (fun j h1 h2 ih => ?_)
    · refine s_X8_rank_23 hk ⟨by omega, fun z => absurd z (by omega), fun _ => ?_⟩
      rw [jrem_pos (by omega) (by omega) (by decide) (by decide), val P P0, P8]
      rw [hl2.2]
      exact ⟨by omega, by omega, by omega, fun z => absurd rfl z, fun _ => h⟩
    · refine s_X8_rank_23 hk ⟨by omega, fun z => absurd z (by omega), fun _ => ?_⟩
      rw [jrem_pos (by omega) (by omega) (by decide) (by decide), val j (by omega)]
      have hq := (ho ((j + cTurn v (v 0 4) b) % 8) (by omega) (by omega)).1
      refine ⟨by omega, by omega, by omega, fun _ => ih, fun z => ?_⟩
      rw [z] at hq
      omega
  refine s_X8_rank hk ?_
  rw [e1, e3]
  refine ⟨by omega, fun z => ⟨⟨by omega, z⟩, ?_⟩, fun z => ?_⟩
  · rw [jdiv_pos v4.1 (by omega) (by omega) (by omega), Int.add_comm, show b + v 0 4 / v 0 3 = cTurn v (v 0 4) b by unfold cTurn; rw [if_neg z]]
    exact loop 0 (Int.le_refl 0) P0
  · rw [show 0 + b = cTurn v (v 0 4) b by unfold cTurn; rw [if_pos z]; omega]
    exact loop 0 (Int.le_refl 0) P0
end C31
set_option maxRecDepth 20000 in
theorem s_X8_isBefore {E : Ex} {μ : Mem} {Q : Option Vl → Mem → Prop} {x1 x2 x3 : Int} {v : CV} {k : Nat} (hk : shp k = (0, 91, [])) (h : (Rel v (μ k)) ∧ (0 ≤ x1 ∧ x1 < v 0 1) ∧ (0 ≤ x2 ∧ x2 < v 0 1) ∧ inR (gGrp (v 3 x1)) ∧ inR (gGrp (v 3 x2)) ∧ ((gGrp (v 3 x1)) = (gGrp (v 3 x2)) → Gg E 2 M_X8_isBefore 35 [some (.inr k), some (.inl x1), some (.inl x2), some (.inl x3), some (.inl 0), none, none] [] μ Q) ∧ (¬ (gGrp (v 3 x1)) = (gGrp (v 3 x2)) → ((gGrp (v 3 x1)) ≥ (gGrp (v 3 x2)) → Q (some (.inl (bi false))) μ) ∧ (¬ (gGrp (v 3 x1)) ≥ (gGrp (v 3 x2)) → Q (some (.inl (bi true))) μ))) : Cl E 2 M_X8_isBefore [.inr k, .inl x1, .inl x2, .inl x3] μ Q := by
  show Gg E 2 M_X8_isBefore 0 [some (.inr k), some (.inl x1), some (.inl x2), some (.inl x3), none, none, none] [] μ Q
  refine r_aloadn (q := 1) DM_X8_isBefore_0 rfl rfl ?_
  refine r_iloadn (q := 2) DM_X8_isBefore_1 rfl rfl ?_
  have i1 := h.1
  replace h := h.2
  have i2 := h.1
  replace h := h.2
  refine r_callSi [.inr k, .inl x1] (q := 5) DM_X8_isBefore_2 rfl kM_X8_classOf lRX8_162 rfl (by decide) (Nat.le_of_ble_eq_true rfl) rfl (k_X8_classOf hk i1 i2 ⟨_, rfl, ?_⟩)
  refine r_aloadn (q := 6) DM_X8_isBefore_5 rfl rfl ?_
  refine r_iloadn (q := 7) DM_X8_isBefore_6 rfl rfl ?_
  have i3 := h.1
  replace h := h.2
  refine r_callSi [.inr k, .inl x2] (q := 10) DM_X8_isBefore_7 rfl kM_X8_classOf lRX8_162 rfl (by decide) (Nat.le_of_ble_eq_true rfl) rfl (k_X8_classOf hk i1 i3 ⟨_, rfl, ?_⟩)
  have i4 := h.1
  replace h := h.2
  have i5 := h.1
  replace h := h.2
  refine r_iceq (q := 13) (t := 32) DM_X8_isBefore_10 rfl (by decide) ⟨⟨i4, i5⟩, fun cc => ?_, fun cc => ?_⟩
  · replace h := h.1 cc
    refine r_iconst (q := 33) (n := 0) DM_X8_isBefore_32 rfl ?_
    refine v_istore (q := 35) (ls' := [some (.inr k), some (.inl x1), some (.inl x2), some (.inl x3), some (.inl 0), none, none]) DM_X8_isBefore_33 rfl (by decide) rfl ?_
    exact h
  · replace h := h.2 cc
    refine r_aloadn (q := 14) DM_X8_isBefore_13 rfl rfl ?_
    refine r_iloadn (q := 15) DM_X8_isBefore_14 rfl rfl ?_
    refine r_callSi [.inr k, .inl x1] (q := 18) DM_X8_isBefore_15 rfl kM_X8_classOf lRX8_162 rfl (by decide) (Nat.le_of_ble_eq_true rfl) rfl (k_X8_classOf hk i1 i2 ⟨_, rfl, ?_⟩)
    refine r_aloadn (q := 19) DM_X8_isBefore_18 rfl rfl ?_
    refine r_iloadn (q := 20) DM_X8_isBefore_19 rfl rfl ?_
    refine r_callSi [.inr k, .inl x2] (q := 23) DM_X8_isBefore_20 rfl kM_X8_classOf lRX8_162 rfl (by decide) (Nat.le_of_ble_eq_true rfl) rfl (k_X8_classOf hk i1 i3 ⟨_, rfl, ?_⟩)
    refine r_icge (q := 26) (t := 30) DM_X8_isBefore_23 rfl (by decide) ⟨⟨i4, i5⟩, fun cc => ?_, fun cc => ?_⟩
    · replace h := h.1 cc
      refine r_iconst (q := 31) (n := 0) DM_X8_isBefore_30 rfl ?_
      exact r_ret (v := some (.inl 0)) ⟨DM_X8_isBefore_31, Or.inr ⟨rfl, Or.inl rfl⟩⟩ h
    · replace h := h.2 cc
      refine r_iconst (q := 27) (n := 1) DM_X8_isBefore_26 rfl ?_
      refine r_goto (q := 31) DM_X8_isBefore_27 (by decide) ?_
      exact r_ret (v := some (.inl 1)) ⟨DM_X8_isBefore_31, Or.inr ⟨rfl, Or.inr rfl⟩⟩ h
set_option maxRecDepth 20000 in
theorem s_X8_isBefore_35 {E : Ex} {μ : Mem} {Q : Option Vl → Mem → Prop} {x1 x2 x3 x4 : Int} {v : CV} {k : Nat} (hk : shp k = (0, 91, [])) (h : inR x4 ∧ (x4 ≥ 4 → inR x1 ∧ inR x2 ∧ (x1 ≥ x2 → Q (some (.inl (bi false))) μ) ∧ (¬ x1 ≥ x2 → Q (some (.inl (bi true))) μ)) ∧ (¬ x4 ≥ 4 → (Rel v (μ k)) ∧ (0 ≤ x1 ∧ x1 < v 0 1) ∧ (0 ≤ x4 ∧ x4 < 100) ∧ (0 ≤ x2 ∧ x2 < v 0 1) ∧ inR (cLet v x1 x4) ∧ inR (cLet v x2 x4) ∧ ((cLet v x1 x4) = (cLet v x2 x4) → Gg E 2 M_X8_isBefore 35 [some (.inr k), some (.inl x1), some (.inl x2), some (.inl x3), some (.inl (x4 + 1)), none, none] [] μ Q) ∧ (¬ (cLet v x1 x4) = (cLet v x2 x4) → ((cLet v x1 x4) < 0 → Q (some (.inl (bi true))) μ) ∧ (¬ (cLet v x1 x4) < 0 → ((cLet v x2 x4) < 0 → Q (some (.inl (bi false))) μ) ∧ (¬ (cLet v x2 x4) < 0 → (0 < v 0 1) ∧ (0 ≤ (cLet v x1 x4) ∧ (cLet v x1 x4) < 8) ∧ (0 ≤ x3 ∧ x3 < 1000) ∧ (0 ≤ (cLet v x2 x4) ∧ (cLet v x2 x4) < 8) ∧ inR (cPlace v (cLet v x1 x4) (cTurn v (v 0 4) x3)) ∧ inR (cPlace v (cLet v x2 x4) (cTurn v (v 0 4) x3)) ∧ ((cPlace v (cLet v x1 x4) (cTurn v (v 0 4) x3)) ≥ (cPlace v (cLet v x2 x4) (cTurn v (v 0 4) x3)) → Q (some (.inl (bi false))) μ) ∧ (¬ (cPlace v (cLet v x1 x4) (cTurn v (v 0 4) x3)) ≥ (cPlace v (cLet v x2 x4) (cTurn v (v 0 4) x3)) → Q (some (.inl (bi true))) μ)))))) : Gg E 2 M_X8_isBefore 35 [some (.inr k), some (.inl x1), some (.inl x2), some (.inl x3), some (.inl x4), none, none] [] μ Q := by
  refine r_iload (q := 37) DM_X8_isBefore_35 rfl rfl ?_
  refine r_iconst (q := 38) (n := 4) DM_X8_isBefore_37 rfl ?_
  have i1 := h.1
  replace h := h.2
  refine r_icge (q := 41) (t := 105) DM_X8_isBefore_38 rfl (by decide) ⟨⟨i1, (by decide)⟩, fun cc => ?_, fun cc => ?_⟩
  · replace h := h.1 cc
    refine r_iloadn (q := 106) DM_X8_isBefore_105 rfl rfl ?_
    refine r_iloadn (q := 107) DM_X8_isBefore_106 rfl rfl ?_
    have i2 := h.1
    replace h := h.2
    have i3 := h.1
    replace h := h.2
    refine r_icge (q := 110) (t := 114) DM_X8_isBefore_107 rfl (by decide) ⟨⟨i2, i3⟩, fun cc => ?_, fun cc => ?_⟩
    · replace h := h.1 cc
      refine r_iconst (q := 115) (n := 0) DM_X8_isBefore_114 rfl ?_
      exact r_ret (v := some (.inl 0)) ⟨DM_X8_isBefore_115, Or.inr ⟨rfl, Or.inl rfl⟩⟩ h
    · replace h := h.2 cc
      refine r_iconst (q := 111) (n := 1) DM_X8_isBefore_110 rfl ?_
      refine r_goto (q := 115) DM_X8_isBefore_111 (by decide) ?_
      exact r_ret (v := some (.inl 1)) ⟨DM_X8_isBefore_115, Or.inr ⟨rfl, Or.inr rfl⟩⟩ h
  · replace h := h.2 cc
    refine r_aloadn (q := 42) DM_X8_isBefore_41 rfl rfl ?_
    refine r_iloadn (q := 43) DM_X8_isBefore_42 rfl rfl ?_
    refine r_iload (q := 45) DM_X8_isBefore_43 rfl rfl ?_
    have i4 := h.1
    replace h := h.2
    have i5 := h.1
    replace h := h.2
    have i6 := h.1
    replace h := h.2
    refine r_callSi [.inr k, .inl x1, .inl x4] (q := 48) DM_X8_isBefore_45 rfl kM_X8_letterOf lRX8_166 rfl (by decide) (Nat.le_of_ble_eq_true rfl) rfl (k_X8_letterOf hk i4 i5 i6 ⟨_, rfl, ?_⟩)
    refine v_istore (q := 50) (ls' := [some (.inr k), some (.inl x1), some (.inl x2), some (.inl x3), some (.inl x4), some (.inl (cLet v x1 x4)), none]) DM_X8_isBefore_48 rfl (by decide) rfl ?_
    refine r_aloadn (q := 51) DM_X8_isBefore_50 rfl rfl ?_
    refine r_iloadn (q := 52) DM_X8_isBefore_51 rfl rfl ?_
    refine r_iload (q := 54) DM_X8_isBefore_52 rfl rfl ?_
    have i7 := h.1
    replace h := h.2
    refine r_callSi [.inr k, .inl x2, .inl x4] (q := 57) DM_X8_isBefore_54 rfl kM_X8_letterOf lRX8_166 rfl (by decide) (Nat.le_of_ble_eq_true rfl) rfl (k_X8_letterOf hk i4 i7 i6 ⟨_, rfl, ?_⟩)
    refine v_istore (q := 59) (ls' := [some (.inr k), some (.inl x1), some (.inl x2), some (.inl x3), some (.inl x4), some (.inl (cLet v x1 x4)), some (.inl (cLet v x2 x4))]) DM_X8_isBefore_57 rfl (by decide) rfl ?_
    refine r_iload (q := 61) DM_X8_isBefore_59 rfl rfl ?_
    refine r_iload (q := 63) DM_X8_isBefore_61 rfl rfl ?_
    have i8 := h.1
    replace h := h.2
    have i9 := h.1
    replace h := h.2
    refine r_iceq (q := 66) (t := 99) DM_X8_isBefore_63 rfl (by decide) ⟨⟨i8, i9⟩, fun cc => ?_, fun cc => ?_⟩
    · replace h := h.1 cc
      refine v_iinc (q := 102) (ls' := [some (.inr k), some (.inl x1), some (.inl x2), some (.inl x3), some (.inl (x4 + 1)), some (.inl (cLet v x1 x4)), some (.inl (cLet v x2 x4))]) DM_X8_isBefore_99 rfl rfl (by decide) rfl ?_
      refine r_goto (q := 35) DM_X8_isBefore_102 (by decide) ?_
      exact Gg.weak [true, true, true, true, true, false, false] h
    · replace h := h.2 cc
      refine r_iload (q := 68) DM_X8_isBefore_66 rfl rfl ?_
      refine r_iflt (q := 71) (t := 93) DM_X8_isBefore_68 rfl (by decide) ⟨i8, fun cc => ?_, fun cc => ?_⟩
      · replace h := h.1 cc
        refine r_iconst (q := 94) (n := 1) DM_X8_isBefore_93 rfl ?_
        refine r_goto (q := 98) DM_X8_isBefore_94 (by decide) ?_
        exact r_ret (v := some (.inl 1)) ⟨DM_X8_isBefore_98, Or.inr ⟨rfl, Or.inr rfl⟩⟩ h
      · replace h := h.2 cc
        refine r_iload (q := 73) DM_X8_isBefore_71 rfl rfl ?_
        refine r_iflt (q := 76) (t := 97) DM_X8_isBefore_73 rfl (by decide) ⟨i9, fun cc => ?_, fun cc => ?_⟩
        · replace h := h.1 cc
          refine r_iconst (q := 98) (n := 0) DM_X8_isBefore_97 rfl ?_
          exact r_ret (v := some (.inl 0)) ⟨DM_X8_isBefore_98, Or.inr ⟨rfl, Or.inl rfl⟩⟩ h
        · replace h := h.2 cc
          refine r_aloadn (q := 77) DM_X8_isBefore_76 rfl rfl ?_
          refine r_iload (q := 79) DM_X8_isBefore_77 rfl rfl ?_
          refine r_iloadn (q := 80) DM_X8_isBefore_79 rfl rfl ?_
          have i10 := h.1
          replace h := h.2
          have i11 := h.1
          replace h := h.2
          have i12 := h.1
          replace h := h.2
          refine r_callSi [.inr k, .inl (cLet v x1 x4), .inl x3] (q := 83) DM_X8_isBefore_80 rfl kM_X8_rank lRX8_169 rfl (by decide) (Nat.le_of_ble_eq_true rfl) rfl (k_X8_rank hk i4 i10 i11 i12 ⟨_, rfl, ?_⟩)
          refine r_aloadn (q := 84) DM_X8_isBefore_83 rfl rfl ?_
          refine r_iload (q := 86) DM_X8_isBefore_84 rfl rfl ?_
          refine r_iloadn (q := 87) DM_X8_isBefore_86 rfl rfl ?_
          have i13 := h.1
          replace h := h.2
          refine r_callSi [.inr k, .inl (cLet v x2 x4), .inl x3] (q := 90) DM_X8_isBefore_87 rfl kM_X8_rank lRX8_169 rfl (by decide) (Nat.le_of_ble_eq_true rfl) rfl (k_X8_rank hk i4 i10 i13 i12 ⟨_, rfl, ?_⟩)
          have i14 := h.1
          replace h := h.2
          have i15 := h.1
          replace h := h.2
          refine r_icge (q := 93) (t := 97) DM_X8_isBefore_90 rfl (by decide) ⟨⟨i14, i15⟩, fun cc => ?_, fun cc => ?_⟩
          · replace h := h.1 cc
            refine r_iconst (q := 98) (n := 0) DM_X8_isBefore_97 rfl ?_
            exact r_ret (v := some (.inl 0)) ⟨DM_X8_isBefore_98, Or.inr ⟨rfl, Or.inl rfl⟩⟩ h
          · replace h := h.2 cc
            refine r_iconst (q := 94) (n := 1) DM_X8_isBefore_93 rfl ?_
            refine r_goto (q := 98) DM_X8_isBefore_94 (by decide) ?_
            exact r_ret (v := some (.inl 1)) ⟨DM_X8_isBefore_98, Or.inr ⟨rfl, Or.inr rfl⟩⟩ h
