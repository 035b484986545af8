/-! The reference: who comes before whom, who is lost, who is next. -/
section C32
variable {E : Ex} {μ : Mem} {Q : Option Vl → Mem → Prop} {k : Nat} {v : CV} {a b x p l n i s d t : Int}
theorem k_X8_has (ha : 0 ≤ a ∧ a < 256) (hl : 0 ≤ l ∧ l < 8) (h : Q (some (.inl (bi (a.toNat.testBit l.toNat)))) μ) : Cl E 0 M_X8_has [.inl a, .inl l] μ Q := by
  have hb := bit_ask a.toNat (by omega) l.toNat (by omega)
  rw [Int.toNat_of_nonneg ha.1, Int.toNat_of_nonneg hl.1] at hb
  refine s_X8_has ?_
  rw [hb]
  refine ⟨bi_inR _, fun z => ?_, fun z => ?_⟩
  · cases hq : a.toNat.testBit l.toNat
    · rwa [hq] at h
    · rw [hq] at z; exact absurd rfl z
  · cases hq : a.toNat.testBit l.toNat
    · rw [hq] at z; exact absurd z (by decide)
    · rwa [hq] at h
theorem cPlace_inj {v : CV} {x y t : Int} (ho : oOK v) (hx : 0 ≤ x ∧ x ≤ 7) (hy : 0 ≤ y ∧ y ≤ 7) (h : cPlace v x t = cPlace v y t) : x = y := by
  have h1 := (ho x hx.1 (by omega)).2
  have h2 := (ho y hy.1 (by omega)).2
  unfold cPlace at h
  have h3 : v 2 x = v 2 y := by omega
  rw [← h1.2, ← h2.2, h3]
theorem k_X8_isBefore (hk : shp k = (0, 91, [])) (hR : Rel v (μ k)) (ha : 0 ≤ a ∧ a < v 0 1) (hb : 0 ≤ b ∧ b < v 0 1) (ht : 0 ≤ t ∧ t < 1000) (h : Q (some (.inl (bi (cBef v a b (cTurn v (v 0 4) t))))) μ) : Cl E 2 M_X8_isBefore [.inr k, .inl a, .inl b, .inl t] μ Q := by
  have hn := hR.n
  have pa := hR.ok ha.1 ha.2
  have pb := hR.ok hb.1 hb.2
  have ho := hR.ord (by omega)
  have la := pa.2.1
  have lb := pb.2.1
  have ga := gGrp_rng (v 3 a)
  have gb := gGrp_rng (v 3 b)
  unfold cBef at h
  refine s_X8_isBefore hk ⟨hR, ha, hb, by omega, by omega, fun z => ?_, fun z => ⟨fun z2 => ?_, fun z2 => ?_⟩⟩
  · rw [if_pos z] at h
    obtain ⟨T, eT⟩ : ∃ T, T = cTurn v (v 0 4) t := ⟨_, rfl⟩
    rw [← eT] at h
    obtain ⟨m, em, m0, m1, m2, m3⟩ : ∃ m : Int, m = (if v 4 b < v 4 a then v 4 b else v 4 a) ∧ 0 ≤ m ∧ m ≤ v 4 a ∧ m ≤ v 4 b ∧ (m = v 4 a ∨ m = v 4 b) := ⟨_, rfl, by split <;> omega, by split <;> omega, by split <;> omega, by split <;> omega⟩
    unfold cCmp at h
    rw [← em] at h
    -- both have ended
    have ended : ∀ j, 0 ≤ j → j ≤ 4 → v 4 a ≤ j → v 4 b ≤ j → Q (some (.inl (bi (decide (a < b))))) μ → Gg E 2 M_X8_isBefore 35 [some (.inr k), some (.inl a), some (.inl b), some (.inl t), some (.inl j), none, none] [] μ Q := by
      intro j0 hj0 hj4 ja jb hq
      refine up_ind (N := 4) (P := fun j => Gg E 2 M_X8_isBefore 35 [some (.inr k), some (.inl a), some (.inl b), some (.inl t), some (.inl j), none, none] [] μ Q) j0 hj4 ?_ (fun j h1 h2 ih => ?_)
      · refine s_X8_isBefore_35 (v := v) hk ⟨by decide, fun _ => ⟨by omega, by omega, fun z => ?_, fun z => ?_⟩, fun z => absurd (Int.le_refl _) z⟩
        · rwa [decide_eq_false (by omega)] at hq
        · rwa [decide_eq_true (by omega)] at hq
      · have ea : cLet v a j = -1 := if_neg (by omega)
        have eb : cLet v b j = -1 := if_neg (by omega)
        refine s_X8_isBefore_35 (v := v) hk ⟨by omega, fun z => absurd z (by omega), fun _ => ⟨hR, ha, by omega, hb, ?_⟩⟩
        rw [ea, eb]
        exact ⟨by decide, by decide, fun _ => ih, fun z => absurd rfl z⟩
    have loop : ∀ (n : Nat) (j : Int), 0 ≤ j → j + n = m → Q (some (.inl (bi (if cCmpF v a b T n j = 0 then decide (a < b) else decide (cCmpF v a b T n j < 0))))) μ → Gg E 2 M_X8_isBefore 35 [some (.inr k), some (.inl a), some (.inl b), some (.inl t), some (.inl j), none, none] [] μ Q := by
      intro n
      induction n with
      | zero =>
        intro j j0 jm hq
        unfold cCmpF at hq
        by_cases hab : v 4 a = v 4 b
        · rw [if_pos (by omega)] at hq
          exact ended j j0 (by omega) (by omega) (by omega) hq
        · rw [if_neg (by omega)] at hq
          have ra := cLet_rng (i := j) pa j0
          have rb := cLet_rng (i := j) pb j0
          refine s_X8_isBefore_35 (v := v) hk ⟨by omega, fun z => absurd z (by omega), fun _ => ⟨hR, ha, by omega, hb, by omega, by omega, fun z => ?_, fun z => ⟨fun z2 => ?_, fun z2 => ⟨fun z3 => ?_, fun z3 => ?_⟩⟩⟩⟩
          · exfalso
            unfold cLet at z
            rcases Int.lt_or_le (v 4 a) (v 4 b) with q | q
            · rw [if_neg (by omega), if_pos (by omega)] at z
              have := cRead_rng pb j0 (show j < v 4 b by omega)
              omega
            · rw [if_pos (by omega), if_neg (by omega)] at z
              have := cRead_rng pa j0 (show j < v 4 a by omega)
              omega
          · rwa [decide_eq_true] at hq
            unfold cLet at z2
            split at z2
            · next q => have := cRead_rng pa j0 q; omega
            · omega
          · rwa [decide_eq_false] at hq
            unfold cLet at z3
            split at z3
            · next q => have := cRead_rng pb j0 q; omega
            · omega
          · exfalso
            unfold cLet at z2 z3
            split at z2
            · split at z3
              · omega
              · omega
            · omega
      | succ n ih =>
        intro j j0 jm hq
        have qa := cRead_rng pa j0 (show j < v 4 a by omega)
        have qb := cRead_rng pb j0 (show j < v 4 b by omega)
        have ea : cLet v a j = cRead v a j := if_pos (by omega)
        have eb : cLet v b j = cRead v b j := if_pos (by omega)
        have r1 := cPlace_rng (v := v) (l := cRead v a j) (t := T)
        have r2 := cPlace_rng (v := v) (l := cRead v b j) (t := T)
        unfold cCmpF at hq
        refine s_X8_isBefore_35 (v := v) hk ⟨by omega, fun z => absurd z (by omega), fun _ => ⟨hR, ha, by omega, hb, ?_⟩⟩
        rw [ea, eb, ← eT]
        refine ⟨by omega, by omega, fun z => ?_, fun z => ⟨fun z2 => absurd z2 (by omega), fun _ => ⟨fun z2 => absurd z2 (by omega), fun _ => ⟨by omega, by omega, ht, by omega, by omega, by omega, fun z2 => ?_, fun z2 => ?_⟩⟩⟩⟩
        · rw [if_pos z] at hq
          exact ih (j + 1) (by omega) (by omega) hq
        · rw [if_neg z] at hq
          have ne : cPlace v (cRead v a j) T ≠ cPlace v (cRead v b j) T := fun q => z (cPlace_inj ho qa qb q)
          rwa [if_neg (by omega), decide_eq_false (by omega)] at hq
        · rw [if_neg z] at hq
          rwa [if_neg (by omega), decide_eq_true (by omega)] at hq
    exact loop m.toNat 0 (Int.le_refl 0) (by omega) h
  · rwa [if_neg z, decide_eq_false (by omega)] at h
  · rwa [if_neg z, decide_eq_true (by omega)] at h
set_option maxRecDepth 20000 in
theorem s_X8_isLost {E : Ex} {μ : Mem} {Q : Option Vl → Mem → Prop} {x1 : Int} {v : CV} {k : Nat} (hk : shp k = (0, 91, [])) (h : Gg E 1 M_X8_isLost 4 [some (.inr k), some (.inl x1), some (.inl 0), some (.inl 0)] [] μ Q) : Cl E 1 M_X8_isLost [.inr k, .inl x1] μ Q := by
  show Gg E 1 M_X8_isLost 0 [some (.inr k), some (.inl x1), none, none] [] μ Q
  refine r_iconst (q := 1) (n := 0) DM_X8_isLost_0 rfl ?_
  refine v_istoren (q := 2) (ls' := [some (.inr k), some (.inl x1), some (.inl 0), none]) DM_X8_isLost_1 rfl (by decide) rfl ?_
  refine r_iconst (q := 3) (n := 0) DM_X8_isLost_2 rfl ?_
  refine v_istoren (q := 4) (ls' := [some (.inr k), some (.inl x1), some (.inl 0), some (.inl 0)]) DM_X8_isLost_3 rfl (by decide) rfl ?_
  exact h
set_option maxRecDepth 20000 in
theorem s_X8_isLost_4 {E : Ex} {μ : Mem} {Q : Option Vl → Mem → Prop} {x1 x2 x3 : Int} {v : CV} {k : Nat} (hk : shp k = (0, 91, [])) (h : (0 ≤ 13 + 13 * x1 + 3 ∧ 13 + 13 * x1 + 3 < 91) ∧ inR x3 ∧ inR (μ k (13 + 13 * x1 + 3)) ∧ (x3 ≥ (μ k (13 + 13 * x1 + 3)) → (x2 = 0 ∨ x2 = 1) ∧ Q (some (.inl x2)) μ) ∧ (¬ x3 ≥ (μ k (13 + 13 * x1 + 3)) → inR x2 ∧ (x2 ≠ 0 → Gg E 1 M_X8_isLost 4 [some (.inr k), some (.inl x1), some (.inl 1), some (.inl (x3 + 1))] [] μ Q) ∧ (x2 = 0 → (0 ≤ 13 + 13 * x1 + (4 + x3) ∧ 13 + 13 * x1 + (4 + x3) < 91) ∧ (0 ≤ (μ k 4) ∧ (μ k 4) < 256) ∧ (0 ≤ (μ k (13 + 13 * x1 + (4 + x3))) ∧ (μ k (13 + 13 * x1 + (4 + x3))) < 8) ∧ (((μ k 4).toNat.testBit (μ k (13 + 13 * x1 + (4 + x3))).toNat) = false → Gg E 1 M_X8_isLost 4 [some (.inr k), some (.inl x1), some (.inl 0), some (.inl (x3 + 1))] [] μ Q) ∧ (((μ k 4).toNat.testBit (μ k (13 + 13 * x1 + (4 + x3))).toNat) = true → Gg E 1 M_X8_isLost 4 [some (.inr k), some (.inl x1), some (.inl 1), some (.inl (x3 + 1))] [] μ Q)))) : Gg E 1 M_X8_isLost 4 [some (.inr k), some (.inl x1), some (.inl x2), some (.inl x3)] [] μ Q := by
  refine r_iloadn (q := 5) DM_X8_isLost_4 rfl rfl ?_
  refine r_aloadn (q := 6) DM_X8_isLost_5 rfl rfl ?_
  refine r_iloadn (q := 7) DM_X8_isLost_6 rfl rfl ?_
  refine r_iconst (q := 8) (n := 3) DM_X8_isLost_7 rfl ?_
  have i1 := h.1
  replace h := h.2
  refine r_callSi [.inr k, .inl x1, .inl 3] (q := 11) DM_X8_isLost_8 rfl kM_X8_of lRX8_158 rfl (by decide) (Nat.le_of_ble_eq_true rfl) rfl (k_X8_of hk i1 ⟨_, rfl, ?_⟩)
  have i2 := h.1
  replace h := h.2
  have i3 := h.1
  replace h := h.2
  refine r_icge (q := 14) (t := 47) DM_X8_isLost_11 rfl (by decide) ⟨⟨i2, i3⟩, fun cc => ?_, fun cc => ?_⟩
  · replace h := h.1 cc
    refine r_iloadn (q := 48) DM_X8_isLost_47 rfl rfl ?_
    exact r_ret (v := some (.inl x2)) ⟨DM_X8_isLost_48, Or.inr ⟨rfl, h.1⟩⟩ h.2
  · replace h := h.2 cc
    refine r_iloadn (q := 15) DM_X8_isLost_14 rfl rfl ?_
    have i4 := h.1
    replace h := h.2
    refine r_ifne (q := 18) (t := 35) DM_X8_isLost_15 rfl (by decide) ⟨i4, fun cc => ?_, fun cc => ?_⟩
    · replace h := h.1 cc
      refine r_iconst (q := 36) (n := 1) DM_X8_isLost_35 rfl ?_
      refine r_goto (q := 40) DM_X8_isLost_36 (by decide) ?_
      refine v_istoren (q := 41) (ls' := [some (.inr k), some (.inl x1), some (.inl 1), some (.inl x3)]) DM_X8_isLost_40 rfl (by decide) rfl ?_
      refine v_iinc (q := 44) (ls' := [some (.inr k), some (.inl x1), some (.inl 1), some (.inl (x3 + 1))]) DM_X8_isLost_41 rfl rfl (by decide) rfl ?_
      refine r_goto (q := 4) DM_X8_isLost_44 (by decide) ?_
      exact h
    · replace h := h.2 cc
      refine r_aloadn (q := 19) DM_X8_isLost_18 rfl rfl ?_
      refine r_iconst (q := 20) (n := 4) DM_X8_isLost_19 rfl ?_
      refine r_iald (q := 21) DM_X8_isLost_20 rfl hk (by decide) ⟨by decide, ?_⟩
      refine r_aloadn (q := 22) DM_X8_isLost_21 rfl rfl ?_
      refine r_iloadn (q := 23) DM_X8_isLost_22 rfl rfl ?_
      refine r_iconst (q := 24) (n := 4) DM_X8_isLost_23 rfl ?_
      refine r_iloadn (q := 25) DM_X8_isLost_24 rfl rfl ?_
      refine r_iadd (q := 26) DM_X8_isLost_25 rfl ?_
      have i5 := h.1
      replace h := h.2
      refine r_callSi [.inr k, .inl x1, .inl (4 + x3)] (q := 29) DM_X8_isLost_26 rfl kM_X8_of lRX8_158 rfl (by decide) (Nat.le_of_ble_eq_true rfl) rfl (k_X8_of hk i5 ⟨_, rfl, ?_⟩)
      have i6 := h.1
      replace h := h.2
      have i7 := h.1
      replace h := h.2
      refine r_callSi [.inl (μ k 4), .inl (μ k (13 + 13 * x1 + (4 + x3)))] (q := 32) DM_X8_isLost_29 rfl kM_X8_has lRX8_130 rfl (by decide) (Nat.le_of_ble_eq_true rfl) rfl (k_X8_has i6 i7 ⟨_, rfl, ?_⟩)
      refine r_bbeq (q := 35) (t := 39) DM_X8_isLost_32 rfl (by decide) ⟨fun cc => ?_, fun cc => ?_⟩
      · replace h := h.1 cc
        refine r_iconst (q := 40) (n := 0) DM_X8_isLost_39 rfl ?_
        refine v_istoren (q := 41) (ls' := [some (.inr k), some (.inl x1), some (.inl 0), some (.inl x3)]) DM_X8_isLost_40 rfl (by decide) rfl ?_
        refine v_iinc (q := 44) (ls' := [some (.inr k), some (.inl x1), some (.inl 0), some (.inl (x3 + 1))]) DM_X8_isLost_41 rfl rfl (by decide) rfl ?_
        refine r_goto (q := 4) DM_X8_isLost_44 (by decide) ?_
        exact h
      · replace h := h.2 cc
        refine r_iconst (q := 36) (n := 1) DM_X8_isLost_35 rfl ?_
        refine r_goto (q := 40) DM_X8_isLost_36 (by decide) ?_
        refine v_istoren (q := 41) (ls' := [some (.inr k), some (.inl x1), some (.inl 1), some (.inl x3)]) DM_X8_isLost_40 rfl (by decide) rfl ?_
        refine v_iinc (q := 44) (ls' := [some (.inr k), some (.inl x1), some (.inl 1), some (.inl (x3 + 1))]) DM_X8_isLost_41 rfl rfl (by decide) rfl ?_
        refine r_goto (q := 4) DM_X8_isLost_44 (by decide) ?_
        exact h
theorem two_and {l s : Nat} : (2 ^ l &&& s = 0) ↔ s.testBit l = false := by
  constructor
  · intro h
    have h1 := congrArg (fun z => Nat.testBit z l) h
    simpa [Nat.testBit_and, Nat.testBit_two_pow_self] using h1
  · intro h
    refine Nat.eq_of_testBit_eq fun i => ?_
    rw [Nat.testBit_and, Nat.testBit_two_pow, Nat.zero_testBit]
    by_cases hi : l = i
    · subst hi; rw [h]; simp
    · simp [hi]
theorem bits_lost {v : CV} {p : Int} {s : Nat} : ∀ i, 0 ≤ i → ((foldI (fun i a => a ||| 2 ^ (v 5 (p * 4 + i)).toNat) 0 i &&& s = 0) ↔ foldI (fun i (c : Bool) => c || s.testBit (v 5 (p * 4 + i)).toNat) false i = false) := by
  have key : ∀ n : Nat, ((foldN (fun i a => a ||| 2 ^ (v 5 (p * 4 + i)).toNat) 0 n &&& s = 0) ↔ foldN (fun i (c : Bool) => c || s.testBit (v 5 (p * 4 + i)).toNat) false n = false) := by
    intro n
    induction n with
    | zero => simp [foldN]
    | succ n ih =>
      rw [foldN, foldN, Nat.and_or_distrib_right, Nat.or_eq_zero_iff, ih, two_and, Bool.or_eq_false_iff]
  intro i _
  exact key i.toNat
def cLost (v : CV) (p : Int) : Bool := decide (¬ cBits v p &&& (v 0 5).toNat = 0)
theorem k_X8_isLost (hk : shp k = (0, 91, [])) (hR : Rel v (μ k)) (hp : 0 ≤ p ∧ p < v 0 1) (h : Q (some (.inl (bi (cLost v p)))) μ) : Cl E 1 M_X8_isLost [.inr k, .inl p] μ Q := by
  have hn := hR.n
  have pa := hR.ok hp.1 hp.2
  have la := pa.2.1
  obtain ⟨-, -, -, e3, e4, -⟩ := hR.p hp.1 hp.2
  have a4 : μ k 4 = v 0 5 := hR.1.2.2.2.2.1
  have v5 := hR.2.1.2.2.2.2.1
  let g : Int → Bool → Bool := fun i c => c || (v 0 5).toNat.testBit (v 5 (p * 4 + i)).toNat
  have e : cLost v p = foldI g false (v 4 p) := by
    unfold cLost cBits
    have := bits_lost (v := v) (p := p) (s := (v 0 5).toNat) (v 4 p) (by omega)
    cases hq : foldI g false (v 4 p)
    · rw [decide_eq_false]; intro z; exact z (this.mpr hq)
    · rw [decide_eq_true]; intro z; have := this.mp z; rw [show foldI (fun i (c : Bool) => c || (v 0 5).toNat.testBit (v 5 (p * 4 + i)).toNat) false (v 4 p) = foldI g false (v 4 p) from rfl, hq] at this; cases this
  rw [e] at h
  refine s_X8_isLost (v := v) hk ?_
  refine up_ind (N := v 4 p) (P := fun i => Gg E 1 M_X8_isLost 4 [some (.inr k), some (.inl p), some (.inl (bi (foldI g false i))), some (.inl i)] [] μ Q) 0 (by omega) ?_ (fun i h1 h2 ih => ?_)
  · exact s_X8_isLost_4 (v := v) hk ⟨by omega, by omega, by omega, fun _ => ⟨bi_01 _, h⟩, fun z => absurd (show v 4 p ≥ μ k (13 + 13 * p + 3) by omega) z⟩
  · have r := pa.2.2.2.2 i h1 h2
    rw [foldI_succ h1] at ih
    refine s_X8_isLost_4 (v := v) hk ⟨by omega, by omega, by omega, fun z => absurd z (by omega), fun _ => ⟨bi_inR _, fun z => ?_, fun z => ⟨by omega, ?_⟩⟩⟩
    · rw [show g i (foldI g false i) = true by simp only [g]; rw [bi_ne0.mp z, Bool.true_or]] at ih
      exact ih
    · rw [a4, e4 i h1 h2]
      refine ⟨by omega, by omega, fun z2 => ?_, fun z2 => ?_⟩
      · rw [show g i (foldI g false i) = false by simp only [g]; rw [bi_eq0.mp z, Bool.false_or, z2]] at ih
        exact ih
      · rw [show g i (foldI g false i) = true by simp only [g]; rw [z2, Bool.or_true]] at ih
        exact ih
set_option maxRecDepth 20000 in
theorem s_X8_nextBy {E : Ex} {μ : Mem} {Q : Option Vl → Mem → Prop} {x1 : Int} {v : CV} {k : Nat} (hk : shp k = (0, 91, [])) (h : Gg E 3 M_X8_nextBy 5 [some (.inr k), some (.inl x1), some (.inl (-1000000)), some (.inl 0)] [] μ Q) : Cl E 3 M_X8_nextBy [.inr k, .inl x1] μ Q := by
  show Gg E 3 M_X8_nextBy 0 [some (.inr k), some (.inl x1), none, none] [] μ Q
  refine r_ldc (q := 2) (n := (-1000000)) DM_X8_nextBy_0 rfl nRX8_59 ?_
  refine v_istoren (q := 3) (ls' := [some (.inr k), some (.inl x1), some (.inl (-1000000)), none]) DM_X8_nextBy_2 rfl (by decide) rfl ?_
  refine r_iconst (q := 4) (n := 0) DM_X8_nextBy_3 rfl ?_
  refine v_istoren (q := 5) (ls' := [some (.inr k), some (.inl x1), some (.inl (-1000000)), some (.inl 0)]) DM_X8_nextBy_4 rfl (by decide) rfl ?_
  exact h
set_option maxRecDepth 20000 in
theorem s_X8_nextBy_5 {E : Ex} {μ : Mem} {Q : Option Vl → Mem → Prop} {x1 x2 x3 : Int} {v : CV} {k : Nat} (hk : shp k = (0, 91, [])) (h : inR x3 ∧ inR (μ k 2) ∧ (x3 ≥ (μ k 2) → Q (some (.inl x2)) μ) ∧ (¬ x3 ≥ (μ k 2) → (Rel v (μ k)) ∧ (0 ≤ x3 ∧ x3 < v 0 1) ∧ ((cWait v x3 (v 0 4)) = false → Gg E 3 M_X8_nextBy 5 [some (.inr k), some (.inl x1), some (.inl x2), some (.inl (x3 + 1))] [] μ Q) ∧ ((cWait v x3 (v 0 4)) = true → ((cLost v x3) = true → Gg E 3 M_X8_nextBy 5 [some (.inr k), some (.inl x1), some (.inl x2), some (.inl (x3 + 1))] [] μ Q) ∧ ((cLost v x3) = false → inR x2 ∧ (x2 = (-1000000) → Gg E 3 M_X8_nextBy 5 [some (.inr k), some (.inl x1), some (.inl x3), some (.inl (x3 + 1))] [] μ Q) ∧ (¬ x2 = (-1000000) → (0 ≤ x2 ∧ x2 < v 0 1) ∧ ((0 : Int) ≤ x1 ∧ (x1 : Int) < 1000) ∧ ((cBef v x3 x2 (cTurn v (v 0 4) x1)) = false → Gg E 3 M_X8_nextBy 5 [some (.inr k), some (.inl x1), some (.inl x2), some (.inl (x3 + 1))] [] μ Q) ∧ ((cBef v x3 x2 (cTurn v (v 0 4) x1)) = true → Gg E 3 M_X8_nextBy 5 [some (.inr k), some (.inl x1), some (.inl x3), some (.inl (x3 + 1))] [] μ Q)))))) : Gg E 3 M_X8_nextBy 5 [some (.inr k), some (.inl x1), some (.inl x2), some (.inl x3)] [] μ Q := by
  refine r_iloadn (q := 6) DM_X8_nextBy_5 rfl rfl ?_
  refine r_aloadn (q := 7) DM_X8_nextBy_6 rfl rfl ?_
  refine r_iconst (q := 8) (n := 2) DM_X8_nextBy_7 rfl ?_
  refine r_iald (q := 9) DM_X8_nextBy_8 rfl hk (by decide) ⟨by decide, ?_⟩
  have i1 := h.1
  replace h := h.2
  have i2 := h.1
  replace h := h.2
  refine r_icge (q := 12) (t := 52) DM_X8_nextBy_9 rfl (by decide) ⟨⟨i1, i2⟩, fun cc => ?_, fun cc => ?_⟩
  · replace h := h.1 cc
    refine r_iloadn (q := 53) DM_X8_nextBy_52 rfl rfl ?_
    exact r_ret (v := some (.inl x2)) ⟨DM_X8_nextBy_53, Or.inl rfl⟩ h
  · replace h := h.2 cc
    refine r_aloadn (q := 13) DM_X8_nextBy_12 rfl rfl ?_
    refine r_iloadn (q := 14) DM_X8_nextBy_13 rfl rfl ?_
    have i3 := h.1
    replace h := h.2
    have i4 := h.1
    replace h := h.2
    refine r_callSi [.inr k, .inl x3] (q := 17) DM_X8_nextBy_14 rfl kM_X8_waits lRX8_172 rfl (by decide) (Nat.le_of_ble_eq_true rfl) rfl (k_X8_waits hk i3 i4 ⟨_, rfl, ?_⟩)
    refine r_bbeq (q := 20) (t := 46) DM_X8_nextBy_17 rfl (by decide) ⟨fun cc => ?_, fun cc => ?_⟩
    · replace h := h.1 cc
      refine v_iinc (q := 49) (ls' := [some (.inr k), some (.inl x1), some (.inl x2), some (.inl (x3 + 1))]) DM_X8_nextBy_46 rfl rfl (by decide) rfl ?_
      refine r_goto (q := 5) DM_X8_nextBy_49 (by decide) ?_
      exact h
    · replace h := h.2 cc
      refine r_aloadn (q := 21) DM_X8_nextBy_20 rfl rfl ?_
      refine r_iloadn (q := 22) DM_X8_nextBy_21 rfl rfl ?_
      refine r_callSi [.inr k, .inl x3] (q := 25) DM_X8_nextBy_22 rfl kM_X8_isLost lRX8_176 rfl (by decide) (Nat.le_of_ble_eq_true rfl) rfl (k_X8_isLost hk i3 i4 ⟨_, rfl, ?_⟩)
      refine r_bbne (q := 28) (t := 46) DM_X8_nextBy_25 rfl (by decide) ⟨fun cc => ?_, fun cc => ?_⟩
      · replace h := h.1 cc
        refine v_iinc (q := 49) (ls' := [some (.inr k), some (.inl x1), some (.inl x2), some (.inl (x3 + 1))]) DM_X8_nextBy_46 rfl rfl (by decide) rfl ?_
        refine r_goto (q := 5) DM_X8_nextBy_49 (by decide) ?_
        exact h
      · replace h := h.2 cc
        refine r_iloadn (q := 29) DM_X8_nextBy_28 rfl rfl ?_
        refine r_ldc (q := 31) (n := (-1000000)) DM_X8_nextBy_29 rfl nRX8_59 ?_
        have i5 := h.1
        replace h := h.2
        refine r_iceq (q := 34) (t := 44) DM_X8_nextBy_31 rfl (by decide) ⟨⟨i5, (by decide)⟩, fun cc => ?_, fun cc => ?_⟩
        · replace h := h.1 cc
          refine r_iloadn (q := 45) DM_X8_nextBy_44 rfl rfl ?_
          refine v_istoren (q := 46) (ls' := [some (.inr k), some (.inl x1), some (.inl x3), some (.inl x3)]) DM_X8_nextBy_45 rfl (by decide) rfl ?_
          refine v_iinc (q := 49) (ls' := [some (.inr k), some (.inl x1), some (.inl x3), some (.inl (x3 + 1))]) DM_X8_nextBy_46 rfl rfl (by decide) rfl ?_
          refine r_goto (q := 5) DM_X8_nextBy_49 (by decide) ?_
          exact h
        · replace h := h.2 cc
          refine r_aloadn (q := 35) DM_X8_nextBy_34 rfl rfl ?_
          refine r_iloadn (q := 36) DM_X8_nextBy_35 rfl rfl ?_
          refine r_iloadn (q := 37) DM_X8_nextBy_36 rfl rfl ?_
          refine r_iloadn (q := 38) DM_X8_nextBy_37 rfl rfl ?_
          have i6 := h.1
          replace h := h.2
          have i7 := h.1
          replace h := h.2
          refine r_callSi [.inr k, .inl x3, .inl x2, .inl x1] (q := 41) DM_X8_nextBy_38 rfl kM_X8_isBefore lRX8_179 rfl (by decide) (Nat.le_of_ble_eq_true rfl) rfl (k_X8_isBefore hk i3 i4 i6 i7 ⟨_, rfl, ?_⟩)
          refine r_bbeq (q := 44) (t := 46) DM_X8_nextBy_41 rfl (by decide) ⟨fun cc => ?_, fun cc => ?_⟩
          · replace h := h.1 cc
            refine v_iinc (q := 49) (ls' := [some (.inr k), some (.inl x1), some (.inl x2), some (.inl (x3 + 1))]) DM_X8_nextBy_46 rfl rfl (by decide) rfl ?_
            refine r_goto (q := 5) DM_X8_nextBy_49 (by decide) ?_
            exact h
          · replace h := h.2 cc
            refine r_iloadn (q := 45) DM_X8_nextBy_44 rfl rfl ?_
            refine v_istoren (q := 46) (ls' := [some (.inr k), some (.inl x1), some (.inl x3), some (.inl x3)]) DM_X8_nextBy_45 rfl (by decide) rfl ?_
            refine v_iinc (q := 49) (ls' := [some (.inr k), some (.inl x1), some (.inl x3), some (.inl (x3 + 1))]) DM_X8_nextBy_46 rfl rfl (by decide) rfl ?_
            refine r_goto (q := 5) DM_X8_nextBy_49 (by decide) ?_
            exact h
def nN (a : Int) : Int := if a = -1 then -1000000 else a
theorem cCan_lost {v : CV} {p d : Int} : cCan v p d = (cWait v p d && !cLost v p) := by
  unfold cCan cLost
  congr 1
  by_cases h : cBits v p &&& (v 0 5).toNat = 0
  · rw [decide_eq_true h, decide_eq_false (fun z => z h)]; rfl
  · rw [decide_eq_false h, decide_eq_true h]; rfl
theorem k_X8_nextBy (hk : shp k = (0, 91, [])) (hR : Rel v (μ k)) (hb : 0 ≤ b ∧ b < 1000) (h : Q (some (.inl (nN (cFirst v (v 0 4) b)))) μ) : Cl E 3 M_X8_nextBy [.inr k, .inl b] μ Q := by
  have hn := hR.n
  have e2 := hR.a2
  let g : Int → Int → Int := fun p a => if cCan v p (v 0 4) = true ∧ (a = -1 ∨ cBef v p a (cTurn v (v 0 4) b) = true) then p else a
  refine s_X8_nextBy (v := v) hk ?_
  refine up_ind (N := v 0 1) (P := fun p => Gg E 3 M_X8_nextBy 5 [some (.inr k), some (.inl b), some (.inl (nN (foldI g (-1) p))), some (.inl p)] [] μ Q) 0 hn.1 ?_ (fun p h1 h2 ih => ?_)
  · exact s_X8_nextBy_5 (v := v) hk ⟨by omega, by omega, fun _ => h, fun z => absurd (show v 0 1 ≥ μ k 2 by omega) z⟩
  · have hr : foldI g (-1) p = -1 ∨ (0 ≤ foldI g (-1) p ∧ foldI g (-1) p < p) := cFirst_rng (v := v) (d := v 0 4) (b := b) p h1
    rw [foldI_succ h1] at ih
    have hnn : nN (foldI g (-1) p) = -1000000 ↔ foldI g (-1) p = -1 := by unfold nN; split <;> omega
    have hin : inR (nN (foldI g (-1) p)) := by unfold nN; split <;> omega
    refine s_X8_nextBy_5 (v := v) hk ⟨by omega, by omega, fun z => absurd z (by omega), fun _ => ⟨hR, by omega, fun z => ?_, fun z => ⟨fun z2 => ?_, fun z2 => ⟨hin, fun z3 => ?_, fun z3 => ?_⟩⟩⟩⟩
    · rwa [show g p (foldI g (-1) p) = foldI g (-1) p from if_neg (fun q => by have := q.1; rw [cCan_lost, z] at this; exact absurd this (by simp))] at ih
    · rwa [show g p (foldI g (-1) p) = foldI g (-1) p from if_neg (fun q => by have := q.1; rw [cCan_lost, z, z2] at this; exact absurd this (by decide))] at ih
    · rw [show g p (foldI g (-1) p) = p from if_pos ⟨by rw [cCan_lost, z, z2]; rfl, Or.inl (hnn.mp z3)⟩] at ih
      rwa [show nN p = p from if_neg (by omega)] at ih
    · have ne : foldI g (-1) p ≠ -1 := fun q => z3 (hnn.mpr q)
      rw [show nN (foldI g (-1) p) = foldI g (-1) p from if_neg ne]
      refine ⟨by omega, hb, fun z4 => ?_, fun z4 => ?_⟩
      · rw [show g p (foldI g (-1) p) = foldI g (-1) p from if_neg (fun q => by rcases q.2 with q | q; exact ne q; rw [z4] at q; exact absurd q (by decide))] at ih
        rwa [show nN (foldI g (-1) p) = foldI g (-1) p from if_neg ne] at ih
      · rw [show g p (foldI g (-1) p) = p from if_pos ⟨by rw [cCan_lost, z, z2]; rfl, Or.inr z4⟩] at ih
        rwa [show nN p = p from if_neg (by omega)] at ih
end C32
