/-! Pairs: copies of rows. -/
section P58
variable {E : Ex} {μ : Mem} {x1 x2 x3 x4 x5 : Int}
theorem cpm_in {ks kd : Nat} {sp dp n i : Int} (h : dp ≤ i ∧ i < dp + n) : cpm μ ks sp kd dp n kd i = μ ks (sp + (i - dp)) := by
  unfold cpm; rw [if_pos ⟨rfl, h⟩]
theorem cpm_out {ks kd : Nat} {sp dp n i : Int} (h : ¬ (dp ≤ i ∧ i < dp + n)) : cpm μ ks sp kd dp n kd i = μ kd i := by
  unfold cpm; rw [if_neg (fun q => h q.2)]
theorem pr_copy (hI : Inv μ) (i1 : inR x1) (i2 : inR x2) (i3 : inR x3) (i4 : inR x4) (i5 : inR x5) : Pair E 1 M_X7_copy 2 M_X8_copy [.inl x1, .inl x2, .inl x3, .inl x4, .inl x5] μ := by
  have bad : ¬ (0 ≤ x1 ∧ x1 < 8) ∨ ¬ (0 ≤ x3 ∧ x3 < 8) → ∃ r, (some (.inl (-1000001)) : Option Vl) = some (.inl r) ∧ inR r ∧ Cl E 2 M_X8_copy [.inr 83, .inl x1, .inl x2, .inl x3, .inl x4, .inl x5] μ (fun w μ2 => w = some (.inl r) ∧ Inv μ2) := fun hb =>
    ⟨_, rfl, by decide, s_X8_copy i1 i2 i3 i4 i5 ⟨fun _ => ⟨rfl, hI⟩, fun z => ⟨fun z2 => absurd hb (by omega), fun _ => ⟨rfl, hI⟩⟩⟩⟩
  refine s_X7_copy i1 i2 i3 i4 i5 ⟨fun z => bad (Or.inl z), fun z1 => ⟨fun z3 => ⟨z1, fun _ => ⟨z3, fun _ => ?_⟩⟩, fun z => bad (Or.inr z)⟩⟩
  have r1 := rw_rng z1.1 z1.2
  have r3 := rw_rng z3.1 z3.2
  have head : ∀ (μ' : Mem) {Q : Option Vl → Mem → Prop}, (inR (μ' 84 x1) ∧ ((μ' 84 x1 = -1000000) → ∀ μ3 : Mem, μ3 = up μ' 83 4 1 → Q (some (.inl (-1000010 - 1))) μ3) ∧ (¬ (μ' 84 x1 = -1000000) → inR (μ' 84 x3) ∧ (¬ (μ' 84 x3 = -1000000) → ((μ' 84 x1) = (μ' 84 x3) → Cl E 0 M_X8_isPart [.inr 83, .inl x1, .inl x2, .inl x5] μ' (fun vv μ6 => ∃ v7, vv = some (.inl (bi v7)) ∧ (v7 = false → ∀ μ8 : Mem, μ8 = up μ6 83 4 2 → Q (some (.inl (-1000010 - 2))) μ8) ∧ (v7 = true → Cl E 0 M_X8_isPart [.inr 83, .inl x3, .inl x4, .inl x5] μ6 (fun vv μ9 => ∃ v10, vv = some (.inl (bi v10)) ∧ (v10 = true → Gg E 2 M_X8_copy 92 [some (.inr 83), some (.inl x1), some (.inl x2), some (.inl x3), some (.inl x4), some (.inl x5), some (.inl 0)] [] μ9 Q) ∧ (v10 = false → ∀ μ11 : Mem, μ11 = up μ9 83 4 2 → Q (some (.inl (-1000010 - 2))) μ11))))) ∧ (¬ (μ' 84 x1) = (μ' 84 x3) → ∀ μ12 : Mem, μ12 = up μ' 83 4 5 → Q (some (.inl (-1000010 - 5))) μ12)) ∧ ((μ' 84 x3 = -1000000) → ∀ μ13 : Mem, μ13 = up μ' 83 4 1 → Q (some (.inl (-1000010 - 1))) μ13))) → Cl E 2 M_X8_copy [.inr 83, .inl x1, .inl x2, .inl x3, .inl x4, .inl x5] μ' Q :=
    fun μ' Q hq => s_X8_copy i1 i2 i3 i4 i5 ⟨fun q => absurd (by omega) q, fun _ => ⟨fun _ => ⟨z1, hq.1, hq.2.1, fun c => ⟨z3, (hq.2.2 c).1, (hq.2.2 c).2⟩⟩, fun q => absurd (by omega) q⟩⟩
  have st : ∀ (f : Int) (μ8 μ9 : Mem), (0 ≤ f ∧ f ≤ 5) → μ8 = up μ 0 10 f → μ9 = up μ8 83 4 f → Inv μ9 := fun f μ8 μ9 hf e8 e9 => by rw [e9, e8]; exact hI.st hf
  rcases hI.1 x1 z1.1 z1.2 with q | ⟨q1, q2, q3, q4, q5⟩
  · refine ⟨by omega, fun _ μ8 e8 => ⟨_, rfl, by decide, head μ8 ?_⟩, fun z => absurd q.1 z⟩
    rw [e8, up_ne (by decide)]
    exact ⟨by omega, fun _ μ9 e9 => ⟨rfl, st 1 _ μ9 (by decide) rfl e9⟩, fun z => absurd q.2 z⟩
  · refine ⟨by omega, fun z => absurd z (by omega), fun _ => ?_⟩
    rcases hI.1 x3 z3.1 z3.2 with p | ⟨p1, p2, p3, p4, p5⟩
    · refine ⟨by omega, fun z => absurd p.1 z, fun _ μ8 e8 => ⟨_, rfl, by decide, head μ8 ?_⟩⟩
      rw [e8, up_ne (by decide)]
      exact ⟨by omega, fun z => absurd z (by omega), fun _ => ⟨by omega, fun z => absurd p.2 z, fun _ μ9 e9 => ⟨rfl, st 1 _ μ9 (by decide) rfl e9⟩⟩⟩
    · refine ⟨by omega, fun _ => ⟨by omega, by omega, fun el => ⟨q1, fun c => ?_, fun c => ⟨p1, fun c3 => ⟨by omega, fun μa ea μb eb => ?_⟩, fun c3 => ?_⟩⟩, fun el μ8 e8 => ⟨_, rfl, by decide, head μ8 ?_⟩⟩, fun z => absurd z (by omega)⟩
      · intro μ8 e8
        have f84 : μ8 84 = μ 84 := by rw [e8, up_ne (by decide)]
        have f85 : μ8 85 = μ 85 := by rw [e8, up_ne (by decide)]
        refine ⟨_, rfl, by decide, head μ8 ?_⟩
        rw [f84]
        exact ⟨by omega, fun z => absurd z (by omega), fun _ => ⟨by omega, fun _ => ⟨fun _ => k_X8_isPart i2 i5 z1 (by rw [f85]; omega) ⟨_, rfl, fun _ μ9 e9 => ⟨rfl, st 2 _ μ9 (by decide) e8 e9⟩, fun z => absurd (of_decide_eq_true z) (by rw [f85]; omega)⟩, fun z => absurd (by omega) z⟩, fun z => absurd z (by omega)⟩⟩
      · -- the copy
        have o : ∀ k, k ≠ 0 → k ≠ rw x3 + 1 → μb k = μ k := fun k a b => by rw [eb, up_ne a, ea, cpm_ne b]
        have ib : ∀ j, x4 ≤ j → j < x4 + x5 → μb (rw x3 + 1) j = μ (rw x1 + 1) (x2 + (j - x4)) := fun j a b => by rw [eb, up_ne (by omega), ea, cpm_in ⟨a, b⟩]
        have ob : ∀ j, ¬ (x4 ≤ j ∧ j < x4 + x5) → μb (rw x3 + 1) j = μ (rw x3 + 1) j := fun j a => by rw [eb, up_ne (by omega), ea, cpm_out a]
        have s0 : ∀ i, i ≠ 10 → μb 0 i = μ 0 i := fun i hi => by rw [eb, up_off (Or.inr hi), ea, cpm_ne (by omega)]
        have s10 : μb 0 10 = 0 := by rw [eb, up_self]
        refine ⟨_, rfl, i5, head μb ?_⟩
        have f84 : μb 84 = μ 84 := o 84 (by decide) (by omega)
        have f85 : μb 85 = μ 85 := o 85 (by decide) (by omega)
        have f86 : μb 86 = μ 86 := o 86 (by decide) (by omega)
        rw [f84]
        refine ⟨by omega, fun z => absurd z (by omega), fun _ => ⟨by omega, fun _ => ⟨fun _ => k_X8_isPart i2 i5 z1 (by rw [f85]; omega) ⟨_, rfl, fun z => absurd (show 0 ≤ x5 ∧ 0 ≤ x2 ∧ x2 + x5 ≤ μb 85 x1 by rw [f85]; omega) (of_decide_eq_false z), fun _ => k_X8_isPart i4 i5 z3 (by rw [f85]; omega) ⟨_, rfl, fun _ => ?_, fun z => absurd (show 0 ≤ x5 ∧ 0 ≤ x4 ∧ x4 + x5 ≤ μb 85 x3 by rw [f85]; omega) (of_decide_eq_false z)⟩⟩, fun z => absurd (by omega) z⟩, fun z => absurd z (by omega)⟩⟩
        suffices hh : ∀ μ' : Mem, (∀ k, k ≠ 87 → μ' k = μb k) → (∀ j, 0 ≤ j → j < 0 → μ' 87 j = μ 86 (40 * x1 + x2 + j)) → Gg E 2 M_X8_copy 92 [some (.inr 83), some (.inl x1), some (.inl x2), some (.inl x3), some (.inl x4), some (.inl x5), some (.inl 0)] [] μ' (fun w μ2 => w = some (.inl x5) ∧ Inv μ2) from hh μb (fun _ _ => rfl) (fun j a b => by omega)
        refine up_ind (N := x5) (P := fun p => ∀ μ' : Mem, (∀ k, k ≠ 87 → μ' k = μb k) → (∀ j, 0 ≤ j → j < p → μ' 87 j = μ 86 (40 * x1 + x2 + j)) → Gg E 2 M_X8_copy 92 [some (.inr 83), some (.inl x1), some (.inl x2), some (.inl x3), some (.inl x4), some (.inl x5), some (.inl p)] [] μ' (fun w μ2 => w = some (.inl x5) ∧ Inv μ2)) 0 c.1 (fun μ' o1 o2 => ?_) (fun p p0 p1 ih μ' o1 o2 => ?_)
        · refine s_X8_copy_92 ⟨i5, i5, fun _ => ?_, fun z => absurd (Int.le_refl _) z⟩
          suffices hh : ∀ μ2 : Mem, (∀ k, k ≠ 86 → μ2 k = μ' k) → (∀ j, 0 ≤ j → j < 0 → μ2 86 (40 * x3 + x4 + j) = μ 86 (40 * x1 + x2 + j)) → (∀ t, (t < 40 * x3 + x4 ∨ 40 * x3 + x4 + x5 ≤ t) → μ2 86 t = μ 86 t) → Gg E 2 M_X8_copy 129 [some (.inr 83), some (.inl x1), some (.inl x2), some (.inl x3), some (.inl x4), some (.inl x5), some (.inl 0)] [] μ2 (fun w μ2 => w = some (.inl x5) ∧ Inv μ2) from hh μ' (fun _ _ => rfl) (fun j a b => by omega) (fun t _ => by rw [o1 86 (by decide), f86])
          refine up_ind (N := x5) (P := fun p => ∀ μ2 : Mem, (∀ k, k ≠ 86 → μ2 k = μ' k) → (∀ j, 0 ≤ j → j < p → μ2 86 (40 * x3 + x4 + j) = μ 86 (40 * x1 + x2 + j)) → (∀ t, (t < 40 * x3 + x4 ∨ 40 * x3 + x4 + x5 ≤ t) → μ2 86 t = μ 86 t) → Gg E 2 M_X8_copy 129 [some (.inr 83), some (.inl x1), some (.inl x2), some (.inl x3), some (.inl x4), some (.inl x5), some (.inl p)] [] μ2 (fun w μ2 => w = some (.inl x5) ∧ Inv μ2)) 0 c.1 (fun μ2 u1 u2 u3 => ?_) (fun p p0 p1 ih μ2 u1 u2 u3 => ?_)
          · refine s_X8_copy_129 ⟨i5, i5, fun _ μz ez => ⟨rfl, ?_⟩, fun z => absurd (Int.le_refl _) z⟩
            have zk : ∀ k, k ≠ 83 → k ≠ 86 → k ≠ 87 → μz k = μb k := fun k a b e => by rw [ez, up_ne a, u1 k b, o1 k e]
            have z86 : μz 86 = μ2 86 := by rw [ez, up_ne (by decide)]
            refine hI.rows (fun k a b cc d e f g => by rw [zk k b f g, o k a (by omega)]) (fun i hi => by rw [zk 0 (by decide) (by decide) (by decide), s0 i hi]) (fun i hi => by rw [ez, up_off (Or.inr hi), u1 83 (by decide), o1 83 (by decide), o 83 (by decide) (by omega)]) (hI.1.one (x := x3) z3.1 (fun i a b cc => ?_) (fun _ => Or.inr ⟨?_, ?_, ?_, ?_, fun j j0 j1 => ?_⟩)) ?_
            · have n := rw_ne a z3.1 cc
              have ri := rw_rng a b
              refine ⟨?_, ?_, ?_, ?_, fun j j0 j1 => ?_⟩
              · rw [zk _ (by omega) (by omega) (by omega), o _ (by omega) n.2.1]
              · rw [zk _ (by omega) (by omega) (by omega), o _ (by omega) n.2.2.2]
              · rw [zk 84 (by decide) (by decide) (by decide), f84]
              · rw [zk 85 (by decide) (by decide) (by decide), f85]
              · rw [z86, u3 _ (by omega)]
            · rw [zk _ (by omega) (by omega) (by omega), o _ (by omega) (by omega)]; exact p1
            · rw [zk _ (by omega) (by omega) (by omega), o _ (by omega) (by omega)]; exact p2
            · rw [zk 84 (by decide) (by decide) (by decide), f84, zk (rw x3) (by omega) (by omega) (by omega), o (rw x3) (by omega) (by omega)]; exact p3
            · rw [zk 85 (by decide) (by decide) (by decide), f85, zk (rw x3) (by omega) (by omega) (by omega), o (rw x3) (by omega) (by omega)]; exact p4
            · rw [z86, zk (rw x3 + 1) (by omega) (by omega) (by omega)]
              by_cases hj : x4 ≤ j ∧ j < x4 + x5
              · have e := u2 (j - x4) (by omega) (by omega)
                rw [show 40 * x3 + x4 + (j - x4) = 40 * x3 + j by omega] at e
                rw [ib j hj.1 hj.2, e, show 40 * x1 + x2 + (j - x4) = 40 * x1 + (x2 + (j - x4)) by omega]
                exact q5 _ (by omega) (by omega)
              · rw [ob j hj, u3 _ (by omega)]
                exact p5 j j0 j1
            · have e1 : μz 0 10 = 0 := by rw [zk 0 (by decide) (by decide) (by decide), s10]
              have e2 : μz 83 4 = 0 := by rw [ez, up_self]
              rw [e1, e2]; decide
          · refine s_X8_copy_129 ⟨by omega, i5, fun z => absurd z (by omega), fun _ => ⟨by omega, by omega, fun μ5 e5 => ih μ5 (fun k hk => by rw [e5, up_ne hk, u1 k hk]) (fun j j0 j1 => ?_) (fun t ht => ?_)⟩⟩
            · rw [e5]
              by_cases e : j = p
              · subst e; rw [up_self, u1 87 (by decide), o2 j j0 (by omega)]
              · rw [up_off (Or.inr (by omega))]; exact u2 j j0 (by omega)
            · rw [e5, up_off (Or.inr (by omega))]; exact u3 t ht
        · refine s_X8_copy_92 ⟨by omega, i5, fun z => absurd z (by omega), fun _ => ⟨by omega, by omega, fun μ4 e4 => ih μ4 (fun k hk => by rw [e4, up_ne hk, o1 k hk]) (fun j j0 j1 => ?_)⟩⟩
          rw [e4]
          by_cases e : j = p
          · subst e; rw [up_self, o1 86 (by decide), f86]
          · rw [up_off (Or.inr (by omega))]; exact o2 j j0 (by omega)
      · intro μ8 e8
        have f84 : μ8 84 = μ 84 := by rw [e8, up_ne (by decide)]
        have f85 : μ8 85 = μ 85 := by rw [e8, up_ne (by decide)]
        refine ⟨_, rfl, by decide, head μ8 ?_⟩
        rw [f84]
        exact ⟨by omega, fun z => absurd z (by omega), fun _ => ⟨by omega, fun _ => ⟨fun _ => k_X8_isPart i2 i5 z1 (by rw [f85]; omega) ⟨_, rfl, fun z => absurd (show 0 ≤ x5 ∧ 0 ≤ x2 ∧ x2 + x5 ≤ μ8 85 x1 by rw [f85]; omega) (of_decide_eq_false z), fun _ => k_X8_isPart i4 i5 z3 (by rw [f85]; omega) ⟨_, rfl, fun z => absurd (of_decide_eq_true z) (by rw [f85]; omega), fun _ μ9 e9 => ⟨rfl, st 2 _ μ9 (by decide) e8 e9⟩⟩⟩, fun z => absurd (by omega) z⟩, fun z => absurd z (by omega)⟩⟩
      · have f84 : μ8 84 = μ 84 := by rw [e8, up_ne (by decide)]
        rw [f84]
        exact ⟨by omega, fun z => absurd z (by omega), fun _ => ⟨by omega, fun _ => ⟨fun z => absurd (by omega) el, fun _ μ9 e9 => ⟨rfl, st 5 _ μ9 (by decide) e8 e9⟩⟩, fun z => absurd z (by omega)⟩⟩
end P58
