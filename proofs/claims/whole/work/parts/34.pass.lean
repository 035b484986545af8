/-! The reference: a whole day, by who is first. -/
set_option maxRecDepth 20000 in
theorem s_X8_passes {E : Ex} {μ : Mem} {Q : Option Vl → Mem → Prop} {x2 : Int} {v : CV} {k : Nat} (hk : shp k = (0, 91, [])) (h : Cl E 0 M_X8_ages [.inr k] μ (fun vv μ1 => vv = none ∧ ∀ μ3 : Mem, μ3 = up μ1 83 23 0 → Cl E 3 M_X8_nextBy [.inr k, .inl x2] μ3 (fun vv μ4 => ∃ v5, vv = some (.inl v5) ∧ Gg E 4 M_X8_passes 15 [some (.inr 83), some (.inr k), some (.inl x2), some (.inl v5)] [] μ4 Q))) : Cl E 4 M_X8_passes [.inr 83, .inr k, .inl x2] μ Q := by
  show Gg E 4 M_X8_passes 0 [some (.inr 83), some (.inr k), some (.inl x2), none] [] μ Q
  refine r_aloadn (q := 1) DM_X8_passes_0 rfl rfl ?_
  refine r_callSv [.inr k] (q := 4) DM_X8_passes_1 rfl kM_X8_ages lRX8_183 rfl (by decide) (Nat.le_of_ble_eq_true rfl) rfl (Cl.imp h (fun vv μ1 h => ?_))
  obtain ⟨hv, h⟩ := h
  refine ⟨hv, ?_⟩
  refine r_aloadn (q := 5) DM_X8_passes_4 rfl rfl ?_
  refine r_iconst (q := 6) (n := 0) DM_X8_passes_5 rfl ?_
  refine v_put (q := 9) (ji := 23) DM_X8_passes_6 rfl pfRX8_187 sh_83 rfl rfl (Or.inl rfl) (fun μ3 e3 => ?_)
  replace h := h μ3 e3
  refine r_aloadn (q := 10) DM_X8_passes_9 rfl rfl ?_
  refine r_iloadn (q := 11) DM_X8_passes_10 rfl rfl ?_
  refine r_callSi [.inr k, .inl x2] (q := 14) DM_X8_passes_11 rfl kM_X8_nextBy lRX8_190 rfl (by decide) (Nat.le_of_ble_eq_true rfl) rfl (Cl.imp h (fun vv μ4 h => ?_))
  obtain ⟨v5, hv, h⟩ := h
  refine ⟨v5, hv, ?_⟩
  refine v_istoren (q := 15) (ls' := [some (.inr 83), some (.inr k), some (.inl x2), some (.inl v5)]) DM_X8_passes_14 rfl (by decide) rfl ?_
  exact h
set_option maxRecDepth 20000 in
theorem s_X8_passes_15 {E : Ex} {μ : Mem} {Q : Option Vl → Mem → Prop} {x2 x3 : Int} {v : CV} {k : Nat} (hk : shp k = (0, 91, [])) (h : inR x3 ∧ (x3 = (-1000000) → Q none μ) ∧ (¬ x3 = (-1000000) → (Rel v (μ k)) ∧ inR (cntI (fun p => decide (cState v p (v 0 4) = 1)) (v 0 1)) ∧ inR (μ k 0) ∧ ((cntI (fun p => decide (cState v p (v 0 4) = 1)) (v 0 1)) ≥ (μ k 0) → Q none μ) ∧ (¬ (cntI (fun p => decide (cState v p (v 0 4) = 1)) (v 0 1)) ≥ (μ k 0) → Cl E 0 M_X8_seats [.inr k, .inl x3] μ (fun vv μ5 => vv = none ∧ (0 ≤ (μ5 83 23) ∧ (μ5 83 23) < 6) ∧ ∀ μ7 : Mem, μ7 = up μ5 96 (μ5 83 23) x3 → ∀ μ9 : Mem, μ9 = up μ7 83 23 ((μ7 83 23) + 1) → Cl E 3 M_X8_nextBy [.inr k, .inl x2] μ9 (fun vv μ10 => ∃ v11, vv = some (.inl v11) ∧ Gg E 4 M_X8_passes 15 [some (.inr 83), some (.inr k), some (.inl x2), some (.inl v11)] [] μ10 Q))))) : Gg E 4 M_X8_passes 15 [some (.inr 83), some (.inr k), some (.inl x2), some (.inl x3)] [] μ Q := by
  refine r_iloadn (q := 16) DM_X8_passes_15 rfl rfl ?_
  refine r_ldc (q := 18) (n := (-1000000)) DM_X8_passes_16 rfl nRX8_59 ?_
  have i1 := h.1
  replace h := h.2
  refine r_iceq (q := 21) (t := 66) DM_X8_passes_18 rfl (by decide) ⟨⟨i1, (by decide)⟩, fun cc => ?_, fun cc => ?_⟩
  · replace h := h.1 cc
    exact r_ret (v := none) ⟨DM_X8_passes_66, rfl⟩ h
  · replace h := h.2 cc
    refine r_aloadn (q := 22) DM_X8_passes_21 rfl rfl ?_
    refine r_iconst (q := 23) (n := 1) DM_X8_passes_22 rfl ?_
    have i2 := h.1
    replace h := h.2
    refine r_callSi [.inr k, .inl 1] (q := 26) DM_X8_passes_23 rfl kM_X8_manySo lRX8_193 rfl (by decide) (Nat.le_of_ble_eq_true rfl) rfl (k_X8_manySo hk i2 (by decide) ⟨_, rfl, ?_⟩)
    refine r_aloadn (q := 27) DM_X8_passes_26 rfl rfl ?_
    refine r_iconst (q := 28) (n := 0) DM_X8_passes_27 rfl ?_
    refine r_iald (q := 29) DM_X8_passes_28 rfl hk (by decide) ⟨by decide, ?_⟩
    have i3 := h.1
    replace h := h.2
    have i4 := h.1
    replace h := h.2
    refine r_icge (q := 32) (t := 66) DM_X8_passes_29 rfl (by decide) ⟨⟨i3, i4⟩, fun cc => ?_, fun cc => ?_⟩
    · replace h := h.1 cc
      exact r_ret (v := none) ⟨DM_X8_passes_66, rfl⟩ h
    · replace h := h.2 cc
      refine r_aloadn (q := 33) DM_X8_passes_32 rfl rfl ?_
      refine r_iloadn (q := 34) DM_X8_passes_33 rfl rfl ?_
      refine r_callSv [.inr k, .inl x3] (q := 37) DM_X8_passes_34 rfl kM_X8_seats lRX8_196 rfl (by decide) (Nat.le_of_ble_eq_true rfl) rfl (Cl.imp h (fun vv μ5 h => ?_))
      obtain ⟨hv, h⟩ := h
      refine ⟨hv, ?_⟩
      refine r_aloadn (q := 38) DM_X8_passes_37 rfl rfl ?_
      refine r_getR (q := 41) (r := 96) DM_X8_passes_38 rfl fRX8_47 sh_83 rfl ?_
      refine r_aloadn (q := 42) DM_X8_passes_41 rfl rfl ?_
      refine v_getI (q := 45) (ji := 23) DM_X8_passes_42 rfl fRX8_187 sh_83 rfl rfl ?_
      refine r_iloadn (q := 46) DM_X8_passes_45 rfl rfl ?_
      refine v_iast (q := 47) DM_X8_passes_46 rfl sh_96 (by decide) ⟨h.1, fun μ7 e7 => ?_⟩
      have i8 := h.1
      replace h := h.2 μ7 e7
      refine r_aloadn (q := 48) DM_X8_passes_47 rfl rfl ?_
      refine r_dup (q := 49) DM_X8_passes_48 rfl ?_
      refine v_getI (q := 52) (ji := 23) DM_X8_passes_49 rfl fRX8_187 sh_83 rfl rfl ?_
      refine r_iconst (q := 53) (n := 1) DM_X8_passes_52 rfl ?_
      refine r_iadd (q := 54) DM_X8_passes_53 rfl ?_
      refine v_put (q := 57) (ji := 23) DM_X8_passes_54 rfl pfRX8_187 sh_83 rfl rfl (Or.inl rfl) (fun μ9 e9 => ?_)
      replace h := h μ9 e9
      refine r_aloadn (q := 58) DM_X8_passes_57 rfl rfl ?_
      refine r_iloadn (q := 59) DM_X8_passes_58 rfl rfl ?_
      refine r_callSi [.inr k, .inl x2] (q := 62) DM_X8_passes_59 rfl kM_X8_nextBy lRX8_190 rfl (by decide) (Nat.le_of_ble_eq_true rfl) rfl (Cl.imp h (fun vv μ10 h => ?_))
      obtain ⟨v11, hv, h⟩ := h
      refine ⟨v11, hv, ?_⟩
      refine v_istoren (q := 63) (ls' := [some (.inr 83), some (.inr k), some (.inl x2), some (.inl v11)]) DM_X8_passes_62 rfl (by decide) rfl ?_
      refine r_goto (q := 15) DM_X8_passes_63 (by decide) ?_
      exact h
def srv (v : CV) : Int := cntI (fun p => decide (cState v p (v 0 4) = 1)) (v 0 1)
def seatD (b : Int) : Nat → CV → List Int → CV × List Int
  | 0, v, L => (v, L)
  | n + 1, v, L => if cFirst v (v 0 4) b ≠ -1 ∧ srv v < v 0 2 then seatD b n (upv v 8 (cFirst v (v 0 4) b) (v 0 4)) (L ++ [cFirst v (v 0 4) b]) else (v, L)
def passV (v : CV) (b : Int) : CV × List Int := seatD b 7 (upv v 0 4 (v 0 4 + 1)) []
def wcn (v : CV) : Int := cntI (fun p => cWait v p (v 0 4)) (v 0 1)
theorem cFirst_can {v : CV} {d b : Int} (hn : 0 ≤ v 0 1) : cFirst v d b = -1 ∨ ((0 ≤ cFirst v d b ∧ cFirst v d b < v 0 1) ∧ cCan v (cFirst v d b) d = true) :=
  foldI_inv (I := fun p a => a = -1 ∨ ((0 ≤ a ∧ a < p) ∧ cCan v a d = true)) (N := v 0 1) (Or.inl rfl) (fun p a h1 _ h => by
    split
    · next q => exact Or.inr ⟨by omega, q.1⟩
    · rcases h with h | h
      · exact Or.inl h
      · exact Or.inr ⟨by omega, h.2⟩) (v 0 1) hn (Int.le_refl _)
theorem cCan_wait {v : CV} {p d : Int} (h : cCan v p d = true) : cWait v p d = true := by
  unfold cCan at h
  exact (Bool.and_eq_true _ _ ▸ h).1
theorem cntI_flip {f g : Int → Bool} {w N : Int} (h0 : 0 ≤ w) (h1 : w < N) (hf : f w = true) (hg : g w = false) (ho : ∀ p, 0 ≤ p → p < N → p ≠ w → g p = f p) : cntI g N = cntI f N - 1 := by
  have key : ∀ n : Nat, (n : Int) ≤ N → cntI g n = cntI f n - (if w < n then 1 else 0) := by
    intro n
    induction n with
    | zero => intro _; rw [if_neg (by omega)]; rfl
    | succ n ih =>
      intro hn
      have e : ((n + 1 : Nat) : Int) = (n : Int) + 1 := by omega
      rw [e, cntI_succ (by omega), cntI_succ (by omega), ih (by omega)]
      by_cases hw : (n : Int) = w
      · rw [if_neg (by omega), if_pos (by omega), hw, hf, hg]
        have b0 : bi false = 0 := rfl
        have b1 : bi true = 1 := rfl
        omega
      · rw [ho n (by omega) (by omega) hw]
        by_cases h2 : w < (n : Int)
        · rw [if_pos h2, if_pos (by omega)]; omega
        · rw [if_neg h2, if_neg (by omega)]; omega
  have := key N.toNat (by omega)
  rw [Int.toNat_of_nonneg (by omega), if_pos h1] at this
  exact this
theorem cWait_seat {v : CV} {w d p : Int} (hd : d ≠ -1000000) : cWait (upv v 8 w d) p (v 0 4) = if p = w then false else cWait v p (v 0 4) := by
  unfold cWait
  by_cases h : p = w
  · subst h
    rw [if_pos rfl, upv_self, decide_eq_false]
    exact fun z => hd z.1
  · rw [if_neg h, upv_i h]; rfl
theorem wcn_seat {v : CV} {w : Int} (h0 : 0 ≤ w) (h1 : w < v 0 1) (hw : cWait v w (v 0 4) = true) (hd : v 0 4 ≠ -1000000) : wcn (upv v 8 w (v 0 4)) = wcn v - 1 := by
  unfold wcn
  show cntI (fun p => cWait (upv v 8 w (v 0 4)) p (v 0 4)) (v 0 1) = _
  exact cntI_flip h0 h1 hw (by rw [cWait_seat hd, if_pos rfl]) (fun p _ _ hp => by rw [cWait_seat hd, if_neg hp])
theorem wcn_0 {v : CV} {b : Int} (hn : 0 ≤ v 0 1) (h : wcn v ≤ 0) : cFirst v (v 0 4) b = -1 := by
  rcases cFirst_can (v := v) (d := v 0 4) (b := b) hn with q | q
  · exact q
  · exfalso
    have hw := cCan_wait q.2
    have r := cntI_flip (g := fun p => if p = cFirst v (v 0 4) b then false else cWait v p (v 0 4)) q.1.1 q.1.2 hw (if_pos rfl) (fun p _ _ hp => if_neg hp)
    have r2 := cntI_rng (f := fun p => if p = cFirst v (v 0 4) b then false else cWait v p (v 0 4)) (v 0 1) hn
    unfold wcn at h
    omega
section C34
variable {E : Ex} {μ : Mem} {Q : Option Vl → Mem → Prop} {k : Nat} {v : CV} {a b x p l n i s d t : Int}
theorem passes_loop (hk : shp k = (0, 91, [])) (hk2 : k ≠ 83 ∧ k ≠ 96) (hb : 0 ≤ b ∧ b < 1000) : ∀ (n : Nat) (v : CV) (L : List Int) (μ' : Mem), Rel v (μ' k) → 1 ≤ v 0 4 → wcn v ≤ n → (L.length : Int) + wcn v ≤ 6 → μ' 83 23 = L.length → (∀ j : Nat, j < L.length → μ' 96 j = L.getD j 0) →
    (∀ μ1 : Mem, Rel (seatD b (n + 1) v L).1 (μ1 k) → μ1 83 23 = ((seatD b (n + 1) v L).2.length : Int) → (∀ j : Nat, j < (seatD b (n + 1) v L).2.length → μ1 96 j = (seatD b (n + 1) v L).2.getD j 0) → (∀ i, i ≠ 23 → μ1 83 i = μ' 83 i) → (∀ j, j ≠ k → j ≠ 83 → j ≠ 96 → μ1 j = μ' j) → Q none μ1) →
    Gg E 4 M_X8_passes 15 [some (.inr 83), some (.inr k), some (.inl b), some (.inl (nN (cFirst v (v 0 4) b)))] [] μ' Q := by
  intro n
  induction n with
  | zero =>
    intro v L μ' hR hd hw hL hm hl hq
    have e := wcn_0 (b := b) hR.n.1 hw
    have es : seatD b 1 v L = (v, L) := by rw [seatD, if_neg (fun z => z.1 e)]
    rw [es] at hq
    rw [e]
    exact s_X8_passes_15 (v := v) hk ⟨by decide, fun _ => hq μ' hR hm hl (fun _ _ => rfl) (fun _ _ _ _ => rfl), fun z => absurd rfl z⟩
  | succ n ih =>
    intro v L μ' hR hd hw hL hm hl hq
    have hn := hR.n
    have hV := hR.2.1
    have a0 : μ' k 0 = v 0 2 := hR.1.1
    have hc := cntI_rng (f := fun p => decide (cState v p (v 0 4) = 1)) (v 0 1) hn.1
    have hg := hR.2.2.1 0
    rcases cFirst_can (v := v) (d := v 0 4) (b := b) hn.1 with e | e
    · have es : seatD b (n + 1 + 1) v L = (v, L) := by rw [seatD, if_neg (fun z => z.1 e)]
      rw [es] at hq
      rw [e]
      exact s_X8_passes_15 (v := v) hk ⟨by decide, fun _ => hq μ' hR hm hl (fun _ _ => rfl) (fun _ _ _ _ => rfl), fun z => absurd rfl z⟩
    · obtain ⟨w, ew⟩ : ∃ w, w = cFirst v (v 0 4) b := ⟨_, rfl⟩
      rw [← ew] at e ⊢
      have hnn : nN w = w := if_neg (by omega)
      rw [hnn]
      have hwt := cCan_wait e.2
      have hws := wcn_seat e.1.1 e.1.2 hwt (by omega)
      refine s_X8_passes_15 (v := v) hk ⟨by omega, fun z => absurd z (by omega), fun _ => ⟨hR, by omega, by omega, fun z => ?_, fun z => ?_⟩⟩
      · have es : seatD b (n + 1 + 1) v L = (v, L) := by rw [seatD, if_neg (fun q => by have := q.2; unfold srv at this; omega)]
        rw [es] at hq
        exact hq μ' hR hm hl (fun _ _ => rfl) (fun _ _ _ _ => rfl)
      · have es : seatD b (n + 1 + 1) v L = seatD b (n + 1) (upv v 8 w (v 0 4)) (L ++ [w]) := by
          rw [seatD, ← ew, if_pos ⟨by omega, by unfold srv; omega⟩]
        rw [es] at hq
        refine k_X8_seats hk hR e.1 hwt hd (fun μ5 h5 => ⟨rfl, ?_⟩)
        have f23 : μ5 83 23 = L.length := by rw [h5.2 83 (fun z => hk2.1 z.symm)]; exact hm
        have hwn := cntI_rng (f := fun p => cWait (upv v 8 w (v 0 4)) p (upv v 8 w (v 0 4) 0 4)) (upv v 8 w (v 0 4) 0 1) hn.1
        have hwn' : 0 ≤ wcn (upv v 8 w (v 0 4)) := hwn.1
        refine ⟨by omega, fun μ7 e7 μ9 e9 => ?_⟩
        have k9 : μ9 k = μ5 k := by rw [e9, up_ne hk2.1, e7, up_ne hk2.2]
        have g23 : μ7 83 23 = L.length := by rw [e7, up_ne (by decide), f23]
        have hR9 : Rel (upv v 8 w (v 0 4)) (μ9 k) := by rw [k9]; exact h5.1
        have dd : upv v 8 w (v 0 4) 0 4 = v 0 4 := rfl
        refine k_X8_nextBy hk hR9 hb ⟨_, rfl, ?_⟩
        refine ih (upv v 8 w (v 0 4)) (L ++ [w]) μ9 hR9 hd (by omega) (by rw [List.length_append, List.length_singleton]; omega) (by rw [e9, up_self, g23, List.length_append, List.length_singleton]; omega) ?_ ?_
        · intro j hj
          rw [e9, up_ne (by decide), e7]
          rw [List.length_append, List.length_singleton] at hj
          by_cases hjl : j = L.length
          · subst hjl
            rw [f23, up_self, List.getD_eq_getElem?_getD, List.getElem?_append_right (Nat.le_refl _)]
            simp
          · rw [up_off (Or.inr (by omega)), h5.2 96 (fun z => hk2.2 z.symm), hl j (by omega), List.getD_eq_getElem?_getD, List.getD_eq_getElem?_getD, List.getElem?_append_left (by omega)]
        · intro μ1 q1 q2 q3 q4 q5
          refine hq μ1 q1 q2 q3 (fun i hi => ?_) (fun j j1 j2 j3 => ?_)
          · rw [q4 i hi, e9, up_off (Or.inr hi), e7, up_ne (by decide), h5.2 83 (fun z => hk2.1 z.symm)]
          · rw [q5 j j1 j2 j3, e9, up_ne j2, e7, up_ne j3, h5.2 j j1]
/-- behind a day -/
def psR (μ μ1 : Mem) (k : Nat) (r : CV × List Int) : Prop := Rel r.1 (μ1 k) ∧ μ1 83 23 = (r.2.length : Int) ∧ (∀ j : Nat, j < r.2.length → μ1 96 j = r.2.getD j 0) ∧ (∀ i, i ≠ 23 → μ1 83 i = μ 83 i) ∧ ∀ j, j ≠ k → j ≠ 83 → j ≠ 96 → μ1 j = μ j
theorem k_X8_passes (hk : shp k = (0, 91, [])) (hk2 : k ≠ 83 ∧ k ≠ 96) (hR : Rel v (μ k)) (hb : 0 ≤ b ∧ b < 1000) (hd : v 0 4 < 1500) (hs : v 0 0 = 1) (h : ∀ μ1 : Mem, psR μ μ1 k (passV v b) → Q none μ1) : Cl E 4 M_X8_passes [.inr 83, .inr k, .inl b] μ Q := by
  have v4 := hR.2.1.2.2.2.1
  refine s_X8_passes (v := v) hk (k_X8_ages hk hR hd hs (fun μ1 h1 => ⟨rfl, fun μ2 e2 => ?_⟩))
  have k2 : μ2 k = μ1 k := by rw [e2, up_ne hk2.1]
  have hR2 : Rel (upv v 0 4 (v 0 4 + 1)) (μ2 k) := by rw [k2]; exact h1.1
  have hn := hR2.n
  refine k_X8_nextBy hk hR2 hb ⟨_, rfl, ?_⟩
  have hw := cntI_rng (f := fun p => cWait (upv v 0 4 (v 0 4 + 1)) p (upv v 0 4 (v 0 4 + 1) 0 4)) (upv v 0 4 (v 0 4 + 1) 0 1) hn.1
  refine passes_loop hk hk2 hb 6 (upv v 0 4 (v 0 4 + 1)) [] μ2 hR2 (by rw [upv_self]; omega) (by unfold wcn; omega) (by unfold wcn; simp only [List.length_nil]; omega) (by rw [e2, up_self]; rfl) (fun j hj => by simp at hj) (fun μ3 q1 q2 q3 q4 q5 => h μ3 ⟨q1, q2, q3, fun i hi => ?_, fun j j1 j2 j3 => ?_⟩)
  · rw [q4 i hi, e2, up_off (Or.inr hi), h1.2 83 (fun z => hk2.1 z.symm)]
  · rw [q5 j j1 j2 j3, e2, up_ne j2, h1.2 j j1]
end C34
