/-! A court is read: all people. -/
section P75
variable {E : Ex} {Q : Option Vl → Mem → Prop} {T : Int → Int} {n : Int}
theorem rd_people (hT : tkOK T n) : ∀ (r : Nat) (x a : Int) (μ : Mem) (d : Int → Int), n - a < r → (0 ≤ x ∧ x ≤ a) → C7 T n μ a → (0 ≤ a ∧ a ≤ n) → pcI (cv μ 14) → pdI (cv μ 14) d →
    (∀ (f b : Int) (μ1 : Mem), RX (P9 T n a d) (G130 E) (.inl (f, b)) → c7R μ μ1 → μ1 2 2 = f → μ1 2 3 = b → (1 ≤ f ∧ f ≤ 3) → (0 ≤ b ∧ b ≤ n) → Q (some (.inl (bi false))) μ1) →
    (∀ μ1 : Mem, RX (P9 T n a d) (G130 E) (.inr (cv μ1 14)) → c7R μ μ1 → pcI (cv μ1 14) → μ1 3 = μ 3 → Q (some (.inl (bi true))) μ1) → Gg E 4 M_X4_readPeople 2 [some (.inr 2), some (.inr 14), some (.inl x)] [] μ Q := by
  intro r
  induction r with
  | zero => intro x a μ d hr; intros; omega
  | succ r ih =>
    intro x a μ d hr hx hC h0 hc hd hF hS
    have hn := hT.1
    have tr := tkT_rng hT h0.1
    have te := tkT_end hT h0.1
    have e6 := hC.2.2.1
    have c1 := hc.2.2.2.1
    replace c1 : 0 ≤ μ 14 1 ∧ μ 14 1 ≤ 6 := c1
    have d2 : d 2 = μ 14 1 := hd.2.2.1
    have fin : tkT T n a = -1 → Q (some (.inl (bi true))) μ := fun ht => hS μ (ref_end hT h0 ht hc hd) c7R.rf hc rfl
    have bad : tkT T n a ≠ -1 → ¬ (112 ≤ tkT T n a ∧ tkT T n a ≤ 116) → Cl E 0 M_X4_hasFault [.inr 2, .inl 1] μ (fun vv μ3 => ∃ v4, vv = some (.inl (bi v4)) ∧ Q (some (.inl (bi v4))) μ3) := fun ht hq => k_X4_hasFault hC.2.1 (fun μ1 f1 => ⟨_, rfl, hF 1 a μ1 (ref_strange hT h0 ht hq (by omega)) (c7R.tk f1.2.2) f1.1 f1.2.1 (by decide) h0⟩)
    refine s_X4_readPeople_2 ⟨by omega, fun z => fin (te.2 (by omega)), fun z => ⟨by omega, fun z1 => fin (by omega), fun z1 => ⟨fun z2 => bad (by omega) (by omega), fun z2 => ⟨fun z3 => ⟨by omega, fun z4 => ?_, fun z4 => k_X4_hasFault hC.2.1 (fun μ1 f1 => ⟨_, rfl, hF 3 a μ1 (ref_one hT h0 (by omega) (by omega) (fun y => absurd y (by omega)) (fun _ => rfl)) (c7R.tk f1.2.2) f1.1 f1.2.1 (by decide) h0⟩)⟩, fun z3 => bad (by omega) (by omega)⟩⟩⟩⟩
    have ht : 112 ≤ tkT T n a ∧ tkT T n a ≤ 116 := by omega
    refine rd_person (d := d) hT (by omega) hC h0 ht d2 (fun f b μ1 h1 r1 g1 g2 g3 g4 => ⟨_, rfl, fun y => absurd y (by decide), fun _ => hF f b μ1 h1 r1 g1 g2 g3 g4⟩) (fun b k tm lf μ1 c1' b1 ab hk htm hlf r1 o1 v17 v18 v19 w19 v20 v21 h1 => ⟨_, rfl, fun _ μ2 e2 => ?_, fun y => absurd y (by decide)⟩)
    have p1 : μ1 14 1 = μ 14 1 := by rw [o1 14 (by decide) (by decide) (by decide) (by decide) (by decide) (by decide)]
    have k2 : ∀ j, j ≠ 14 → μ2 j = μ1 j := fun j hj => by rw [e2, up_ne hj]
    have r2 : c7R μ1 μ2 := by rw [e2]; exact c7R.up0 (by omega)
    have f0 : ∀ i, cv μ2 14 0 i = if i = 1 then μ 14 1 + 1 else cv μ 14 0 i := fun i => by
      show μ2 14 i = _
      by_cases e : i = 1
      · subst e; rw [if_pos rfl, e2, up_self, p1]
      · rw [if_neg e, e2, up_off (Or.inr e), o1 14 (by decide) (by decide) (by decide) (by decide) (by decide) (by decide)]; rfl
    have f1 : cv μ2 14 1 = cv μ 14 1 := by show μ2 15 = μ 15; rw [k2 15 (by decide), o1 15 (by decide) (by decide) (by decide) (by decide) (by decide) (by decide)]
    have f2 : cv μ2 14 2 = cv μ 14 2 := by show μ2 16 = μ 16; rw [k2 16 (by decide), o1 16 (by decide) (by decide) (by decide) (by decide) (by decide) (by decide)]
    have f8 : cv μ2 14 8 = cv μ 14 8 := by show μ2 22 = μ 22; rw [k2 22 (by decide), o1 22 (by decide) (by decide) (by decide) (by decide) (by decide) (by decide)]
    have f3 : ∀ i, cv μ2 14 3 i = if i = μ 14 1 then tkT T n a - 111 else cv μ 14 3 i := fun i => by show μ2 17 i = _; rw [k2 17 (by decide)]; exact v17 i
    have f4 : ∀ i, cv μ2 14 4 i = if i = μ 14 1 then k else cv μ 14 4 i := fun i => by show μ2 18 i = _; rw [k2 18 (by decide)]; exact v18 i
    have f5 : ∀ i, (i < μ 14 1 * 4 ∨ μ 14 1 * 4 + k ≤ i) → cv μ2 14 5 i = cv μ 14 5 i := fun i hi => by show μ2 19 i = _; rw [k2 19 (by decide)]; exact v19 i hi
    have g5 : ∀ i, 0 ≤ i → i < k → 0 ≤ cv μ2 14 5 (μ 14 1 * 4 + i) ∧ cv μ2 14 5 (μ 14 1 * 4 + i) ≤ 7 := fun i i0 i1 => by show 0 ≤ μ2 19 _ ∧ μ2 19 _ ≤ 7; rw [k2 19 (by decide)]; exact w19 i i0 i1
    have f6 : ∀ i, cv μ2 14 6 i = if i = μ 14 1 then tm else cv μ 14 6 i := fun i => by show μ2 20 i = _; rw [k2 20 (by decide)]; exact v20 i
    have f7 : ∀ i, cv μ2 14 7 i = if i = μ 14 1 then lf else cv μ 14 7 i := fun i => by show μ2 21 i = _; rw [k2 21 (by decide)]; exact v21 i
    have hc2 := pc_one hc rfl z4 (by omega : 1 ≤ tkT T n a - 111 ∧ tkT T n a - 111 ≤ 5) hk htm hlf f0 f1 f2 f8 f3 f4 f5 g5 f6 f7
    have hd2 := pd_one hc hd rfl z4 (by omega : 1 ≤ tkT T n a - 111 ∧ tkT T n a - 111 ≤ 5) hk htm hlf f0 f1 f3 f4 f5 g5 f6 f7
    have e19 : (fun i => cv μ2 14 5 (cv μ 14 0 1 * 4 + i)) = (fun i => μ1 19 (μ 14 1 * 4 + i)) := by funext i; show μ2 19 _ = _; rw [k2 19 (by decide)]; rfl
    rw [e19] at hd2
    refine ih (x + 1) b μ2 _ (by omega) (by omega) (c1'.off (k2 2 (by decide)) (k2 3 (by decide))) b1 hc2 hd2 (fun f b' μ3 h3 r3 q1 q2 q3 q4 => hF f b' μ3 (h1 _ h3) ((r1.tr r2).tr r3) q1 q2 q3 q4) (fun μ3 h3 r3 hc3 h33 => hS μ3 (h1 _ h3) ((r1.tr r2).tr r3) hc3 ?_)
    rw [h33, k2 3 (by decide), o1 3 (by decide) (by decide) (by decide) (by decide) (by decide) (by decide)]
end P75
