/-! A court is read: one of the people, on both sides. -/
section P71
variable {E : Ex} {Q : Option Vl → Mem → Prop} {T : Int → Int} {n p a : Int} {μ : Mem} {d : Int → Int}
theorem rd_person (hT : tkOK T n) (hp : 0 ≤ p ∧ p < 6) (hC : C7 T n μ a) (h0 : 0 ≤ a ∧ a ≤ n) (ht : 112 ≤ tkT T n a ∧ tkT T n a ≤ 116) (h2 : d 2 = p) (hF : ∀ (f b : Int) (μ1 : Mem), RX (P9 T n a d) (G130 E) (.inl (f, b)) → c7R μ μ1 → μ1 2 2 = f → μ1 2 3 = b → (1 ≤ f ∧ f ≤ 3) → (0 ≤ b ∧ b ≤ n) → Q (some (.inl (bi false))) μ1)
    (hS : ∀ (b k tm lf : Int) (μ1 : Mem), C7 T n μ1 b → (0 ≤ b ∧ b ≤ n) → a < b → (1 ≤ k ∧ k ≤ 4) → (1 ≤ tm ∧ tm ≤ 30) → (1 ≤ lf ∧ lf ≤ 99) → c7R μ μ1 → (∀ j, j ≠ 2 → j ≠ 17 → j ≠ 18 → j ≠ 19 → j ≠ 20 → j ≠ 21 → μ1 j = μ j) → (∀ i, μ1 17 i = if i = p then tkT T n a - 111 else μ 17 i) → (∀ i, μ1 18 i = if i = p then k else μ 18 i) → (∀ i, (i < p * 4 ∨ p * 4 + k ≤ i) → μ1 19 i = μ 19 i) → (∀ i, 0 ≤ i → i < k → 0 ≤ μ1 19 (p * 4 + i) ∧ μ1 19 (p * 4 + i) ≤ 7) → (∀ i, μ1 20 i = if i = p then tm else μ 20 i) → (∀ i, μ1 21 i = if i = p then lf else μ 21 i) → (∀ o, RX (P9 T n b (dP (dN d (13 + 13 * p) k (fun i => μ1 19 (p * 4 + i))) (13 + 13 * p) (tkT T n a - 111) k tm lf)) (G130 E) o → RX (P9 T n a d) (G130 E) o) → Q (some (.inl (bi true))) μ1) : Cl E 3 M_X4_readPerson [.inr 2, .inr 14, .inl p] μ Q := by
  have hn := hT.1
  have an : a < n := by
    by_cases e : n ≤ a
    · have := (tkT_end hT h0.1).2 e; omega
    · omega
  have na := tkN_rng (T := T) h0.1 h0.2
  have e6 := hC.2.2.1
  refine s_X4_readPerson ⟨hp, fun μ1 e1 => ?_⟩
  have k1 : ∀ j, j ≠ 17 → μ1 j = μ j := fun j hj => by rw [e1, up_ne hj]
  have c1 : C7 T n μ1 a := hC.off (k1 2 (by decide)) (k1 3 (by decide))
  have r1 : c7R μ μ1 := by rw [e1, e6]; exact c7R.upj (j := 3) (by decide) (by omega)
  have v17 : ∀ i, μ1 17 i = if i = p then tkT T n a - 111 else μ 17 i := fun i => by
    rw [e1, e6]
    by_cases e : i = p
    · subst e; rw [if_pos rfl, show tkT T n a - 111 = tkT T n a - 112 + 1 by omega]; exact up_self
    · rw [if_neg e]; exact up_off (Or.inr e)
  refine k_X4_step hT c1.pl.1 c1.pl.2 c1.nx (by omega) (fun μ2 c2 o2 => ⟨rfl, ?_⟩)
  refine rd_name (kd := tkT T n a - 111) hT hp 4 0 (tkN T n a) μ2 (by decide) (by decide) c2 (by omega) (fun k a1 μ3 c3 b3 hk r3 o3 x3 y3 f3 => ?_)
  have r13 : c7R μ μ3 := (r1.tr (c7R.tk o2)).tr r3
  obtain ⟨dn, edn⟩ : ∃ dn, dn = dN d (13 + 13 * p) k (fun i => μ3 (14 + 5) (p * 4 + i)) := ⟨_, rfl⟩
  have dn2 : dn 2 = p := by rw [edn]; unfold dN; rw [if_neg (by omega)]; exact h2
  have rx : ∀ o, RX (P9 T n a1 dn) (G99 E (tkT T n a - 111) p k) o → RX (P9 T n a d) (G130 E) o := by
    intro o ho
    refine ref_one hT h0 ht (by omega) (fun _ ν Q8 hP hq => ?_) (fun z => absurd (by omega) z)
    rw [h2]
    refine f3 ν _ hP.1 (fun ν1 W1 m1 d1 z1 => ho ν1 Q8 ⟨W1, ?_⟩ (fun ν3 p3 => hq ν3 (ePost.md m1 p3)))
    funext i
    rw [edn]
    unfold dN
    by_cases e : 13 + 13 * p + 4 ≤ i ∧ i < 13 + 13 * p + 4 + k
    · rw [if_pos e]
      have := d1 (i - (13 + 13 * p + 4)) (by omega) (by omega)
      rw [show 13 + 13 * p + (4 + (i - (13 + 13 * p + 4))) = i by omega] at this
      exact this
    · rw [if_neg e, z1 i (by omega), hP.2]
  refine rd_tail (kd := tkT T n a - 111) (d := dn) hT hp c3 (by omega) (by omega) (by omega) (fun f b μ4 h4 r4 g1 g2 g3 g4 => hF f b μ4 (rx _ h4) (r13.tr r4) g1 g2 g3 g4) (fun b tm lf μ4 kz c4 b4 ht4 hl4 r4 o4 v18 v20 v21 h4 => ?_)
  have e19 : μ4 19 = μ3 19 := o4 19 (by decide) (by decide) (by decide) (by decide)
  refine hS b k tm lf μ4 c4 (by omega) (by omega) (by omega) ht4 hl4 (r13.tr r4) (fun j j1 j2 j3 j4 j5 j6 => ?_) (fun i => ?_) (fun i => ?_) (fun i hi => ?_) (fun i i0 i1 => ?_) (fun i => ?_) (fun i => ?_) (fun o ho => rx o (h4 o ?_))
  · rw [o4 j j1 j3 j5 j6, o3 j j1 j4, o2 j j1, k1 j j2]
  · rw [o4 17 (by decide) (by decide) (by decide) (by decide), o3 17 (by decide) (by decide), o2 17 (by decide), v17]
  · rw [v18, o3 18 (by decide) (by decide), o2 18 (by decide), k1 18 (by decide)]
  · rw [e19]; have := x3 i (by omega); rw [show μ3 19 i = μ3 (14 + 5) i from rfl, this, o2 (14 + 5) (by decide), k1 (14 + 5) (by decide)]
  · rw [e19]; exact y3 i i0 i1
  · rw [v20, o3 20 (by decide) (by decide), o2 20 (by decide), k1 20 (by decide)]
  · rw [v21, o3 21 (by decide) (by decide), o2 21 (by decide), k1 21 (by decide)]
  · rw [e19] at ho; rw [edn]; exact ho
end P71
