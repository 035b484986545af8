/-! Pairs: forged and lost letters, undoing, images. -/
theorem upv_back {v : CV} {j : Nat} {i x : Int} : upv (upv v j i x) j i (v j i) = v := by
  rw [upv_upv]
  funext a b
  unfold upv
  by_cases h : a = j ∧ b = i
  · rw [if_pos h, h.1, h.2]
  · rw [if_neg h]
theorem Rel.forge {v : CV} {a a' : Int → Int} {p i x : Int} (h : Rel v a) (hp : 0 ≤ p ∧ p < v 0 1) (hi : 0 ≤ i ∧ i < v 4 p) (hx : 0 ≤ x ∧ x ≤ 7) (h1 : a' (13 + 13 * p + 4 + i) = x) (h2 : ∀ t, t ≠ 13 + 13 * p + 4 + i → a' t = a t) : Rel (upv v 5 (p * 4 + i) x) a' := by
  have hn := h.n
  obtain ⟨⟨a0, a1, a2, a3, a4, a5, ap⟩, ⟨v0, v1, v3, v4, v5, vp⟩, hg, hs⟩ := id h
  have l4 := (h.ok hp.1 hp.2).2.1
  refine ⟨⟨?_, ?_, ?_, ?_, ?_, fun t t0 t1 => ?_, fun q q0 q1 => ?_⟩, ⟨v0, v1, v3, v4, v5, fun q q0 q1 => ?_⟩, fun t => ?_, hs⟩
  · rw [h2 _ (by omega)]; exact a0
  · rw [h2 _ (by omega)]; exact a1
  · rw [h2 _ (by omega)]; exact a2
  · rw [h2 _ (by omega)]; exact a3
  · rw [h2 _ (by omega)]; exact a4
  · rw [h2 _ (by omega)]; exact a5 t t0 t1
  · have q1' : q < v 0 1 := q1
    have lq := (h.ok q0 q1').2.1
    obtain ⟨e0, e1, e2, e3, e4, e8, e9, e10, e11, e12⟩ := ap q q0 q1'
    refine ⟨?_, ?_, ?_, ?_, fun t t0 t1 => ?_, ?_, ?_, ?_, ?_, ?_⟩
    · rw [h2 _ (by omega)]; exact e0
    · rw [h2 _ (by omega)]; exact e1
    · rw [h2 _ (by omega)]; exact e2
    · rw [h2 _ (by omega)]; exact e3
    · have t1' : t < v 4 q := t1
      by_cases hq : q = p ∧ t = i
      · rw [hq.1, hq.2, upv_self, show 13 + 13 * p + (4 + i) = 13 + 13 * p + 4 + i by omega, h1]
      · rw [upv_i (by omega), h2 _ (by omega)]; exact e4 t t0 t1'
    · rw [h2 _ (by omega)]; exact e8
    · rw [h2 _ (by omega)]; exact e9
    · rw [h2 _ (by omega)]; exact e10
    · rw [h2 _ (by omega)]; exact e11
    · rw [h2 _ (by omega)]; exact e12
  · obtain ⟨k1, k2, k3, k4, k5⟩ := vp q q0 q1
    refine ⟨k1, k2, k3, k4, fun t t0 t1 => ?_⟩
    by_cases hq : q * 4 + t = p * 4 + i
    · rw [hq, upv_self]; exact hx
    · rw [upv_i hq]; exact k5 t t0 t1
  · by_cases ht : t = 13 + 13 * p + 4 + i
    · rw [ht, h1]; omega
    · rw [h2 t ht]; exact hg t
theorem Rel.lose {v : CV} {a a' : Int → Int} {x : Int} (h : Rel v a) (hs0 : v 0 0 = 1) (hx : 0 ≤ x ∧ x < 256) (h1 : a' 4 = x) (h2 : ∀ t, t ≠ 4 → a' t = a t) : Rel (upv v 0 5 x) a' := by
  have hn := h.n
  obtain ⟨⟨a0, a1, a2, a3, a4, a5, ap⟩, ⟨v0, v1, v3, v4, v5, vp⟩, hg, hs⟩ := id h
  refine ⟨⟨?_, ?_, ?_, ?_, ?_, fun t t0 t1 => ?_, fun q q0 q1 => ?_⟩, ⟨Or.inr ?_, v1, v3, v4, ?_, vp⟩, fun t => ?_, hs⟩
  · rw [h2 _ (by omega)]; exact a0
  · rw [h2 _ (by omega)]; exact a1
  · rw [h2 _ (by omega)]; exact a2
  · rw [h2 _ (by omega)]; exact a3
  · rw [h1, upv_self]
  · rw [h2 _ (by omega)]; exact a5 t t0 t1
  · have q1' : q < v 0 1 := q1
    have lq := (h.ok q0 q1').2.1
    obtain ⟨e0, e1, e2, e3, e4, e8, e9, e10, e11, e12⟩ := ap q q0 q1'
    refine ⟨?_, ?_, ?_, ?_, fun t t0 t1 => ?_, ?_, ?_, ?_, ?_, ?_⟩
    · rw [h2 _ (by omega)]; exact e0
    · rw [h2 _ (by omega)]; exact e1
    · rw [h2 _ (by omega)]; exact e2
    · rw [h2 _ (by omega)]; exact e3
    · rw [h2 _ (by omega)]; exact e4 t t0 t1
    · rw [h2 _ (by omega)]; exact e8
    · rw [h2 _ (by omega)]; exact e9
    · rw [h2 _ (by omega)]; exact e10
    · rw [h2 _ (by omega)]; exact e11
    · rw [h2 _ (by omega)]; exact e12
  · rcases v0 with q | q
    · omega
    · exact q
  · rw [upv_self]; exact hx
  · by_cases ht : t = 4
    · rw [ht, h1]; omega
    · rw [h2 t ht]; exact hg t
theorem xor_rng {l x : Int} (hl : 0 ≤ l ∧ l < 256) (hx : 0 ≤ x ∧ x < 8) : (0 ≤ jxor l (jshl 1 x) ∧ jxor l (jshl 1 x) < 256) ∧ jxor (jxor l (jshl 1 x)) (jshl 1 x) = l := by
  have h1 := bit_xor l.toNat (by omega) x.toNat (by omega)
  rw [Int.toNat_of_nonneg hl.1, Int.toNat_of_nonneg hx.1] at h1
  have lt : l.toNat ^^^ 2 ^ x.toNat < 256 := Nat.xor_lt_two_pow (n := 8) (by omega) (Nat.lt_of_le_of_lt (Nat.pow_le_pow_right (by decide) (show x.toNat ≤ 7 by omega)) (by decide))
  have h2 := bit_xor (l.toNat ^^^ 2 ^ x.toNat) lt x.toNat (by omega)
  rw [Int.toNat_of_nonneg hx.1] at h2
  rw [h1]
  refine ⟨by omega, ?_⟩
  rw [h2, Nat.xor_assoc, Nat.xor_self, Nat.xor_zero]
  omega
section P55
variable {E : Ex} {μ : Mem} {x1 x2 x3 : Int}
/-- an act of the class, then one of the reference -/
theorem act_end {μ9 μ12 μn μz : Mem} {C1 : CV} {a : Int × Int × Int × Int} (hI : Inv μ) (o9 : ∀ k, (k < 4 ∨ 14 ≤ k) → μ9 k = μ k) (c9 : eqv C1 (cv μ9 4)) (g9 : RgC μ9 4) (hk : kpA μ9 μ12 a) (hn : ntR μ12 μn) (oz : ∀ k, k ≠ 89 → μz k = μn k) (hC : CtOK C1 (μz 89)) (hu : eqv (cv μ 4) (unA C1 a)) (ha : actOK a) : Inv μz := by
  obtain ⟨hr, hz, hs, -⟩ := id hI.2.2.2.2.2.2.1
  have hCt := hI.2.2.2.2.1
  obtain ⟨p1, p2, p3, p4, p5⟩ := hk
  obtain ⟨n1, n2, n3, n4, n5, n6⟩ := hn
  have f25 : μ9 25 = μ 25 := o9 25 (by omega)
  rw [f25] at p3 p4
  have k12 : ∀ k, (k < 4 ∨ (14 ≤ k ∧ k < 25) ∨ 30 ≤ k) → μ12 k = μ k := fun k hk => by rw [p1 k (by omega), o9 k (by omega)]
  have s12 : μ12 83 17 = μ 25 5 := by rw [k12 83 (by omega)]; exact hs
  have gA : RgA (μn 92) := n6 (by rw [k12 92 (by omega)]; exact hI.2.2.2.2.2.2.2.2.2.2.2.2.1) (by rw [k12 89 (by omega)]; exact hCt.1.2.2.1)
  have sz : μn 83 17 = μ12 25 5 := by rw [n3, s12, p3]
  have e25 : ∀ k, 25 ≤ k → k ≤ 29 → μz k = μ12 k := fun k a b => by rw [oz k (by omega), n1 k (by omega) (by omega)]
  have cE : eqv C1 (cv μz 4) := c9.trans (cv_eqv (fun k a b => by rw [oz k (by omega), n1 k (by omega) (by omega), p1 k (by omega)]))
  refine hI.gen (fun k hk => ?_) (fun i a b => ?_) (hC.eqv cE) (g9.cg (fun k a b => by rw [oz k (by omega), n1 k (by omega) (by omega), p1 k (by omega)])) (hI.2.2.2.2.2.2.2.2.1.cg (fun k a b => ?_)) (hI.2.2.2.2.2.2.2.2.2.1.cg (fun k a b => ?_)) (by rw [oz 92 (by decide)]; exact gA) ?_ ?_ ?_ ?_
  · rw [oz k (by omega), n1 k (by omega) (by omega), k12 k (by omega)]
  · rw [oz 83 (by decide), n2 i a, k12 83 (by omega)]
  · rw [oz k (by omega), n1 k (by omega) (by omega), k12 k (by omega)]
  · rw [oz k (by omega), n1 k (by omega) (by omega), k12 k (by omega)]
  · rw [e25 25 (by decide) (by decide)]; exact p2
  · rw [e25 25 (by decide) (by decide), p3]; split <;> omega
  · rw [oz 83 (by decide), e25 25 (by decide) (by decide), sz]
  · rw [aAct_cg e25, e25 25 (by decide) (by decide), oz 92 (by decide)]
    have hAL : AL (μ 25 5) (aAct μ) (fun j i => μ 92 (91 * j + i)) (cv μ 4) := hI.2.2.2.2.2.2.1.2.2.2
    have aA : aAct μ9 = aAct μ := aAct_cg (fun k a b => o9 k (by omega))
    rw [aA] at p4
    have := hAL.push (C1 := C1) (a := a) (s := μ 89) (n1 := μ12 25 5) (A1 := aAct μ12) (S1 := fun j i => μn 92 (91 * j + i)) hz hCt hu ha p3 p4 p5 (fun j i j0 j1 i0 i1 => ?_) (fun i i0 i1 => ?_) (fun j i => gA _)
    · obtain ⟨w, w1, w2⟩ := this
      exact ⟨w, w1.trans cE, w2⟩
    · show μn 92 (91 * j + i) = μ 92 (91 * (if μ 25 5 < 24 then j else j + 1) + i)
      rw [n4 j i j0 (by rw [sz]; exact j1) i0 i1, s12, k12 92 (by omega)]
    · show μn 92 (91 * (μ12 25 5 - 1) + i) = μ 89 i
      rw [← sz, n5 i i0 i1, k12 89 (by omega)]
theorem pr_forge (hI : Inv μ) (i1 : inR x1) (i2 : inR x2) (i3 : inR x3) : Pair E 3 M_X7_forge 3 M_X8_forge [.inl x1, .inl x2, .inl x3] μ := by
  have hCt := hI.2.2.2.2.1
  have hR := hCt.1
  have hn := hR.n
  obtain ⟨hr, hz, hs, -⟩ := id hI.2.2.2.2.2.2.1
  simp only [cv, Nat.add_zero] at hn
  have g4 := hI.2.2.2.2.2.2.2.1
  refine s_X7_forge i1 i2 i3 (k_X7_isPlaceOfName hI i1 i2 ⟨_, rfl, fun z => ⟨_, rfl, by decide, s_X8_forge i1 i2 i3 (k_X8_isPlaceOf hR i1 i2 ⟨_, rfl, fun _ => ⟨rfl, hI⟩, fun z2 => absurd z (by rw [show decide ((0 ≤ x1 ∧ x1 < μ 4 1) ∧ 0 ≤ x2 ∧ x2 < μ (4 + 4) x1) = true from z2]; decide)⟩)⟩, fun z => ?_⟩)
  have z' := of_decide_eq_true z
  have zz : ¬ decide ((0 ≤ x1 ∧ x1 < cv μ 4 0 1) ∧ 0 ≤ x2 ∧ x2 < cv μ 4 4 x1) = false := by rw [show decide ((0 ≤ x1 ∧ x1 < cv μ 4 0 1) ∧ 0 ≤ x2 ∧ x2 < cv μ 4 4 x1) = true from z]; decide
  have ok := hR.ok z'.1.1 z'.1.2
  have rp := hR.p z'.1.1 z'.1.2
  have hl := ok.2.1
  have hk := ok.1
  have hc := ok.2.2.2.2 x2 z'.2.1 z'.2.2
  have ek : μ 89 (13 + 13 * x1 + 0) = μ (4 + 3) x1 := rp.1
  have el : μ 89 (13 + 13 * x1 + (4 + x2)) = μ (4 + 5) (x1 * 4 + x2) := rp.2.2.2.2.1 x2 z'.2.1 z'.2.2
  simp only [cv] at hl hc hk
  have d4 := hR.2.1.2.2.2.1
  simp only [cv, Nat.add_zero] at d4
  -- the reference, where it refuses
  refine ⟨fun z1 => ⟨by omega, by omega, by omega, fun z2 => ?_, fun z2 => ⟨g4, by omega, fun z3 => ?_, fun z3 => ⟨by omega, fun z4 μ9 e9 => ?_, fun z4 => ?_⟩⟩⟩, fun z1 => ?_⟩
  · refine ⟨_, rfl, by decide, s_X8_forge i1 i2 i3 (k_X8_isPlaceOf hR i1 i2 ⟨_, rfl, fun q => absurd q zz, fun _ => ⟨fun _ => ⟨by omega, by omega, ?_⟩, fun q => absurd (by omega) q⟩⟩)⟩
    rw [ek]
    exact ⟨by omega, fun _ => ⟨rfl, hI⟩, fun q => absurd q z2⟩
  · refine ⟨_, rfl, by decide, s_X8_forge i1 i2 i3 (k_X8_isPlaceOf hR i1 i2 ⟨_, rfl, fun q => absurd q zz, fun _ => ⟨fun _ => ⟨by omega, by omega, ?_⟩, fun q => absurd (by omega) q⟩⟩)⟩
    rw [ek]
    exact ⟨by omega, fun q => absurd z2 q, fun _ => k_X8_waits sh_89 hR z'.1 ⟨_, rfl, fun _ => ⟨rfl, hI⟩, fun q => absurd (z3.symm.trans q) (by decide)⟩⟩
  · have o9 : ∀ k, (k < 4 ∨ 14 ≤ k) → μ9 k = μ k := fun k hk => by rw [e9, up_ne (by omega)]
    have f25 : μ9 25 = μ 25 := o9 25 (by omega)
    rw [f25]
    refine ⟨hr, hz, fun μ12 h12 => ⟨_, rfl, by omega, ?_⟩⟩
    have k12 : ∀ k, (k < 4 ∨ (14 ≤ k ∧ k < 25) ∨ 30 ≤ k) → μ12 k = μ k := fun k hk => by rw [h12.1 k (by omega), o9 k (by omega)]
    have f89 : μ12 89 = μ 89 := k12 89 (by omega)
    have hR12 : Rel (cv μ 4) (μ12 89) := by rw [f89]; exact hR
    refine s_X8_forge i1 i2 i3 (k_X8_isPlaceOf hR12 i1 i2 ⟨_, rfl, fun q => absurd q zz, fun _ => ⟨fun _ => ⟨by omega, by omega, ?_⟩, fun q => absurd (by omega) q⟩⟩)
    rw [f89, ek, el]
    refine ⟨by omega, fun q => absurd z2 q, fun _ => k_X8_waits sh_89 hR12 z'.1 ⟨_, rfl, fun q => absurd (z3.symm.trans q) (by decide), fun _ => ⟨by omega, fun _ => ⟨by rw [k12 83 (by omega)]; omega, fun μn hn9 => ⟨by omega, fun μz ez => ⟨rfl, ?_⟩⟩⟩, fun q => absurd q z4⟩⟩⟩
    have c9 : cv μ9 4 = upv (cv μ 4) 5 (x1 * 4 + x2) x3 := by rw [e9, cv_up]
    refine act_end (C1 := upv (cv μ 4) 5 (x1 * 4 + x2) x3) hI o9 (by rw [c9]; exact eqv.rf) (by rw [e9]; exact g4.up (by omega)) h12 hn9 (fun k hk => by rw [ez, up_ne hk]) ?_ ?_ (Or.inr (Or.inl ⟨rfl, show 0 ≤ x1 * 4 + x2 ∧ x1 * 4 + x2 < 24 by omega, show 0 ≤ μ (4 + 5) (x1 * 4 + x2) ∧ μ (4 + 5) (x1 * 4 + x2) ≤ 7 by omega⟩))
    · refine ⟨hR.forge (a := μ 89) z'.1 z'.2 (by omega) (by rw [ez, up_self]) (fun t ht => by rw [ez, up_off (Or.inr ht), hn9.1 89 (by decide) (by decide), f89]), hCt.2.1, hCt.2.2⟩
    · have : unA (upv (cv μ 4) 5 (x1 * 4 + x2) x3) (1, x1, x2, μ (4 + 5) (x1 * 4 + x2)) = cv μ 4 := by
        simp only [unA]
        rw [if_neg (by decide), if_pos trivial]
        exact upv_back
      rw [this]; exact eqv.rf
  · refine ⟨_, rfl, by decide, s_X8_forge i1 i2 i3 (k_X8_isPlaceOf hR i1 i2 ⟨_, rfl, fun q => absurd q zz, fun _ => ⟨fun _ => ⟨by omega, by omega, ?_⟩, fun q => absurd (by omega) q⟩⟩)⟩
    rw [ek, el]
    exact ⟨by omega, fun q => absurd z2 q, fun _ => k_X8_waits sh_89 hR z'.1 ⟨_, rfl, fun q => absurd (z3.symm.trans q) (by decide), fun _ => ⟨by omega, fun q => absurd z4 q, fun _ => ⟨rfl, hI⟩⟩⟩⟩
  · exact ⟨_, rfl, by decide, s_X8_forge i1 i2 i3 (k_X8_isPlaceOf hR i1 i2 ⟨_, rfl, fun q => absurd q zz, fun _ => ⟨fun q => absurd (by omega) z1, fun _ => ⟨rfl, hI⟩⟩⟩)⟩
theorem pr_lose (hI : Inv μ) (i1 : inR x1) (i2 : inR x2) : Pair E 3 M_X7_lose 2 M_X8_lose [.inl x1, .inl x2] μ := by
  have hCt := hI.2.2.2.2.1
  have hR := hCt.1
  obtain ⟨hr, hz, hs, -⟩ := id hI.2.2.2.2.2.2.1
  have a0 : μ 89 0 = μ 4 2 := hR.1.1
  have a4 : μ 89 4 = μ 4 5 := hR.1.2.2.2.2.1
  obtain ⟨v0, v1, v3, v4, v5, vp⟩ := hR.2.1
  simp only [cv, Nat.add_zero] at v0 v5
  have g4 := hI.2.2.2.2.2.2.2.1
  refine s_X7_lose i1 i2 ⟨by omega, fun z => ⟨fun z1 => ⟨_, rfl, by decide, s_X8_lose i1 i2 ⟨by omega, fun _ => ⟨fun _ => ⟨rfl, hI⟩, fun q => absurd (by omega) z1⟩, fun q => absurd (show 0 < μ 89 0 by omega) q⟩⟩, fun z1 => ⟨fun z2 => ?_, fun z2 => ⟨_, rfl, by decide, s_X8_lose i1 i2 ⟨by omega, fun _ => ⟨fun q => absurd (by omega) q, fun _ => ⟨fun q => absurd (by omega) z2, fun _ => ⟨rfl, hI⟩⟩⟩, fun q => absurd (show 0 < μ 89 0 by omega) q⟩⟩⟩⟩, fun z => ⟨_, rfl, by decide, s_X8_lose i1 i2 ⟨by omega, fun q => absurd q (by omega), fun _ => ⟨rfl, hI⟩⟩⟩⟩
  have hb := bit_ask (μ 4 5).toNat (by omega) x1.toNat (by omega)
  rw [Int.toNat_of_nonneg v5.1, Int.toNat_of_nonneg z1.1] at hb
  have hb2 := bi_inR ((μ 4 5).toNat.testBit x1.toNat)
  have xr := xor_rng v5 z1
  refine ⟨by rw [hb]; exact hb2, fun z3 μ3 e3 => ?_, fun z3 => ⟨_, rfl, by decide, s_X8_lose i1 i2 ⟨by omega, fun _ => ⟨fun q => absurd (by omega) q, fun _ => ⟨fun _ => ?_, fun q => absurd (by omega) q⟩⟩, fun q => absurd (show 0 < μ 89 0 by omega) q⟩⟩⟩
  · have o3 : ∀ k, (k < 4 ∨ 14 ≤ k) → μ3 k = μ k := fun k hk => by rw [e3, up_ne (by omega)]
    rw [o3 25 (by omega)]
    refine ⟨hr, hz, fun μ6 h6 => ⟨_, rfl, by decide, ?_⟩⟩
    have k6 : ∀ k, (k < 4 ∨ (14 ≤ k ∧ k < 25) ∨ 30 ≤ k) → μ6 k = μ k := fun k hk => by rw [h6.1 k (by omega), o3 k (by omega)]
    have f89 : μ6 89 = μ 89 := k6 89 (by omega)
    refine s_X8_lose i1 i2 ?_
    rw [f89, a4]
    refine ⟨by omega, fun _ => ⟨fun q => absurd (by omega) q, fun _ => ⟨fun _ => ⟨by rw [hb]; exact hb2, fun _ => ⟨by rw [k6 83 (by omega)]; omega, fun μn hn9 μz ez => ⟨rfl, ?_⟩⟩, fun q => absurd q z3⟩, fun q => absurd (by omega) q⟩⟩, fun q => absurd (show 0 < μ 89 0 by omega) q⟩
    have fn : μn 89 4 = μ 4 5 := by rw [hn9.1 89 (by decide) (by decide), f89, a4]
    rw [fn] at ez
    refine act_end (C1 := upv (cv μ 4) 0 5 (jxor (μ 4 5) (jshl 1 x1))) hI o3 (by rw [e3, cv_up0]; exact eqv.rf) (by rw [e3]; exact RgC.up (j := 0) g4 (by omega)) h6 hn9 (fun k hk => by rw [ez, up_ne hk]) ?_ ?_ (Or.inr (Or.inr ⟨rfl, z1⟩))
    · refine ⟨hR.lose (a := μ 89) (show μ 4 0 = 1 by omega) xr.1 (by rw [ez, up_self]) (fun t ht => by rw [ez, up_off (Or.inr ht), hn9.1 89 (by decide) (by decide), f89]), hCt.2.1, hCt.2.2⟩
    · have : unA (upv (cv μ 4) 0 5 (jxor (μ 4 5) (jshl 1 x1))) (2, 0, 0, x1) = cv μ 4 := by
        simp only [unA]
        rw [if_neg (by decide), if_neg (by decide), upv_self, xr.2]
        exact upv_back
      rw [this]; exact eqv.rf
  · rw [a4]
    exact ⟨by rw [hb]; exact hb2, fun q => absurd z3 q, fun _ => ⟨rfl, hI⟩⟩
theorem pr_undo (hI : Inv μ) : Pair E 2 M_X7_undo 1 M_X8_undo [] μ := by
  have hCt := hI.2.2.2.2.1
  have g4 := hI.2.2.2.2.2.2.2.1
  have hn := hCt.1.n
  simp only [cv, Nat.add_zero] at hn
  have hAct := hI.2.2.2.2.2.2.1
  obtain ⟨hr, hz, hs, -⟩ := id hAct
  refine s_X7_undo ⟨by omega, fun z => ?_, fun z => ⟨_, rfl, by decide, s_X8_undo ⟨by omega, fun q => absurd (show μ 83 17 = 0 by omega) q, fun _ => ⟨rfl, hI⟩⟩⟩⟩
  have hAL : AL (μ 25 5) (aAct μ) (fun j i => μ 92 (91 * j + i)) (cv μ 4) := hAct.2.2.2
  have hok : actOK (aAct μ (μ 25 5 - 1)) := by
    obtain ⟨w, w1, w2⟩ := hAL
    exact (w2 (μ 25 5 - 1) (by omega) (by omega)).2.1
  refine ⟨hr, by omega, g4, hn, ?_, fun μ7 h7 => ⟨_, rfl, ?_, ?_⟩⟩
  · rcases hok with q | q | q
    · exact Or.inl q
    · exact Or.inr (Or.inl ⟨q.1, q.2.1.1, q.2.1.2⟩)
    · exact Or.inr (Or.inr q.1)
  · rw [h7.2.2.1]; omega
  · obtain ⟨b1, b2, b3, b4⟩ := h7
    have f17 : μ7 83 17 = μ 25 5 := by rw [b1 83 (by omega) (by decide)]; exact hs
    refine s_X8_undo ⟨by omega, fun _ μ2 e2 => ?_, fun q => absurd q (by omega)⟩
    have f2 : μ2 83 17 = μ 25 5 - 1 := by rw [e2, up_self, f17]
    refine k_X8_copies sh_92 (by decide) sh_89 (by decide) (by decide) (by omega) (by decide) (fun μ3 c1 c2 c3 => ⟨rfl, ?_, ?_⟩)
    · rw [c1 83 (by decide), f2, b3]
    · obtain ⟨w, w1, w2⟩ := hAL
      obtain ⟨q1, q2, q3⟩ := w2 (μ 25 5 - 1) (by omega) (by omega)
      rw [show μ 25 5 - 1 + 1 = μ 25 5 by omega] at q1
      have o3 : ∀ k, (k < 4 ∨ 14 ≤ k) → k ≠ 25 → k ≠ 83 → k ≠ 89 → μ3 k = μ k := fun k a b c d => by rw [c1 k d, e2, up_ne c, b1 k a b]
      have e7 : eqv (unA (cv μ 4) (aAct μ (μ 25 5 - 1))) (cv μ7 4) := by
        rw [b4]
        exact ⟨fun i _ => rfl, fun j j0 j1 => (if_pos (show j < 10 by omega)).symm⟩
      have cE : eqv (w (μ 25 5 - 1)) (cv μ3 4) := (q1.trans (unA_eqv w1)).trans (e7.trans (cv_eqv (fun k a b => by rw [c1 k (by omega), e2, up_ne (by omega)])))
      have g3 : RgA (μ3 89) := by
        intro i
        by_cases hi : 0 ≤ i ∧ i < 91
        · have := c2 i hi.1 hi.2
          rw [Int.zero_add] at this
          rw [this, e2, up_ne (by decide), b1 92 (by omega) (by decide)]
          exact hI.2.2.2.2.2.2.2.2.2.2.2.2.1 _
        · rw [c3 i (by omega), e2, up_ne (by decide), b1 89 (by omega) (by decide)]
          exact hCt.1.2.2.1 i
      have hC3 : CtOK (w (μ 25 5 - 1)) (μ3 89) := q3.arr (fun i i0 i1 => by
        have := c2 i i0 i1
        rw [Int.zero_add] at this
        rw [this, f2, e2, up_ne (by decide), b1 92 (by omega) (by decide)]) g3
      have k25 : μ3 25 4 = μ 25 4 ∧ μ3 25 5 = μ 25 5 - 1 := by rw [c1 25 (by decide), e2, up_ne (by decide)]; exact ⟨b2, b3⟩
      have aA : ∀ j, aAct μ3 j = aAct μ j := fun j => by
        unfold aAct
        rw [k25.1, o3 26 (by omega) (by decide) (by decide) (by decide), o3 27 (by omega) (by decide) (by decide) (by decide), o3 28 (by omega) (by decide) (by decide) (by decide), o3 29 (by omega) (by decide) (by decide) (by decide)]
      refine hI.gen (fun k hk => o3 k (by omega) (by omega) (by omega) (by omega)) (fun i a b => by rw [c1 83 (by decide), e2, up_off (Or.inr a), b1 83 (by omega) (by decide)]) (hC3.eqv cE) ?_ (hI.2.2.2.2.2.2.2.2.1.cg (fun k a b => o3 k (by omega) (by omega) (by omega) (by omega))) (hI.2.2.2.2.2.2.2.2.2.1.cg (fun k a b => o3 k (by omega) (by omega) (by omega) (by omega))) (by rw [o3 92 (by omega) (by decide) (by decide) (by decide)]; exact hI.2.2.2.2.2.2.2.2.2.2.2.2.1) (by rw [k25.1]; exact hr) (by rw [k25.2]; omega) (by rw [c1 83 (by decide), f2, k25.2]) ?_
      · -- the range of the court
        have g7 : RgC μ7 4 := by
          intro j i hj
          have e := congrFun (congrFun b4 j) i
          rw [if_pos hj] at e
          have e' : μ7 (4 + j) i = unA (cv μ 4) (aAct μ (μ 25 5 - 1)) j i := e
          rw [e']
          have hv := Rgv.of g4
          unfold unA
          split
          · refine Rgv.up (fun j i hj => ?_) ?_ j i hj
            · unfold tbC; split; omega; exact hv j i hj
            · have := hv 0 4 (by decide); have d := hCt.1.2.1.2.2.2.1; omega
          · split
            · refine Rgv.up hv ?_ j i hj
              rcases hok with q | q | q <;> omega
            · refine Rgv.up hv ?_ j i hj
              have l5 := hCt.1.2.1.2.2.2.2.1
              have q : 0 ≤ (aAct μ (μ 25 5 - 1)).2.2.2 ∧ (aAct μ (μ 25 5 - 1)).2.2.2 < 8 := by rcases hok with q | q | q <;> omega
              have := (xor_rng l5 q).1
              omega
        exact g7.cg (fun k a b => by rw [c1 k (by omega), e2, up_ne (by omega)])
      · rw [k25.2, show (fun j i => μ3 92 (91 * j + i)) = (fun j i => μ 92 (91 * j + i)) by rw [o3 92 (by omega) (by decide) (by decide) (by decide)]]
        exact ⟨w, cE, fun j j0 j1 => by rw [aA j]; exact w2 j j0 (by omega)⟩
theorem pr_image (hI : Inv μ) (i1 : inR x1) : Pair E 2 M_X7_image 1 M_X8_image [.inl x1] μ := by
  have hCt := hI.2.2.2.2.1
  have a0 : μ 89 0 = μ 4 2 := hCt.1.1.1
  have v0 := hCt.1.2.1.1
  simp only [cv, Nat.add_zero] at v0
  refine s_X7_image i1 ⟨fun z1 => ⟨by omega, fun z2 => ⟨z1, fun _ => ?_⟩, fun z2 => ⟨_, rfl, by decide, s_X8_image i1 ⟨fun _ => ⟨by omega, fun q => absurd q (by omega), fun _ => ⟨rfl, hI⟩⟩, fun q => absurd (by omega) q⟩⟩⟩, fun z1 => ⟨_, rfl, by decide, s_X8_image i1 ⟨fun q => absurd (by omega) z1, fun _ => ⟨rfl, hI⟩⟩⟩⟩
  have hm : im x1 = 63 + 10 * x1.toNat := rfl
  refine ⟨by omega, by omega, fun μ5 h5 => ⟨_, rfl, by decide, ?_⟩⟩
  have o5 : ∀ k, (k < 63 ∨ 83 ≤ k) → μ5 k = μ k := fun k hk => h5.2 k (by omega)
  have f89 : μ5 89 = μ 89 := o5 89 (by omega)
  refine s_X8_image i1 ⟨fun _ => ?_, fun q => absurd (by omega) q⟩
  rw [f89]
  refine ⟨by omega, fun _ => k_X8_copies sh_89 (by decide) sh_93 (by decide) (by decide) (by decide) (by omega) (fun μ2 c1 c2 c3 => ⟨rfl, z1, fun μ4 e4 => ⟨rfl, ?_⟩⟩), fun q => absurd (show 0 < μ 89 0 by omega) q⟩
  have o4 : ∀ k, (k < 63 ∨ 83 ≤ k) → k ≠ 93 → k ≠ 94 → μ4 k = μ k := fun k a b c => by rw [e4, up_ne c, c1 k b, o5 k a]
  have i4 : ∀ k, 63 ≤ k → k ≤ 82 → μ4 k = μ5 k := fun k a b => by rw [e4, up_ne (by omega), c1 k (by omega)]
  have ev : eqv (cv μ 4) (cv μ4 (im x1)) := by
    have : eqv (cv μ 4) (cv μ5 (im x1)) := by rw [h5.1]; exact eqv.tk.symm
    exact this.trans (cv_eqv (fun k a b => i4 k (by omega) (by omega)))
  obtain ⟨j1, j2, j3, j4, j5, j6, j7, j8⟩ := id hI
  have g93 : RgA (μ4 93) := by
    intro i
    rw [e4, up_ne (by decide)]
    by_cases hi : i < 91 * x1 ∨ 91 * x1 + 91 ≤ i
    · rw [c3 i hi, o5 93 (by omega)]; exact j8.2.2.2.2.2.2 i
    · have := c2 (i - 91 * x1) (by omega) (by omega)
      rw [show 91 * x1 + (i - 91 * x1) = i by omega] at this
      rw [this, f89]; exact hCt.1.2.2.1 _
  have gi : ∀ c, (c = 63 ∨ c = 73) → RgC μ4 c := by
    intro c hc
    by_cases e : c = im x1
    · subst e
      have hv : Rgv (tkC (cv μ (im x1)) (cv μ 4)) := Rgv.tk (by rcases hc with q | q <;> rw [q]; exact Rgv.of j8.2.2.2.1; exact Rgv.of j8.2.2.2.2.1) (Rgv.of j8.1)
      exact (cv_rng h5.1 hv).cg (fun k a b => i4 k (by omega) (by omega))
    · have old : RgC μ c := by rcases hc with q | q <;> rw [q]; exact j8.2.2.2.1; exact j8.2.2.2.2.1
      exact old.cg (fun k a b => by rw [i4 k (by omega) (by omega), h5.2 k (by omega)])
  refine ⟨j1.cg (fun k hk => o4 k (by omega) (by omega) (by omega)), j2.cg (by rw [o4 2 (by omega) (by decide) (by decide)]) (o4 3 (by omega) (by decide) (by decide)) (by rw [o4 83 (by omega) (by decide) (by decide)]) (o4 88 (by omega) (by decide) (by decide)), j3.cg (by rw [o4 0 (by omega) (by decide) (by decide)]) (by rw [o4 0 (by omega) (by decide) (by decide)]) (by rw [o4 83 (by omega) (by decide) (by decide)]) (by rw [o4 83 (by omega) (by decide) (by decide)]), j4.cg (by rw [o4 45 (by omega) (by decide) (by decide)]) (o4 46 (by omega) (by decide) (by decide)) (by rw [o4 83 (by omega) (by decide) (by decide)]) (o4 95 (by omega) (by decide) (by decide)), j5.cg (fun k a b => o4 k (by omega) (by omega) (by omega)) (o4 89 (by omega) (by decide) (by decide)), fun k k0 k1 => ?_, j7.cg (fun k a b => o4 k (by omega) (by omega) (by omega)) (by rw [o4 83 (by omega) (by decide) (by decide)]) (o4 92 (by omega) (by decide) (by decide)) (fun k a b => o4 k (by omega) (by omega) (by omega)), j8.1.cg (fun k a b => o4 k (by omega) (by omega) (by omega)), j8.2.1.cg (fun k a b => o4 k (by omega) (by omega) (by omega)), j8.2.2.1.cg (fun k a b => o4 k (by omega) (by omega) (by omega)), gi 63 (Or.inl rfl), gi 73 (Or.inr rfl), by rw [o4 92 (by omega) (by decide) (by decide)]; exact j8.2.2.2.2.2.1, g93⟩
  have hmk : im k = 63 + 10 * k.toNat := rfl
  by_cases e : k = x1
  · subst e
    refine Or.inr ⟨by rw [e4, up_self], ?_, (hCt.eqv ev).arr (fun i i0 i1 => ?_) (fun i => g93 _)⟩
    · have := ev.1 0 (by decide)
      have q : μ4 (im k) 0 = μ 4 0 := this.symm
      rw [q]; omega
    · show μ4 93 (91 * k + i) = μ 89 i
      rw [e4, up_ne (by decide), c2 i i0 i1, f89, Int.zero_add]
  · have eqc : ∀ j, im k ≤ j → j ≤ im k + 8 → μ4 j = μ j := fun j a b => by rw [i4 j (by omega) (by omega), h5.2 j (by omega)]
    have v94 : μ4 94 k = μ 94 k := by rw [e4, up_off (Or.inr e), c1 94 (by decide), o5 94 (by omega)]
    rw [v94, eqc (im k) (Nat.le_refl _) (by omega)]
    rcases j6 k k0 k1 with q | q
    · exact Or.inl q
    · refine Or.inr ⟨q.1, q.2.1, (q.2.2.eqv (cv_eqv eqc)).arr (fun i i0 i1 => ?_) (fun i => g93 _)⟩
      show μ4 93 (91 * k + i) = μ 93 (91 * k + i)
      rw [e4, up_ne (by decide), c3 _ (by omega), o5 93 (by omega)]
theorem pr_restore (hI : Inv μ) (i1 : inR x1) : Pair E 2 M_X7_restore 1 M_X8_restore [.inl x1] μ := by
  have hCt := hI.2.2.2.2.1
  refine s_X7_restore i1 ⟨fun z1 => ⟨z1, fun _ => ?_⟩, fun z1 => ⟨_, rfl, by decide, s_X8_restore i1 ⟨fun q => absurd (by omega) z1, fun _ => ⟨rfl, hI⟩⟩⟩⟩
  have hm : im x1 = 63 + 10 * x1.toNat := rfl
  rcases hI.2.2.2.2.2.1 x1 z1.1 z1.2 with q | q
  · rw [q.2]
    exact ⟨by decide, fun z => absurd rfl z, fun _ => ⟨_, rfl, by decide, s_X8_restore i1 ⟨fun _ => ⟨by omega, by omega, fun z => absurd q.1 z, fun _ => ⟨rfl, hI⟩⟩, fun z => absurd (by omega) z⟩⟩⟩
  · obtain ⟨q1, q2, q3⟩ := q
    rw [q2]
    refine ⟨by decide, fun _ => ⟨z1, fun _ => ⟨by omega, Or.inr rfl, fun μ6 h6 μ7 e7 => ⟨_, rfl, by decide, ?_⟩⟩⟩, fun z => absurd z (by decide)⟩
    have o7 : ∀ k, (k < 4 ∨ 14 ≤ k) → k ≠ 25 → μ7 k = μ k := fun k a b => by rw [e7, up_ne b, h6.2 k (by omega)]
    refine s_X8_restore i1 ⟨fun _ => ?_, fun z => absurd (by omega) z⟩
    rw [o7 94 (by omega) (by decide), q1]
    refine ⟨by omega, by decide, fun _ => k_X8_copies sh_93 (by decide) sh_89 (by decide) (by decide) (by omega) (by decide) (fun μ3 c1 c2 c3 => ⟨rfl, fun μ5 e5 => ⟨rfl, ?_⟩⟩), fun z => absurd z (by decide)⟩
    have o5 : ∀ k, (k < 4 ∨ 14 ≤ k) → k ≠ 25 → k ≠ 83 → k ≠ 89 → μ5 k = μ k := fun k a b c d => by rw [e5, up_ne c, c1 k d, o7 k a b]
    have ev : eqv (cv μ (im x1)) (cv μ5 4) := by
      have : eqv (cv μ (im x1)) (cv μ6 4) := by rw [h6.1]; exact eqv.tk.symm
      exact this.trans (cv_eqv (fun k a b => by rw [e5, up_ne (by omega), c1 k (by omega), e7, up_ne (by omega)]))
    obtain ⟨j1, j2, j3, j4, j5, j6, j7, j8⟩ := id hI
    have g89 : RgA (μ5 89) := by
      intro i
      rw [e5, up_ne (by decide)]
      by_cases hi : 0 ≤ i ∧ i < 91
      · have := c2 i hi.1 hi.2
        rw [Int.zero_add] at this
        rw [this, o7 93 (by omega) (by decide)]; exact j8.2.2.2.2.2.2 _
      · rw [c3 i (by omega), o7 89 (by omega) (by decide)]; exact hCt.1.2.2.1 i
    have k25 : ∀ i, i ≠ 5 → μ5 25 i = μ 25 i := fun i hi => by rw [e5, up_ne (by decide), c1 25 (by decide), e7, up_off (Or.inr hi), h6.2 25 (by omega)]
    have z25 : μ5 25 5 = 0 := by rw [e5, up_ne (by decide), c1 25 (by decide), e7, up_self]
    refine hI.gen (fun k hk => o5 k (by omega) (by omega) (by omega) (by omega)) (fun i a b => by rw [e5, up_off (Or.inr a), c1 83 (by decide), o7 83 (by omega) (by decide)]) ((q3.eqv ev).arr (fun i i0 i1 => ?_) g89) ?_ (j8.2.1.cg (fun k a b => o5 k (by omega) (by omega) (by omega) (by omega))) (j8.2.2.1.cg (fun k a b => o5 k (by omega) (by omega) (by omega) (by omega))) (by rw [o5 92 (by omega) (by decide) (by decide) (by decide)]; exact j8.2.2.2.2.2.1) (by rw [k25 4 (by decide)]; exact j7.1) (by rw [z25]; decide) (by rw [z25, e5, up_self]) ?_
    · have := c2 i i0 i1
      rw [Int.zero_add] at this
      show μ5 89 i = μ 93 (91 * x1 + i)
      rw [e5, up_ne (by decide), this, o7 93 (by omega) (by decide)]
    · have hv : Rgv (tkC (cv μ 4) (cv μ (im x1))) := by
        refine Rgv.tk (Rgv.of j8.1) ?_
        rcases (show x1 = 0 ∨ x1 = 1 by omega) with e | e <;> subst e
        · exact Rgv.of j8.2.2.2.1
        · exact Rgv.of j8.2.2.2.2.1
      exact (cv_rng h6.1 hv).cg (fun k a b => by rw [e5, up_ne (by omega), c1 k (by omega), e7, up_ne (by omega)])
    · rw [z25]
      exact ⟨fun _ => cv μ5 4, eqv.rf, fun j a b => absurd b (by omega)⟩
end P55
