/-! Who comes before whom, as a number. -/
def nD (v : CV) (p t i : Int) : Int := if i < v 4 p then cPlace v (cRead v p i) t + 1 else 0
def nk (v : CV) (p t : Int) : Int := ((nD v p t 0 * 9 + nD v p t 1) * 9 + nD v p t 2) * 9 + nD v p t 3
def gk (v : CV) (p t : Int) : Int := (gGrp (v 3 p) * 6561 + nk v p t) * 6 + p
theorem nD_rng {v : CV} {p t i : Int} : (i < v 4 p → 1 ≤ nD v p t i ∧ nD v p t i ≤ 8) ∧ (v 4 p ≤ i → nD v p t i = 0) := by
  have := cPlace_rng (v := v) (l := cRead v p i) (t := t)
  unfold nD
  refine ⟨fun h => ?_, fun h => ?_⟩
  · rw [if_pos h]; omega
  · rw [if_neg (by omega)]
theorem cPl_inj {v : CV} {l m t : Int} (ho : oOK v) (hl : 0 ≤ l ∧ l ≤ 7) (hm : 0 ≤ m ∧ m ≤ 7) (h : cPlace v l t = cPlace v m t) : l = m := by
  have a := (ho l hl.1 (by omega)).2
  have b := (ho m hm.1 (by omega)).2
  unfold cPlace at h
  have : v 2 l = v 2 m := by omega
  rw [← a.2, ← b.2, this]
theorem cmp_nk {v : CV} {a b t : Int} (pa : pOK v a) (pb : pOK v b) (ho : oOK v) : (cCmp v a b t < 0 ↔ nk v a t < nk v b t) ∧ (cCmp v a b t = 0 ↔ nk v a t = nk v b t) := by
  have la := pa.2.1
  have lb := pb.2.1
  have st : ∀ (n : Nat) (i : Int), 0 ≤ i → i + (n + 1) ≤ v 4 a → i + (n + 1) ≤ v 4 b → cCmpF v a b t (n + 1) i = if nD v a t i = nD v b t i then cCmpF v a b t n (i + 1) else nD v a t i - nD v b t i := by
    intro n i i0 ia ib
    have ra := cRead_rng pa i0 (show i < v 4 a by omega)
    have rb := cRead_rng pb i0 (show i < v 4 b by omega)
    have ea : nD v a t i = cPlace v (cRead v a i) t + 1 := if_pos (by omega)
    have eb : nD v b t i = cPlace v (cRead v b i) t + 1 := if_pos (by omega)
    rw [ea, eb, cCmpF]
    by_cases e : cRead v a i = cRead v b i
    · rw [if_pos e, if_pos (by rw [e])]
    · rw [if_neg e, if_neg (fun q => e (cPl_inj (t := t) ho ra rb (by omega)))]; omega
  have a0 := nD_rng (v := v) (p := a) (t := t) (i := 0)
  have a1 := nD_rng (v := v) (p := a) (t := t) (i := 1)
  have a2 := nD_rng (v := v) (p := a) (t := t) (i := 2)
  have a3 := nD_rng (v := v) (p := a) (t := t) (i := 3)
  have b0 := nD_rng (v := v) (p := b) (t := t) (i := 0)
  have b1 := nD_rng (v := v) (p := b) (t := t) (i := 1)
  have b2 := nD_rng (v := v) (p := b) (t := t) (i := 2)
  have b3 := nD_rng (v := v) (p := b) (t := t) (i := 3)
  obtain ⟨m, hm⟩ : ∃ m : Nat, (if v 4 b < v 4 a then v 4 b else v 4 a).toNat = m := ⟨_, rfl⟩
  have m1 : ((m : Int) ≤ v 4 a ∧ (m : Int) ≤ v 4 b ∧ ((m : Int) = v 4 a ∨ (m : Int) = v 4 b)) := by
    split at hm <;> omega
  unfold cCmp nk
  rw [hm]
  have z0 : ∀ i, cCmpF v a b t 0 i = v 4 a - v 4 b := fun i => rfl
  rcases (show m = 1 ∨ m = 2 ∨ m = 3 ∨ m = 4 by omega) with e | e | e | e <;> subst e
  · rw [st 0 0 (by decide) (by omega) (by omega), z0]
    split <;> omega
  · rw [st 1 0 (by decide) (by omega) (by omega), st 0 _ (by decide) (by omega) (by omega), z0]
    rw [show (0 : Int) + 1 = 1 from rfl]
    split
    · split <;> omega
    · omega
  · rw [st 2 0 (by decide) (by omega) (by omega), st 1 _ (by decide) (by omega) (by omega), st 0 _ (by decide) (by omega) (by omega), z0]
    rw [show (0 : Int) + 1 = 1 from rfl, show (1 : Int) + 1 = 2 from rfl]
    split
    · split
      · split <;> omega
      · omega
    · omega
  · rw [st 3 0 (by decide) (by omega) (by omega), st 2 _ (by decide) (by omega) (by omega), st 1 _ (by decide) (by omega) (by omega), st 0 _ (by decide) (by omega) (by omega), z0]
    rw [show (0 : Int) + 1 = 1 from rfl, show (1 : Int) + 1 = 2 from rfl, show (2 : Int) + 1 = 3 from rfl]
    split
    · split
      · split
        · split <;> omega
        · omega
      · omega
    · omega
theorem nk_rng {v : CV} {p t : Int} : 0 ≤ nk v p t ∧ nk v p t < 6561 := by
  have a0 := nD_rng (v := v) (p := p) (t := t) (i := 0)
  have a1 := nD_rng (v := v) (p := p) (t := t) (i := 1)
  have a2 := nD_rng (v := v) (p := p) (t := t) (i := 2)
  have a3 := nD_rng (v := v) (p := p) (t := t) (i := 3)
  unfold nk
  omega
theorem cBef_key {v : CV} {a b t : Int} (pa : pOK v a) (pb : pOK v b) (ho : oOK v) (ha : 0 ≤ a ∧ a < 6) (hb : 0 ≤ b ∧ b < 6) : cBef v a b t = true ↔ gk v a t < gk v b t := by
  obtain ⟨c1, c2⟩ := cmp_nk (t := t) pa pb ho
  have na := nk_rng (v := v) (p := a) (t := t)
  have nb := nk_rng (v := v) (p := b) (t := t)
  have ga := gGrp_rng (v 3 a)
  have gb := gGrp_rng (v 3 b)
  unfold cBef gk
  split
  · split <;> rw [decide_eq_true_eq] <;> omega
  · rw [decide_eq_true_eq]; omega
theorem nD_congr {v w : CV} {p t i : Int} (h2 : w 2 = v 2) (h3 : w 3 p = v 3 p) (h4 : w 4 p = v 4 p) (i0 : 0 ≤ i) (h5 : ∀ i, 0 ≤ i → i < v 4 p → w 5 (p * 4 + i) = v 5 (p * 4 + i)) : nD w p t i = nD v p t i := by
  unfold nD
  rw [h4]
  by_cases hi : i < v 4 p
  · rw [if_pos hi, if_pos hi]
    have : cRead w p i = cRead v p i := by
      unfold cRead
      rw [h3, h4]
      split
      · exact h5 _ (by omega) (by omega)
      · exact h5 _ i0 hi
    rw [this]; unfold cPlace; rw [h2]
  · rw [if_neg hi, if_neg hi]
theorem gk_congr {v w : CV} {p t : Int} (h2 : w 2 = v 2) (h3 : w 3 p = v 3 p) (h4 : w 4 p = v 4 p) (h5 : ∀ i, 0 ≤ i → i < v 4 p → w 5 (p * 4 + i) = v 5 (p * 4 + i)) : gk w p t = gk v p t := by
  unfold gk nk
  rw [nD_congr h2 h3 h4 (by decide) h5, nD_congr h2 h3 h4 (by decide) h5, nD_congr h2 h3 h4 (by decide) h5, nD_congr h2 h3 h4 (by decide) h5, h3]
/-- the greatest of all names with so many letters -/
theorem gk_top {v w : CV} {p t : Int} (h3 : w 3 p = v 3 p) (h4 : w 4 p = v 4 p) (hl : v 4 p ≤ 4) (h5 : ∀ i, 0 ≤ i → i < v 4 p → cPlace w (w 5 (p * 4 + i)) t = 7) : gk v p t ≤ gk w p t := by
  have key : ∀ i, 0 ≤ i → nD v p t i ≤ nD w p t i := fun i i0 => by
    have r := nD_rng (v := v) (p := p) (t := t) (i := i)
    by_cases hi : i < v 4 p
    · have : nD w p t i = 8 := by
        unfold nD cRead
        rw [h3, h4, if_pos hi]
        split
        · rw [h5 _ (by omega) (by omega)]; rfl
        · rw [h5 _ i0 hi]; rfl
      omega
    · have r2 := nD_rng (v := w) (p := p) (t := t) (i := i)
      rw [h4] at r2
      omega
  have k0 := key 0 (by decide)
  have k1 := key 1 (by decide)
  have k2 := key 2 (by decide)
  have k3 := key 3 (by decide)
  unfold gk nk
  rw [h3]
  omega
/-- the last of the others -/
theorem cLast_max {v : CV} {x t : Int} (hV : VC v) (hs : v 0 0 = 1) : (cLast v x t = -1 ∧ ∀ p, 0 ≤ p → p < v 0 1 → p ≠ x → cWait v p (v 0 4) = false) ∨ ((0 ≤ cLast v x t ∧ cLast v x t < v 0 1) ∧ cLast v x t ≠ x ∧ cWait v (cLast v x t) (v 0 4) = true ∧ ∀ p, 0 ≤ p → p < v 0 1 → p ≠ x → cWait v p (v 0 4) = true → gk v p t ≤ gk v (cLast v x t) t) := by
  have ho : oOK v := by
    rcases hV.1 with q | q
    · exact absurd (q.1.symm.trans hs) (by decide)
    · exact q.2.2
  have n6 := hV.2.1
  have hp := hV.2.2.2.2.2
  have key := foldI_inv (g := fun p a => if p ≠ x ∧ cWait v p (v 0 4) = true ∧ (a = -1 ∨ cBef v a p t = true) then p else a) (a := (-1 : Int)) (N := v 0 1)
    (I := fun c r => (r = -1 ∧ ∀ p, 0 ≤ p → p < c → p ≠ x → cWait v p (v 0 4) = false) ∨ ((0 ≤ r ∧ r < c) ∧ r ≠ x ∧ cWait v r (v 0 4) = true ∧ ∀ p, 0 ≤ p → p < c → p ≠ x → cWait v p (v 0 4) = true → gk v p t ≤ gk v r t))
    (Or.inl ⟨rfl, fun p a b => absurd b (by omega)⟩) (fun c r c0 c1 hI => ?_) (v 0 1) n6.1 (Int.le_refl _)
  · exact key
  · by_cases hq : c ≠ x ∧ cWait v c (v 0 4) = true
    · rcases hI with ⟨r1, hw⟩ | ⟨r0, rx, rw', hw⟩
      · rw [if_pos ⟨hq.1, hq.2, Or.inl r1⟩]
        refine Or.inr ⟨by omega, hq.1, hq.2, fun p p0 p1 px pw => ?_⟩
        by_cases e : p = c
        · rw [e]; exact Int.le_refl _
        · rw [hw p p0 (by omega) px] at pw; exact absurd pw (by decide)
      · have kk := cBef_key (t := t) (hp r r0.1 (by omega)) (hp c c0 c1) ho (by omega) (by omega)
        by_cases hb : cBef v r c t = true
        · rw [if_pos ⟨hq.1, hq.2, Or.inr hb⟩]
          have lt := kk.mp hb
          refine Or.inr ⟨by omega, hq.1, hq.2, fun p p0 p1 px pw => ?_⟩
          by_cases e : p = c
          · rw [e]; exact Int.le_refl _
          · have := hw p p0 (by omega) px pw; omega
        · rw [if_neg (fun q => q.2.2.elim (by omega) hb)]
          have le : ¬ gk v r t < gk v c t := fun q => hb (kk.mpr q)
          refine Or.inr ⟨by omega, rx, rw', fun p p0 p1 px pw => ?_⟩
          by_cases e : p = c
          · rw [e]; omega
          · exact hw p p0 (by omega) px pw
    · rw [if_neg (fun q => hq ⟨q.1, q.2.1⟩)]
      rcases hI with ⟨r1, hw⟩ | ⟨r0, rx, rw', hw⟩
      · refine Or.inl ⟨r1, fun p p0 p1 px => ?_⟩
        by_cases e : p = c
        · subst e
          cases hz : cWait v p (v 0 4)
          · rfl
          · exact absurd ⟨px, hz⟩ hq
        · exact hw p p0 (by omega) px
      · refine Or.inr ⟨by omega, rx, rw', fun p p0 p1 px pw => ?_⟩
        by_cases e : p = c
        · subst e; exact absurd ⟨px, pw⟩ hq
        · exact hw p p0 (by omega) px pw
