/-! A warden's row: by a figure; who waits how long by it. -/
theorem sum_one {g g' : Int → Int} {N w : Int} (w0 : 0 ≤ w) (w1 : w < N) (h : ∀ p, 0 ≤ p → p < N → p ≠ w → g' p = g p) : foldI (fun p a => a + g' p) 0 N = foldI (fun p a => a + g p) 0 N + (g' w - g w) := by
  have key : ∀ c : Nat, (c : Int) ≤ N → foldI (fun p a => a + g' p) 0 (c : Int) = foldI (fun p a => a + g p) 0 (c : Int) + (if w < (c : Int) then g' w - g w else 0) := by
    intro c
    induction c with
    | zero => intro _; rw [if_neg (by omega)]; rfl
    | succ c ih =>
      intro hc
      have := ih (by omega)
      rw [show ((c + 1 : Nat) : Int) = (c : Int) + 1 by omega, foldI_succ (by omega), foldI_succ (by omega), this]
      by_cases e : (c : Int) = w
      · rw [if_neg (by omega), if_pos (by omega), e]; omega
      · rw [h c (by omega) (by omega) e]
        by_cases q : w < (c : Int)
        · rw [if_pos q, if_pos (by omega)]; omega
        · rw [if_neg q, if_neg (by omega)]; omega
  have := key N.toNat (by omega)
  rw [show ((N.toNat : Nat) : Int) = N by omega, if_pos w1] at this
  exact this
theorem cnt_one {f f' : Int → Bool} {N w : Int} (w0 : 0 ≤ w) (w1 : w < N) (h : ∀ p, 0 ≤ p → p < N → p ≠ w → f' p = f p) : cntI f' N = cntI f N + (bi (f' w) - bi (f w)) :=
  sum_one (g := fun p => bi (f p)) (g' := fun p => bi (f' p)) w0 w1 (fun p a b c => by rw [h p a b c])
def wf (v : CV) (p : Int) : Bool := cWait v p (v 0 4)
def nW (v : CV) : Int := cntI (wf v) (v 0 1)
def wtL (v : CV) (j : Int) : Int := foldI (fun p a => if wf v p = true ∧ cntI (wf v) p = j then p else a) 0 (v 0 1)
def fos (O : Int → Int) (S : Int) : Int := foldI (fun s a => if O s < O a then s else a) 0 S
def gst (v : CV) (st : (Int → Int) × Int) (p : Int) : (Int → Int) × Int := if st.1 (fos st.1 (v 0 2)) < v 7 p then (fun i => if i = fos st.1 (v 0 2) then st.1 (fos st.1 (v 0 2)) + v 6 p else st.1 i, st.2 + st.1 (fos st.1 (v 0 2))) else (st.1, st.2 + v 7 p)
def lin (v : CV) (z k : Int) : Int := wtL v (dgt (nW v) z (nW v - 1 - k).toNat)
def gs (v : CV) (O : Int → Int) (u z p : Int) : (Int → Int) × Int := foldI (fun k st => gst v st (lin v z k)) (O, u) p
def perm (v : CV) (z : Int) : Prop := ∀ i j : Nat, i < j → (j : Int) < nW v → dgt (nW v) z i ≠ dgt (nW v) z j
def WS (v : CV) (O : Int → Int) (u m c L : Int) (b : Int → Int) : Prop := (L = m ∧ ∀ y, 0 ≤ y → y < c → ¬ perm v y) ∨ ∃ z, (0 ≤ z ∧ z < c) ∧ perm v z ∧ L = (gs v O u z (nW v)).2 ∧ (∀ k, 0 ≤ k → k < nW v → b k = lin v z k) ∧ ∀ y, 0 ≤ y → y < c → perm v y → L ≤ (gs v O u y (nW v)).2 ∧ ((gs v O u y (nW v)).2 = L → z ≤ y)
section P85
variable {v : CV} {O : Int → Int} {u m c c' L z : Int} {b b' : Int → Int}
theorem cnt_up {f : Int → Bool} {p q : Int} (h0 : 0 ≤ p) (h : p < q) (hf : f p = true) : cntI f p < cntI f q := by
  have a := cntI_far (f := f) (q - (p + 1)).toNat (p + 1) (by omega)
  rw [show p + 1 + ((q - (p + 1)).toNat : Int) = q by omega] at a
  rw [cntI_succ h0, hf] at a
  have : bi true = 1 := rfl
  omega
theorem wtL_rank {p : Int} (h0 : 0 ≤ p) (h1 : p < v 0 1) (hf : wf v p = true) : wtL v (cntI (wf v) p) = p := by
  have := foldI_inv (g := fun q a => if wf v q = true ∧ cntI (wf v) q = cntI (wf v) p then q else a) (a := (0 : Int)) (I := fun c a => p < c → a = p) (N := v 0 1) (fun q => absurd q (by omega)) (fun q x q0 q1 hI q2 => by
    by_cases e : q = p
    · subst e; rw [if_pos ⟨hf, rfl⟩]
    · rw [if_neg (fun z => by have := cnt_up h0 (show p < q by omega) hf; have := z.2; omega)]
      exact hI (by omega)) (v 0 1) (by omega) (Int.le_refl _)
  exact this h1
theorem cnt_ex {f : Int → Bool} : ∀ (N : Nat) (j : Int), 0 ≤ j → j < cntI f N → ∃ p, (0 ≤ p ∧ p < (N : Int)) ∧ f p = true ∧ cntI f p = j := by
  intro N
  induction N with
  | zero => intro j j0 j1; rw [show ((0 : Nat) : Int) = 0 from rfl, cntI_0] at j1; omega
  | succ N ih =>
    intro j j0 j1
    rw [show ((N + 1 : Nat) : Int) = (N : Int) + 1 by omega, cntI_succ (by omega)] at j1
    by_cases q : j < cntI f N
    · obtain ⟨p, p0, p1⟩ := ih j j0 q
      exact ⟨p, by omega, p1⟩
    · cases hf : f N
      · rw [hf] at j1; have : bi false = 0 := rfl; omega
      · rw [hf] at j1; have : bi true = 1 := rfl
        exact ⟨N, by omega, hf, by omega⟩
theorem wtL_ex (hn : 0 ≤ v 0 1) {j : Int} (j0 : 0 ≤ j) (j1 : j < nW v) : (0 ≤ wtL v j ∧ wtL v j < v 0 1) ∧ wf v (wtL v j) = true ∧ cntI (wf v) (wtL v j) = j := by
  have := cnt_ex (f := wf v) (v 0 1).toNat j j0 (by rw [show (((v 0 1).toNat : Nat) : Int) = v 0 1 by omega]; exact j1)
  rw [show (((v 0 1).toNat : Nat) : Int) = v 0 1 by omega] at this
  obtain ⟨p, p0, p1, p2⟩ := this
  have e := wtL_rank p0.1 p0.2 p1
  rw [p2] at e
  rw [e]
  exact ⟨p0, p1, p2⟩
theorem nW_rng (hn : 0 ≤ v 0 1 ∧ v 0 1 ≤ 6) : 0 ≤ nW v ∧ nW v ≤ 6 := by
  have := cntI_rng (f := wf v) (v 0 1) hn.1
  unfold nW; omega
theorem lin_ok (hn : 0 ≤ v 0 1) {k : Int} (k0 : 0 ≤ k) (k1 : k < nW v) : (0 ≤ lin v z k ∧ lin v z k < v 0 1) ∧ wf v (lin v z k) = true ∧ cntI (wf v) (lin v z k) = dgt (nW v) z (nW v - 1 - k).toNat := by
  have d := dgt_rng (B := nW v) (z := z) (m := (nW v - 1 - k).toNat) (by omega)
  exact wtL_ex hn d.1 d.2
theorem fos_ok {S : Int} (hS : 1 ≤ S) : (0 ≤ fos O S ∧ fos O S < S) ∧ ∀ s, 0 ≤ s → s < S → O (fos O S) ≤ O s := by
  have := foldI_inv (g := fun s a => if O s < O a then s else a) (a := (0 : Int)) (I := fun c a => (0 ≤ a ∧ (a < c ∨ (c = 0 ∧ a = 0))) ∧ ∀ s, 0 ≤ s → s < c → O a ≤ O s) (N := S) ⟨by omega, fun s a b => absurd b (by omega)⟩ (fun q x q0 q1 hI => by
    by_cases e : O q < O x
    · rw [if_pos e]
      refine ⟨by omega, fun s s0 s1 => ?_⟩
      by_cases h : s = q
      · rw [h]; exact Int.le_refl _
      · have := hI.2 s s0 (by omega); omega
    · rw [if_neg e]
      refine ⟨⟨hI.1.1, ?_⟩, fun s s0 s1 => ?_⟩
      · left
        rcases hI.1.2 with y | y
        · omega
        · omega
      · by_cases h : s = q
        · rw [h]; omega
        · exact hI.2 s s0 (by omega)) S (by omega) (Int.le_refl _)
  exact ⟨⟨this.1.1, by rcases this.1.2 with q | q; exact q; omega⟩, this.2⟩
def GI (v : CV) (O : Int → Int) : Prop := ∀ i, 0 ≤ i → i < v 0 2 → 0 ≤ O i ∧ O i ≤ 3000
theorem gst_rng {st : (Int → Int) × Int} {p : Int} (hS : 1 ≤ v 0 2) (hp : pOK v p) (h : GI v st.1) : GI v (gst v st p).1 ∧ st.2 ≤ (gst v st p).2 ∧ (gst v st p).2 ≤ st.2 + 99 := by
  have f := fos_ok (O := st.1) hS
  have g := h _ f.1.1 f.1.2
  have l := hp.2.2.2.1
  have t := hp.2.2.1
  unfold gst
  by_cases e : st.1 (fos st.1 (v 0 2)) < v 7 p
  · rw [if_pos e]
    refine ⟨fun i i0 i1 => ?_, ?_, ?_⟩
    · show 0 ≤ (if i = fos st.1 (v 0 2) then st.1 (fos st.1 (v 0 2)) + v 6 p else st.1 i) ∧ (if i = fos st.1 (v 0 2) then st.1 (fos st.1 (v 0 2)) + v 6 p else st.1 i) ≤ 3000
      split
      · omega
      · exact h i i0 i1
    · show st.2 ≤ st.2 + _; omega
    · show st.2 + _ ≤ st.2 + 99; omega
  · rw [if_neg e]
    refine ⟨h, ?_, ?_⟩
    · show st.2 ≤ st.2 + _; omega
    · show st.2 + _ ≤ st.2 + 99; omega
theorem gs_succ {p : Int} (h : 0 ≤ p) : gs v O u z (p + 1) = gst v (gs v O u z p) (lin v z p) := foldI_succ h
theorem gs_rng (hV : VC v) (hS : 1 ≤ v 0 2) (hO : GI v O) : ∀ p : Nat, (p : Int) ≤ nW v → GI v (gs v O u z p).1 ∧ u ≤ (gs v O u z p).2 ∧ (gs v O u z p).2 ≤ u + 99 * p := by
  intro p
  induction p with
  | zero => intro _; exact ⟨hO, Int.le_refl _, by show u ≤ _; omega⟩
  | succ p ih =>
    intro hp
    have a := ih (by omega)
    have l := lin_ok (v := v) (z := z) hV.2.1.1 (k := (p : Int)) (by omega) (by omega)
    have b := gst_rng (p := lin v z p) hS (hV.2.2.2.2.2 _ l.1.1 l.1.2) a.1
    rw [show ((p + 1 : Nat) : Int) = (p : Int) + 1 by omega, gs_succ (by omega)]
    exact ⟨b.1, by omega, by omega⟩
theorem gs_mono (hV : VC v) (hS : 1 ≤ v 0 2) (hO : GI v O) : ∀ (r p : Nat), ((p + r : Nat) : Int) ≤ nW v → (gs v O u z p).2 ≤ (gs v O u z ((p + r : Nat) : Int)).2 := by
  intro r
  induction r with
  | zero => intro p _; exact Int.le_refl _
  | succ r ih =>
    intro p hp
    have a := ih p (by omega)
    have g := gs_rng (u := u) (z := z) hV hS hO (p + r) (by omega)
    have l := lin_ok (v := v) (z := z) hV.2.1.1 (k := ((p + r : Nat) : Int)) (by omega) (by omega)
    have b := gst_rng (p := lin v z ((p + r : Nat) : Int)) hS (hV.2.2.2.2.2 _ l.1.1 l.1.2) g.1
    rw [show ((p + (r + 1) : Nat) : Int) = ((p + r : Nat) : Int) + 1 by omega, gs_succ (by omega)]
    omega
theorem WS.skip (h : WS v O u m c L b) (hy : ∀ y, 0 ≤ y → c ≤ y → y < c' → perm v y → L ≠ m ∧ L ≤ (gs v O u y (nW v)).2) (hc : c ≤ c') : WS v O u m c' L b := by
  rcases h with ⟨a1, a2⟩ | ⟨z, z0, z1, z2, z3, z4⟩
  · refine Or.inl ⟨a1, fun y y0 y1 py => ?_⟩
    by_cases e : y < c
    · exact a2 y y0 e py
    · exact (hy y y0 (by omega) y1 py).1 a1
  · refine Or.inr ⟨z, by omega, z1, z2, z3, fun y y0 y1 py => ?_⟩
    by_cases e : y < c
    · exact z4 y y0 e py
    · exact ⟨(hy y y0 (by omega) y1 py).2, fun _ => by omega⟩
theorem WS.leaf {q : Int} (h : WS v O u m q L b) (q0 : 0 ≤ q) (hp : perm v q) (hl : L = m ∨ (gs v O u q (nW v)).2 < L) (hm : ∀ z, (gs v O u z (nW v)).2 ≠ m) (hb : ∀ k, 0 ≤ k → k < nW v → b' k = lin v q k) : WS v O u m (q + 1) (gs v O u q (nW v)).2 b' := by
  refine Or.inr ⟨q, by omega, hp, rfl, hb, fun y y0 y1 py => ?_⟩
  by_cases e : y = q
  · subst e; exact ⟨Int.le_refl _, fun _ => Int.le_refl _⟩
  · rcases h with ⟨a1, a2⟩ | ⟨z, z0, z1, z2, z3, z4⟩
    · exact absurd py (a2 y y0 (by omega))
    · have := (z4 y y0 (by omega) py).1
      rcases hl with w | w
      · exact absurd (z2.symm.trans w) (hm z)
      · exact ⟨by omega, fun w2 => by omega⟩
theorem perm_ex (hn : 0 ≤ nW v) : ∃ z, (0 ≤ z ∧ z < nW v ^ (nW v).toNat) ∧ perm v z := by
  by_cases e : nW v = 0
  · refine ⟨0, ⟨Int.le_refl _, ?_⟩, fun i j _ hj => absurd hj (by omega)⟩
    rw [e]; decide
  · obtain ⟨z, z0, z1, z2⟩ := dg_ex (B := nW v) (by omega) (fun i => i) (nW v).toNat (fun i i0 i1 => by omega)
    refine ⟨z, ⟨z0, blk_lt (by omega) z1⟩, fun i j ij hj hd => ?_⟩
    have a := z2 (nW v - 1 - i) (by omega) (by omega)
    have b := z2 (nW v - 1 - j) (by omega) (by omega)
    rw [show (((nW v).toNat : Nat) : Int) - 1 - (nW v - 1 - (i : Int)) = (i : Int) by omega, Int.toNat_natCast] at a
    rw [show (((nW v).toNat : Nat) : Int) - 1 - (nW v - 1 - (j : Int)) = (j : Int) by omega, Int.toNat_natCast] at b
    omega
theorem WS.det {m' L' : Int} (h : WS v O u m c L b) (h' : WS v O u m' c L' b') (hex : ∃ z, (0 ≤ z ∧ z < c) ∧ perm v z) : L = L' ∧ (∀ k, 0 ≤ k → k < nW v → b k = b' k) ∧ ∃ z, L = (gs v O u z (nW v)).2 := by
  obtain ⟨y, y0, yp⟩ := hex
  rcases h with ⟨a1, a2⟩ | ⟨z, z0, z1, z2, z3, z4⟩
  · exact absurd yp (a2 y y0.1 y0.2)
  · rcases h' with ⟨a1, a2⟩ | ⟨w, w0, w1, w2, w3, w4⟩
    · exact absurd yp (a2 y y0.1 y0.2)
    · have p1 := z4 w w0.1 w0.2 w1
      have p2 := w4 z z0.1 z0.2 z1
      have e : L = L' := by omega
      have q1 := p1.2 (by omega)
      have q2 := p2.2 (by omega)
      have ez : z = w := by omega
      refine ⟨e, fun k k0 k1 => by rw [z3 k k0 k1, w3 k k0 k1, ez], z, z2⟩
end P85
