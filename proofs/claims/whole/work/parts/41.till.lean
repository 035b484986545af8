/-! From open seat to open seat is day by day. -/
theorem cntI_pos {f : Int → Bool} {N : Int} (h : 0 < cntI f N) : ∃ p, 0 ≤ p ∧ p < N ∧ f p = true := by
  have key : ∀ n : Nat, 0 < cntI f n → ∃ p, 0 ≤ p ∧ p < (n : Int) ∧ f p = true := by
    intro n
    induction n with
    | zero => intro h; exact absurd (show (0 : Int) < 0 from h) (by decide)
    | succ n ih =>
      intro h
      have e : ((n + 1 : Nat) : Int) = (n : Int) + 1 := by omega
      rw [e, cntI_succ (by omega)] at h
      cases hf : f n
      · rw [hf, show bi false = 0 from rfl, Int.add_zero] at h
        obtain ⟨p, a, b, c⟩ := ih h
        exact ⟨p, a, by omega, c⟩
      · exact ⟨n, by omega, by omega, hf⟩
  rcases Int.le_total 0 N with hN | hN
  · have := key N.toNat (by rw [Int.toNat_of_nonneg hN]; exact h)
    rwa [Int.toNat_of_nonneg hN] at this
  · unfold cntI foldI at h
    rw [show N.toNat = 0 by omega] at h
    exact absurd (show (0 : Int) < 0 from h) (by decide)
/-- what the court must be that its seats are taken as told -/
def tOK (v : CV) : Prop := (0 ≤ v 0 1 ∧ v 0 1 ≤ 6) ∧ ∀ p, 0 ≤ p → p < v 0 1 → (1 ≤ v 6 p ∧ v 6 p ≤ 30) ∧ (v 8 p = -1000000 ∨ (1 ≤ v 8 p ∧ v 8 p ≤ 950000))
theorem tOK.seat {v : CV} {w d : Int} (h : tOK v) (hd : 1 ≤ d ∧ d ≤ 950000) : tOK (upv v 8 w d) := by
  refine ⟨h.1, fun p h1 h2 => ⟨(h.2 p h1 h2).1, ?_⟩⟩
  by_cases e : p = w
  · subst e; rw [upv_self]; exact Or.inr hd
  · rw [upv_i e]; exact (h.2 p h1 h2).2
theorem open_step {v : CV} {f : Int} (h : tOK v) (hs : 1 ≤ v 0 2) (hf : 0 ≤ f) (he : sv v f = v 0 2) : cOpen v f = cOpen v (f + 1) := by
  have hn := h.1.1
  obtain ⟨p0, a0, a1, a2⟩ := cntI_pos (f := fun p => cServ v p f) (N := v 0 1) (by unfold sv at he; omega)
  obtain ⟨s1, s2⟩ := soon_spec (v := v) (d := f) hn
  obtain ⟨t1, t2⟩ := soon_spec (v := v) (d := f + 1) hn
  have b0 := (h.2 p0 a0 a1)
  have l0 := s1 p0 a0 a1 a2
  rcases s2 with q | ⟨p1, c0, c1, c2, c3⟩
  · omega
  · have d2 := of_decide_eq_true c2
    have e1 : cOpen v f = cSoon v f := by unfold cOpen; rw [if_neg]; unfold sv at he; omega
    rw [e1]
    have mono : ∀ p, 0 ≤ p → p < v 0 1 → cServ v p (f + 1) = true → cServ v p f = true := fun p _ _ hp => serv_mono (by omega) hp
    by_cases hS : cSoon v f = f + 1
    · have lt : sv v (f + 1) < sv v f := cntI_lt c0 c1 (by unfold cServ; exact decide_eq_false (fun z => by have := z.2; omega)) c2 mono
      unfold cOpen
      rw [if_pos (by unfold sv at lt he; omega), hS]
    · have ge : sv v f ≤ sv v (f + 1) := cntI_le hn (fun p q0 q1 hp => by
        have := s1 p q0 q1 hp
        have hp' := of_decide_eq_true hp
        exact decide_eq_true ⟨hp'.1, by omega⟩)
      have e2 : cOpen v (f + 1) = cSoon v (f + 1) := by unfold cOpen; rw [if_neg]; unfold sv at ge he; omega
      rw [e2]
      have up1 : cSoon v (f + 1) ≤ cSoon v f := by
        have := t1 p1 c0 c1 (decide_eq_true ⟨d2.1, by omega⟩)
        omega
      rcases t2 with q | ⟨p2, g0, g1, g2, g3⟩
      · omega
      · have := s1 p2 g0 g1 (mono p2 g0 g1 g2)
        omega
theorem dayS_fuel {b d : Int} : ∀ (n : Nat) (v : CV) (L : List Int), tOK v → unc v ≤ n → d ≠ -1000000 → dayS b d n v L = dayS b d (n + 1) v L
  | 0, v, L, h, hu, hd => by
    have e : cFirst v d b = -1 := unc_first h.1.1 (by omega)
    rw [dayS, dayS, if_neg (fun z => z.1 e)]
  | n + 1, v, L, h, hu, hd => by
    rw [dayS, dayS]
    by_cases hc : cFirst v d b ≠ -1 ∧ sv v d < v 0 2
    · rw [if_pos hc, if_pos hc]
      rcases cFirst_can (v := v) (d := d) (b := b) h.1.1 with q | q
      · exact absurd q hc.1
      · have hw := (can_none q.2).1
        have hu2 := unc_seat q.1.1 q.1.2 hw hd
        have key : ∀ (n : Nat) (v : CV) (L : List Int), (0 ≤ v 0 1) → unc v ≤ n → dayS b d n v L = dayS b d (n + 1) v L := by
          intro n
          induction n with
          | zero =>
            intro v L h hu
            have e : cFirst v d b = -1 := unc_first h (by omega)
            rw [dayS, dayS, if_neg (fun z => z.1 e)]
          | succ n ih =>
            intro v L h hu
            rw [dayS, dayS]
            by_cases hc : cFirst v d b ≠ -1 ∧ sv v d < v 0 2
            · rw [if_pos hc, if_pos hc]
              rcases cFirst_can (v := v) (d := d) (b := b) h with q | q
              · exact absurd q hc.1
              · have hu2 := unc_seat q.1.1 q.1.2 (can_none q.2).1 hd
                exact ih _ _ h (by omega)
            · rw [if_neg hc, if_neg hc]
        exact key n _ _ h.1.1 (by omega)
    · rw [if_neg hc, if_neg hc]
theorem till_run {b e : Int} (he : e ≤ 900000) : ∀ (m n : Nat) (v : CV) (f : Int), f + m = e + 1 → 1 ≤ f → tOK v → 1 ≤ v 0 2 → sv v f ≤ v 0 2 → unc v ≤ n → tillN e b n v f = runD b m v f := by
  intro m
  induction m with
  | zero =>
    intro n v f hf h1 h hs hsv hu
    rw [runD]
    cases n with
    | zero => rfl
    | succ n =>
      have := cOpen_rng (v := v) (d := f) h.1.1 (by omega) (by omega)
      rw [tillN, if_neg (fun z => by have := z.1; omega)]
  | succ m ihm =>
    intro n
    induction n with
    | zero =>
      intro v f hf h1 h hs hsv hu
      rw [tillN, run_none _ _ _ h.1.1 (unc_first h.1.1 (by omega))]
    | succ n ihn =>
      intro v f hf h1 h hs hsv hu
      by_cases hl : sv v f < v 0 2
      · have eo : cOpen v f = f := by unfold cOpen; rw [if_pos (by unfold sv at hl; exact hl)]
        rw [tillN, eo]
        by_cases hfi : cFirst v f b = -1
        · rw [if_neg (fun z => z.2 hfi), run_none _ _ _ h.1.1 hfi]
        · rw [if_pos ⟨by omega, hfi⟩]
          rcases cFirst_can (v := v) (d := f) (b := b) h.1.1 with q | q
          · exact absurd q hfi
          · have hw := (can_none q.2).1
            have ht := (h.2 _ q.1.1 q.1.2).1
            have hu2 := unc_seat (d := f) q.1.1 q.1.2 hw (by omega)
            have hs2 := sv_seat (d := f) q.1.1 q.1.2 hw (by omega) ht.1
            have h2 := h.seat (w := cFirst v f b) (d := f) (by omega)
            have hun := cntI_rng (f := fun p => decide (v 8 p = -1000000)) (v 0 1) h.1.1
            rw [ihn (upv v 8 (cFirst v f b) f) f hf h1 h2 hs (by rw [hs2]; show sv v f + 1 ≤ v 0 2; omega) (by omega)]
            rw [runD, runD]
            congr 1
            have e7 : (dayS b f 7 v []).1 = (dayS b f 6 (upv v 8 (cFirst v f b) f) ([] ++ [cFirst v f b])).1 := by rw [dayS, if_pos ⟨hfi, hl⟩]
            rw [e7, dayS_fuel 6 _ _ h2 (by have := h.1.2; unfold unc at hu2 ⊢; omega) (by omega)]
            exact dayS_1 7 _ _ _
      · have he2 : sv v f = v 0 2 := by omega
        have ed : (dayS b f 7 v []).1 = v := by rw [dayS, if_neg (fun z => by have := z.2; omega)]
        rw [runD, ed, ← ihm (n + 1) v (f + 1) (by omega) (by omega) h hs ?_ hu]
        · rw [tillN, tillN, open_step h hs (by omega) he2]
        · have : sv v (f + 1) ≤ sv v f := cntI_le h.1.1 (fun p _ _ hp => serv_mono (by omega) hp)
          omega
def passN (b : Int) : Nat → CV → CV
  | 0, v => v
  | m + 1, v => passN b m (passV v b).1
theorem upv_upv {v : CV} {j : Nat} {i x y : Int} : upv (upv v j i x) j i y = upv v j i y := by
  funext a c
  unfold upv
  by_cases h : a = j ∧ c = i
  · rw [if_pos h, if_pos h]
  · rw [if_neg h, if_neg h, if_neg h]
theorem dayS_day {b d y : Int} : ∀ (n : Nat) (v : CV) (L : List Int), dayS b d n (upv v 0 4 y) L = (upv (dayS b d n v L).1 0 4 y, (dayS b d n v L).2)
  | 0, v, L => rfl
  | n + 1, v, L => by
    rw [dayS, dayS, first_day, sv_day]
    by_cases h : cFirst v d b ≠ -1 ∧ sv v d < v 0 2
    · rw [if_pos h, if_pos (show cFirst v d b ≠ -1 ∧ sv v d < upv v 0 4 y 0 2 from h), upv_comm (by decide), dayS_day n]
    · rw [if_neg h, if_neg (show ¬ (cFirst v d b ≠ -1 ∧ sv v d < upv v 0 4 y 0 2) from h)]
theorem runD_day {b y : Int} : ∀ (m : Nat) (v : CV) (f : Int), runD b m (upv v 0 4 y) f = upv (runD b m v f) 0 4 y
  | 0, v, f => rfl
  | m + 1, v, f => by rw [runD, runD, dayS_day, runD_day m]
theorem dayS_0 {b d : Int} : ∀ (n : Nat) (v : CV) (L : List Int) (j : Nat), j ≠ 8 → (dayS b d n v L).1 j = v j
  | 0, v, L, j, h => rfl
  | n + 1, v, L, j, h => by
    rw [dayS]
    split
    · rw [dayS_0 n _ _ j h, upv_ne h]
    · rfl
theorem runD_0 {b : Int} : ∀ (m : Nat) (v : CV) (f : Int) (j : Nat), j ≠ 8 → runD b m v f j = v j
  | 0, v, f, j, h => rfl
  | m + 1, v, f, j, h => by rw [runD, runD_0 m _ _ j h, dayS_0 7 _ _ j h]
theorem passN_run {b : Int} : ∀ (m : Nat) (v : CV), passN b m v = upv (runD b m v (v 0 4 + 1)) 0 4 (v 0 4 + m)
  | 0, v => by
    funext j i
    rw [passN, runD]
    unfold upv
    by_cases h : j = 0 ∧ i = 4
    · rw [if_pos h, h.1, h.2]; simp
    · rw [if_neg h]
  | m + 1, v => by
    rw [passN, passN_run m, passV_day, runD]
    simp only
    rw [upv_self, runD_day, upv_upv]
    congr 1
    omega
/-- what the class foretells till day e -/
theorem seats_run {v : CV} {b : Int} {m : Nat} (h : tOK v) (hs : 1 ≤ v 0 2) (hd : 0 ≤ v 0 4) (he : v 0 4 + m ≤ 900000) (hsv : sv v (v 0 4) ≤ v 0 2) : eqv (cSeats v (v 0 4 + m) b) (runD b m v (v 0 4 + 1)) := by
  unfold cSeats
  have e1 := till_eqv (e := v 0 4 + m) (b := b) (v 0 1).toNat (upv v 0 15 0) v (v 0 4 + 1) eqv.rf.up15
  have hu := cntI_rng (f := fun p => decide (v 8 p = -1000000)) (v 0 1) h.1.1
  have hsv2 : sv v (v 0 4 + 1) ≤ sv v (v 0 4) := cntI_le h.1.1 (fun p _ _ hp => serv_mono (by omega) hp)
  rw [till_run (b := b) he m (v 0 1).toNat v (v 0 4 + 1) (by omega) (by omega) h hs (by omega) (by unfold unc; omega)] at e1
  exact e1
