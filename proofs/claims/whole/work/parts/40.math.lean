/-! What the class foretells is what the days bring. -/
def eqv (v w : CV) : Prop := (∀ i, i ≤ 5 → v 0 i = w 0 i) ∧ ∀ j, 1 ≤ j → j ≤ 8 → v j = w j
theorem eqv.rf {v : CV} : eqv v v := ⟨fun _ _ => rfl, fun _ _ _ => rfl⟩
theorem eqv.symm {v w : CV} (h : eqv v w) : eqv w v := ⟨fun i hi => (h.1 i hi).symm, fun j h1 h2 => (h.2 j h1 h2).symm⟩
theorem eqv.trans {u v w : CV} (h : eqv u v) (k : eqv v w) : eqv u w := ⟨fun i hi => (h.1 i hi).trans (k.1 i hi), fun j h1 h2 => (h.2 j h1 h2).trans (k.2 j h1 h2)⟩
section EQ
variable {v w : CV}
theorem eqv.wait (h : eqv v w) : cWait v = cWait w := by funext p d; unfold cWait; rw [h.2 8 (by decide) (by decide), h.2 7 (by decide) (by decide)]
theorem eqv.serv (h : eqv v w) : cServ v = cServ w := by funext p d; unfold cServ; rw [h.2 8 (by decide) (by decide), h.2 6 (by decide) (by decide)]
theorem eqv.seat (h : eqv v w) : cSeat v = cSeat w := by funext p; unfold cSeat; rw [h.2 8 (by decide) (by decide)]
theorem eqv.state (h : eqv v w) : cState v = cState w := by funext p d; unfold cState; rw [h.2 8 (by decide) (by decide), h.2 7 (by decide) (by decide), h.2 6 (by decide) (by decide)]
theorem eqv.turn (h : eqv v w) : cTurn v = cTurn w := by funext d b; unfold cTurn; rw [h.1 3 (by decide)]
theorem eqv.read (h : eqv v w) : cRead v = cRead w := by funext p i; unfold cRead; rw [h.2 5 (by decide) (by decide), h.2 3 (by decide) (by decide), h.2 4 (by decide) (by decide)]
theorem eqv.place (h : eqv v w) : cPlace v = cPlace w := by funext l t; unfold cPlace; rw [h.2 2 (by decide) (by decide)]
theorem eqv.cmpF (h : eqv v w) {a b t : Int} : ∀ (n : Nat) (i : Int), cCmpF v a b t n i = cCmpF w a b t n i
  | 0, _ => by unfold cCmpF; rw [h.2 4 (by decide) (by decide)]
  | n + 1, i => by unfold cCmpF; rw [h.read, h.place, eqv.cmpF h n]
theorem eqv.bef (h : eqv v w) : cBef v = cBef w := by funext a b t; unfold cBef cCmp; rw [h.cmpF, h.2 3 (by decide) (by decide), h.2 4 (by decide) (by decide)]
theorem eqv.bits (h : eqv v w) : cBits v = cBits w := by funext p; unfold cBits; rw [h.2 5 (by decide) (by decide), h.2 4 (by decide) (by decide)]
theorem eqv.can (h : eqv v w) : cCan v = cCan w := by funext p d; unfold cCan; rw [h.wait, h.bits, h.1 5 (by decide)]
theorem eqv.first (h : eqv v w) : cFirst v = cFirst w := by funext d b; unfold cFirst; rw [h.can, h.bef, h.turn, h.1 1 (by decide)]
theorem eqv.last (h : eqv v w) : cLast v = cLast w := by funext x t; unfold cLast; rw [h.wait, h.bef, h.1 4 (by decide), h.1 1 (by decide)]
theorem eqv.soon (h : eqv v w) : cSoon v = cSoon w := by funext d; unfold cSoon; rw [h.serv, h.2 8 (by decide) (by decide), h.2 6 (by decide) (by decide), h.1 1 (by decide)]
theorem eqv.opn (h : eqv v w) : cOpen v = cOpen w := by funext d; unfold cOpen; rw [h.serv, h.soon, h.1 1 (by decide), h.1 2 (by decide)]
theorem eqv.sum (h : eqv v w) : cSum v = cSum w := by unfold cSum; rw [h.seat, h.2 8 (by decide) (by decide), h.2 7 (by decide) (by decide), h.1 1 (by decide)]
theorem eqv.vc (h : eqv v w) (hv : VC v) : VC w := VC_ext (fun i hi => (h.1 i hi).symm) (fun j h1 h2 => (h.2 j h1 (by omega)).symm) hv
theorem eqv.up {j : Nat} {i x : Int} (h : eqv v w) : eqv (upv v j i x) (upv w j i x) := by
  refine ⟨fun i' hi => ?_, fun j' h1 h2 => ?_⟩
  · unfold upv; rw [h.1 i' hi]
  · funext i'; unfold upv; rw [h.2 j' h1 h2]
theorem eqv.up9 {i x : Int} (h : eqv v w) : eqv (upv v 9 i x) w := ⟨fun i' hi => by rw [upv_ne (by decide)]; exact h.1 i' hi, fun j h1 h2 => by rw [upv_ne (by omega)]; exact h.2 j h1 h2⟩
theorem eqv.up15 {x : Int} (h : eqv v w) : eqv (upv v 0 15 x) w := ⟨fun i' hi => by rw [upv_i (by omega)]; exact h.1 i' hi, fun j h1 h2 => by rw [upv_ne (by omega)]; exact h.2 j h1 h2⟩
theorem eqv.tk : eqv (tkC v w) w := ⟨fun i hi => by unfold tkC; rw [if_pos (Or.inl ⟨rfl, hi⟩)], fun j h1 h2 => by funext i; unfold tkC; rw [if_pos (Or.inr ⟨h1, h2⟩)]⟩
end EQ
def tillN (e b : Int) : Nat → CV → Int → CV
  | 0, v, _ => v
  | n + 1, v, f => if cOpen v f ≤ e ∧ cFirst v (cOpen v f) b ≠ -1 then tillN e b n (upv v 8 (cFirst v (cOpen v f) b) (cOpen v f)) (cOpen v f) else v
theorem till_eqv {e b : Int} : ∀ (n : Nat) (v w : CV) (f : Int), eqv v w → eqv (cTill e b n v f) (tillN e b n w f)
  | 0, v, w, f, h => h
  | n + 1, v, w, f, h => by
    unfold cTill tillN
    rw [h.opn, h.first]
    split
    · exact till_eqv n _ _ _ (h.up.up9.up15)
    · exact h
def sv (v : CV) (d : Int) : Int := cntI (fun p => cServ v p d) (v 0 1)
theorem cServ_state {v : CV} {p d : Int} : cServ v p d = decide (cState v p d = 1) := by
  unfold cServ cState
  by_cases h : v 8 p = -1000000
  · rw [if_pos h, decide_eq_false (fun z => z.1 h), decide_eq_false]; split <;> omega
  · rw [if_neg h]
    by_cases h2 : d < v 8 p + v 6 p
    · rw [if_pos h2, decide_eq_true ⟨h, h2⟩]; rfl
    · rw [if_neg h2, decide_eq_false (fun z => h2 z.2)]; rfl
theorem srv_sv {v : CV} : srv v = sv v (v 0 4) := by unfold srv sv; simp only [cServ_state]
def dayS (b d : Int) : Nat → CV → List Int → CV × List Int
  | 0, v, L => (v, L)
  | n + 1, v, L => if cFirst v d b ≠ -1 ∧ sv v d < v 0 2 then dayS b d n (upv v 8 (cFirst v d b) d) (L ++ [cFirst v d b]) else (v, L)
theorem upv_comm {v : CV} {j j' : Nat} {i i' x x' : Int} (h : j ≠ j') : upv (upv v j i x) j' i' x' = upv (upv v j' i' x') j i x := by
  funext a b
  unfold upv
  by_cases h1 : a = j ∧ b = i
  · rw [if_pos h1]
    by_cases h2 : a = j' ∧ b = i'
    · exact absurd (h1.1.symm.trans h2.1) h
    · rw [if_neg h2, if_pos h1]
  · rw [if_neg h1, if_neg h1]
theorem cmpF_day {v : CV} {x a b t : Int} : ∀ (n : Nat) (i : Int), cCmpF (upv v 0 4 x) a b t n i = cCmpF v a b t n i
  | 0, _ => rfl
  | n + 1, i => by rw [cCmpF, cCmpF, cmpF_day n]; rfl
theorem bef_day {v : CV} {x : Int} : cBef (upv v 0 4 x) = cBef v := by funext a b t; unfold cBef cCmp; rw [cmpF_day]; rfl
theorem first_day {v : CV} {x : Int} : cFirst (upv v 0 4 x) = cFirst v := by funext d b; unfold cFirst; rw [bef_day]; rfl
theorem sv_day {v : CV} {x : Int} : sv (upv v 0 4 x) = sv v := rfl
theorem seatD_dayS {b d : Int} : ∀ (n : Nat) (v : CV) (L : List Int), seatD b n (upv v 0 4 d) L = (upv (dayS b d n v L).1 0 4 d, (dayS b d n v L).2)
  | 0, v, L => rfl
  | n + 1, v, L => by
    rw [seatD, dayS, srv_sv, upv_self, first_day, sv_day]
    by_cases h : cFirst v d b ≠ -1 ∧ sv v d < v 0 2
    · rw [if_pos h, if_pos (show cFirst v d b ≠ -1 ∧ sv v d < upv v 0 4 d 0 2 from h), upv_comm (by decide), seatD_dayS n]
    · rw [if_neg h, if_neg (show ¬ (cFirst v d b ≠ -1 ∧ sv v d < upv v 0 4 d 0 2) from h)]
theorem passV_day {v : CV} {b : Int} : passV v b = (upv (dayS b (v 0 4 + 1) 7 v []).1 0 4 (v 0 4 + 1), (dayS b (v 0 4 + 1) 7 v []).2) := seatD_dayS 7 v []
def runD (b : Int) : Nat → CV → Int → CV
  | 0, v, _ => v
  | m + 1, v, f => runD b m (dayS b f 7 v []).1 (f + 1)
def unc (v : CV) : Int := cntI (fun p => decide (v 8 p = -1000000)) (v 0 1)
theorem dayS_1 {b d : Int} : ∀ (n : Nat) (v : CV) (L L' : List Int), (dayS b d n v L).1 = (dayS b d n v L').1
  | 0, v, L, L' => rfl
  | n + 1, v, L, L' => by
    rw [dayS, dayS]
    split
    · exact dayS_1 n _ _ _
    · rfl
theorem first_none {v : CV} {d b : Int} (hn : 0 ≤ v 0 1) : cFirst v d b = -1 ↔ ∀ p, 0 ≤ p → p < v 0 1 → cCan v p d = false := by
  constructor
  · intro h p hp0 hp1
    have key : ∀ n : Nat, (n : Int) ≤ v 0 1 → foldN (fun p a => if cCan v p d = true ∧ (a = -1 ∨ cBef v p a (cTurn v d b) = true) then p else a) (-1) n = -1 → ∀ p, 0 ≤ p → p < (n : Int) → cCan v p d = false := by
      intro n
      induction n with
      | zero => intro _ _ p h1 h2; omega
      | succ n ih =>
        intro hn h p h1 h2
        rw [foldN] at h
        by_cases hc : cCan v n d = true ∧ (foldN (fun p a => if cCan v p d = true ∧ (a = -1 ∨ cBef v p a (cTurn v d b) = true) then p else a) (-1) n = -1 ∨ cBef v n (foldN (fun p a => if cCan v p d = true ∧ (a = -1 ∨ cBef v p a (cTurn v d b) = true) then p else a) (-1) n) (cTurn v d b) = true)
        · rw [if_pos hc] at h; omega
        · rw [if_neg hc] at h
          by_cases hp : p = n
          · subst hp
            cases hq : cCan v n d
            · rfl
            · exact absurd ⟨hq, Or.inl h⟩ hc
          · exact ih (by omega) h p h1 (by omega)
    have := key (v 0 1).toNat (by omega) h p hp0 (by omega)
    exact this
  · intro h
    rcases cFirst_can (v := v) (d := d) (b := b) hn with q | q
    · exact q
    · have := h _ q.1.1 q.1.2
      rw [q.2] at this
      cases this
theorem unc_seat {v : CV} {w d : Int} (h0 : 0 ≤ w) (h1 : w < v 0 1) (hw : v 8 w = -1000000) (hd : d ≠ -1000000) : unc (upv v 8 w d) = unc v - 1 := by
  unfold unc
  show cntI (fun p => decide (upv v 8 w d 8 p = -1000000)) (v 0 1) = _
  exact cntI_flip h0 h1 (decide_eq_true hw) (by rw [upv_self]; exact decide_eq_false hd) (fun p _ _ hp => by rw [upv_i hp])
theorem can_none {v : CV} {p d : Int} (h : cCan v p d = true) : v 8 p = -1000000 ∧ d < v 7 p := of_decide_eq_true (cCan_wait h)
theorem unc_first {v : CV} {d b : Int} (hn : 0 ≤ v 0 1) (h : unc v ≤ 0) : cFirst v d b = -1 := by
  rcases cFirst_can (v := v) (d := d) (b := b) hn with q | q
  · exact q
  · exfalso
    have hw := (can_none q.2).1
    have r := unc_seat (d := 0) q.1.1 q.1.2 hw (by decide)
    have r2 := cntI_rng (f := fun p => decide (upv v 8 (cFirst v d b) 0 8 p = -1000000)) (v 0 1) hn
    unfold unc at h r
    have e : upv v 8 (cFirst v d b) 0 0 1 = v 0 1 := rfl
    rw [e] at r
    omega
theorem sv_seat {v : CV} {w d : Int} (h0 : 0 ≤ w) (h1 : w < v 0 1) (hw : v 8 w = -1000000) (hd : d ≠ -1000000) (ht : 1 ≤ v 6 w) : sv (upv v 8 w d) d = sv v d + 1 := by
  unfold sv
  show cntI (fun p => cServ (upv v 8 w d) p d) (v 0 1) = _
  have := cntI_flip (f := fun p => cServ (upv v 8 w d) p d) (g := fun p => cServ v p d) h0 h1 (by
    unfold cServ; rw [upv_self, upv_ne (by decide)]; exact decide_eq_true ⟨hd, by omega⟩) (by unfold cServ; exact decide_eq_false (fun z => z.1 hw)) (fun p _ _ hp => by unfold cServ; rw [upv_i hp]; rfl)
  omega
theorem cntI_le {f g : Int → Bool} {N : Int} (hN : 0 ≤ N) (h : ∀ p, 0 ≤ p → p < N → f p = true → g p = true) : cntI f N ≤ cntI g N := by
  have key : ∀ n : Nat, (n : Int) ≤ N → cntI f n ≤ cntI g n := by
    intro n
    induction n with
    | zero => intro _; exact Int.le_refl _
    | succ n ih =>
      intro hn
      have e : ((n + 1 : Nat) : Int) = (n : Int) + 1 := by omega
      rw [e, cntI_succ (by omega), cntI_succ (by omega)]
      have := ih (by omega)
      have := h n (by omega) (by omega)
      cases hf : f n
      · have := bi_01 (g n); have : bi false = 0 := rfl; omega
      · rw [this hf]; omega
  have := key N.toNat (by omega)
  rwa [Int.toNat_of_nonneg hN] at this
theorem cntI_lt {f g : Int → Bool} {N w : Int} (h0 : 0 ≤ w) (h1 : w < N) (hf : f w = false) (hg : g w = true) (h : ∀ p, 0 ≤ p → p < N → f p = true → g p = true) : cntI f N < cntI g N := by
  have a := cntI_flip (f := g) (g := fun p => if p = w then false else g p) h0 h1 hg (if_pos rfl) (fun p _ _ hp => if_neg hp)
  have b := cntI_le (f := f) (g := fun p => if p = w then false else g p) (N := N) (by omega) (fun p q0 q1 hp => by
    show (if p = w then false else g p) = true
    by_cases e : p = w
    · subst e; rw [hf] at hp; cases hp
    · rw [if_neg e]; exact h p q0 q1 hp)
  omega
theorem serv_mono {v : CV} {p d d' : Int} (h : d ≤ d') (hs : cServ v p d' = true) : cServ v p d = true := by
  have := of_decide_eq_true hs
  exact decide_eq_true ⟨this.1, by omega⟩
theorem can_mono {v : CV} {p d d' : Int} (h : d ≤ d') (hs : cCan v p d' = true) : cCan v p d = true := by
  unfold cCan at hs ⊢
  rw [Bool.and_eq_true] at hs ⊢
  exact ⟨decide_eq_true ⟨(of_decide_eq_true hs.1).1, by have := (of_decide_eq_true hs.1).2; omega⟩, hs.2⟩
theorem first_later {v : CV} {d d' b : Int} (hn : 0 ≤ v 0 1) (h : d ≤ d') (hf : cFirst v d b = -1) : cFirst v d' b = -1 := by
  rw [first_none hn] at hf ⊢
  intro p h1 h2
  cases hq : cCan v p d'
  · rfl
  · have := hf p h1 h2
    rw [can_mono h hq] at this
    cases this
theorem run_none {b : Int} : ∀ (m : Nat) (v : CV) (f : Int), 0 ≤ v 0 1 → cFirst v f b = -1 → runD b m v f = v
  | 0, _, _, _, _ => rfl
  | m + 1, v, f, hn, h => by
    rw [runD, dayS, if_neg (fun z => z.1 h)]
    exact run_none m v (f + 1) hn (first_later hn (by omega) h)
/-- the soonest day on which one of those who serve is free -/
theorem soon_spec {v : CV} {d : Int} (hn : 0 ≤ v 0 1) : (∀ p, 0 ≤ p → p < v 0 1 → cServ v p d = true → cSoon v d ≤ v 8 p + v 6 p) ∧ (cSoon v d = 1000000 ∨ ∃ p, 0 ≤ p ∧ p < v 0 1 ∧ cServ v p d = true ∧ cSoon v d = v 8 p + v 6 p) := by
  have key : ∀ n : Nat, (∀ p, 0 ≤ p → p < (n : Int) → cServ v p d = true → foldN (fun p a => if cServ v p d = true then (if v 8 p + v 6 p < a then v 8 p + v 6 p else a) else a) 1000000 n ≤ v 8 p + v 6 p) ∧ (foldN (fun p a => if cServ v p d = true then (if v 8 p + v 6 p < a then v 8 p + v 6 p else a) else a) 1000000 n = 1000000 ∨ ∃ p, 0 ≤ p ∧ p < (n : Int) ∧ cServ v p d = true ∧ foldN (fun p a => if cServ v p d = true then (if v 8 p + v 6 p < a then v 8 p + v 6 p else a) else a) 1000000 n = v 8 p + v 6 p) := by
    intro n
    induction n with
    | zero => exact ⟨fun p h1 h2 => by omega, Or.inl rfl⟩
    | succ n ih =>
      rw [foldN]
      obtain ⟨i1, i2⟩ := ih
      generalize foldN (fun p a => if cServ v p d = true then (if v 8 p + v 6 p < a then v 8 p + v 6 p else a) else a) 1000000 n = x at i1 i2 ⊢
      by_cases hs : cServ v n d = true
      · rw [if_pos hs]
        refine ⟨fun p h1 h2 h3 => ?_, ?_⟩
        · by_cases hp : p = n
          · subst hp; split <;> omega
          · have := i1 p h1 (by omega) h3; split <;> omega
        · by_cases hx : v 8 n + v 6 n < x
          · rw [if_pos hx]; exact Or.inr ⟨n, by omega, by omega, hs, rfl⟩
          · rw [if_neg hx]
            rcases i2 with q | ⟨p, q0, q1, q2, q3⟩
            · exact Or.inl q
            · exact Or.inr ⟨p, q0, by omega, q2, q3⟩
      · rw [if_neg hs]
        refine ⟨fun p h1 h2 h3 => ?_, ?_⟩
        · by_cases hp : p = n
          · subst hp; exact absurd h3 hs
          · exact i1 p h1 (by omega) h3
        · rcases i2 with q | ⟨p, q0, q1, q2, q3⟩
          · exact Or.inl q
          · exact Or.inr ⟨p, q0, by omega, q2, q3⟩
  have := key (v 0 1).toNat
  rw [Int.toNat_of_nonneg hn] at this
  exact this
