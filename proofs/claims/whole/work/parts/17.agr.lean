/-! Memories that agree in all places that there are. -/
def agr (μ μ' : Mem) : Prop := ∀ (k : Nat) (i : Int), k < 100 → 0 ≤ i → i < ((shp k).2.1 : Nat) → μ k i = μ' k i
theorem arrV_congr {c : ClassId} {n : Nat} {f g : Nat → Value} (h : ∀ j, j < n → f j = g j) : arrV c n f = arrV c n g := by
  have e : Array.ofFn (fun i : Fin n => f i) = Array.ofFn (fun i : Fin n => g i) := by
    congr 1
    funext i
    exact h i i.isLt
  unfold arrV
  simp only [e]
theorem fl_agr {E : Ex} {μ μ' : Mem} {k n : Nat} (h : ∀ i : Int, 0 ≤ i → i < n → μ k i = μ' k i) : ∀ (rs : List Nat) (j : Nat), j + rs.length ≤ n → fl E μ k j rs = fl E μ' k j rs
  | [], _, _ => rfl
  | r :: t, j, hj => by
    rw [List.length_cons] at hj
    rw [fl, fl, fl_agr h t (j + 1) (by omega), h j (by omega) (by omega)]
theorem shp_obj : ∀ k, k < 100 → 4 ≤ (shp k).1 → (shp k).2.2.length ≤ (shp k).2.1 := by decide +kernel
theorem va_at_agr {E : Ex} {μ μ' : Mem} {k : Nat} {H : Heap} (hk : k < 100) (h : agr μ μ') (ha : va_at (eD E) vwCl (eA E k, ent E μ k) H) : va_at (eD E) vwCl (eA E k, ent E μ' k) H := by
  have hh := fun i => h k i hk
  have ho := shp_obj k hk
  unfold ent at ha ⊢
  generalize shp k = s at *
  obtain ⟨t, n, rs⟩ := s
  match t with
  | 0 =>
    have e : vp_cell (eK E 0) (n, .inl (fun j => Int32.ofInt (μ k (j : Nat)))) = vp_cell (eK E 0) (n, .inl (fun j => Int32.ofInt (μ' k (j : Nat)))) := by
      rw [vp_cell_i, vp_cell_i]
      exact arrV_congr fun j hj => by rw [hh j (by omega) (by simpa using hj)]
    exact ha.trans (congrArg some e)
  | 1 =>
    have e : vp_cell (eK E 1) (n, .inl (fun j => Int32.ofInt (μ k (j : Nat)))) = vp_cell (eK E 1) (n, .inl (fun j => Int32.ofInt (μ' k (j : Nat)))) := by
      rw [vp_cell_i, vp_cell_i]
      exact arrV_congr fun j hj => by rw [hh j (by omega) (by simpa using hj)]
    exact ha.trans (congrArg some e)
  | 2 => exact ha
  | 3 => exact ha
  | t + 4 =>
    simp only at ha ⊢
    rw [← fl_agr (n := n) (fun i h1 h2 => hh i h1 h2) rs 0 (by have := ho (by simp); simp only at this; omega)]
    exact ha
theorem va_P_agr {E : Ex} {μ μ' : Mem} {H : Heap} (h : agr μ μ') (hP : va_P (eD E) vwCl (wl E μ) H) : va_P (eD E) vwCl (wl E μ') H := by
  intro k q hq
  obtain ⟨hk, rfl⟩ := wl_some hq
  exact va_at_agr hk h (hP k _ (wl_at hk))
theorem Gg.agr {E : Ex} {d : Nat} {y : Mth} {pc : Nat} {ls : List (Option Vl)} {st : List Vl} {μ μ' : Mem} {Q : Option Vl → Mem → Prop} (h : agr μ μ') (k : Gg E d y pc ls st μ' Q) : Gg E d y pc ls st μ Q := by
  intro p e R s m args below meth c H locs cells slots lsA QQ C hP hS hl hr
  exact k p e R s m args below meth c H locs cells slots lsA QQ C (va_P_agr h hP) hS hl hr
theorem Cl.agr {E : Ex} {d : Nat} {y : Mth} {as : List Vl} {μ : Mem} {Q : Option Vl → Mem → Prop} (k : Cl E d y as μ (fun v μ' => ∃ μ'', agr μ' μ'' ∧ Q v μ'')) : Cl E d y as μ Q := by
  intro p e R s m args below meth c H locs cells slots lsA QQ C hP hS hl hr
  refine k p e R s m args below meth c H locs cells slots lsA QQ C hP hS hl (fun v μ' H' locs' pc' ls' hq hP' hS' hv => ?_)
  obtain ⟨μ'', ha, hq⟩ := hq
  exact hr v μ'' H' locs' pc' ls' hq (va_P_agr ha hP') hS' hv
theorem agr.rfl' {μ : Mem} : agr μ μ := fun _ _ _ _ _ => rfl
/-! Loops that count up, and what they gather. -/
theorem up_ind {N : Int} {P : Int → Prop} (p0 : Int) (h0 : p0 ≤ N) (he : P N) (hs : ∀ p, p0 ≤ p → p < N → P (p + 1) → P p) : P p0 := by
  have key : ∀ (n : Nat) (p : Int), p0 ≤ p → p + n = N → P p := by
    intro n
    induction n with
    | zero => intro p _ h; rw [show p = N by omega]; exact he
    | succ n ih => intro p h1 h2; exact hs p h1 (by omega) (ih (p + 1) (by omega) (by omega))
  exact key (N - p0).toNat p0 (Int.le_refl _) (by omega)
def foldN {α : Type} (g : Int → α → α) (a : α) : Nat → α
  | 0 => a
  | n + 1 => g n (foldN g a n)
def foldI {α : Type} (g : Int → α → α) (a : α) (p : Int) : α := foldN g a p.toNat
theorem foldI_0 {α : Type} {g : Int → α → α} {a : α} : foldI g a 0 = a := rfl
theorem foldI_succ {α : Type} {g : Int → α → α} {a : α} {p : Int} (h : 0 ≤ p) : foldI g a (p + 1) = g p (foldI g a p) := by
  unfold foldI
  rw [show (p + 1).toNat = p.toNat + 1 by omega, foldN, Int.toNat_of_nonneg h]
theorem foldI_inv {α : Type} {g : Int → α → α} {a : α} {I : Int → α → Prop} {N : Int} (h0 : I 0 a) (hs : ∀ p x, 0 ≤ p → p < N → I p x → I (p + 1) (g p x)) : ∀ p, 0 ≤ p → p ≤ N → I p (foldI g a p) := by
  have key : ∀ n : Nat, (n : Int) ≤ N → I n (foldN g a n) := by
    intro n
    induction n with
    | zero => intro _; exact h0
    | succ n ih => intro h; exact hs n _ (by omega) (by omega) (ih (by omega))
  intro p h1 h2
  have := key p.toNat (by omega)
  rwa [Int.toNat_of_nonneg h1] at this
theorem foldI_congr {α : Type} {g g' : Int → α → α} {a : α} {N : Int} (h : ∀ p x, 0 ≤ p → p < N → g p x = g' p x) : foldI g a N = foldI g' a N := by
  have key : ∀ n : Nat, (n : Int) ≤ N → foldN g a n = foldN g' a n := by
    intro n
    induction n with
    | zero => intro _; rfl
    | succ n ih => intro hn; rw [foldN, foldN, ih (by omega), h n _ (by omega) (by omega)]
  rcases Int.le_total 0 N with h1 | h1
  · exact key N.toNat (by omega)
  · unfold foldI
    rw [show N.toNat = 0 by omega]
    rfl
def cntI (f : Int → Bool) (p : Int) : Int := foldI (fun q a => a + bi (f q)) 0 p
theorem cntI_0 {f : Int → Bool} : cntI f 0 = 0 := rfl
theorem cntI_succ {f : Int → Bool} {p : Int} (h : 0 ≤ p) : cntI f (p + 1) = cntI f p + bi (f p) := foldI_succ h
theorem cntI_congr {f g : Int → Bool} {N : Int} (h : ∀ p, 0 ≤ p → p < N → f p = g p) : cntI f N = cntI g N := foldI_congr fun p x h1 h2 => by rw [h p h1 h2]
theorem cntI_rng {f : Int → Bool} : ∀ p, 0 ≤ p → 0 ≤ cntI f p ∧ cntI f p ≤ p := fun p hp =>
  foldI_inv (I := fun p x => 0 ≤ x ∧ x ≤ p) (N := p) (by omega) (fun p x h1 _ h => by have := bi_01 (f p); omega) p hp (Int.le_refl p)
