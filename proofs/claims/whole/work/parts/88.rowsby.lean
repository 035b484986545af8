/-! The reference: a row by a figure; the court by a row. -/
set_option maxRecDepth 20000 in
theorem s_X8_lines {E : Ex} {μ : Mem} {Q : Option Vl → Mem → Prop} {x1 x2 : Int}  (h : Gg E 0 M_X8_lines 10 [some (.inr 83), some (.inl x1), some (.inl x2), some (.inl 0), some (.inl x1), some (.inl (x2 - 1))] [] μ Q) : Cl E 0 M_X8_lines [.inr 83, .inl x1, .inl x2] μ Q := by
  show Gg E 0 M_X8_lines 0 [some (.inr 83), some (.inl x1), some (.inl x2), none, none, none] [] μ Q
  refine r_iconst (q := 1) (n := 0) DM_X8_lines_0 rfl ?_
  refine v_istoren (q := 2) (ls' := [some (.inr 83), some (.inl x1), some (.inl x2), some (.inl 0), none, none]) DM_X8_lines_1 rfl (by decide) rfl ?_
  refine r_iloadn (q := 3) DM_X8_lines_2 rfl rfl ?_
  refine v_istore (q := 5) (ls' := [some (.inr 83), some (.inl x1), some (.inl x2), some (.inl 0), some (.inl x1), none]) DM_X8_lines_3 rfl (by decide) rfl ?_
  refine r_iloadn (q := 6) DM_X8_lines_5 rfl rfl ?_
  refine r_iconst (q := 7) (n := 1) DM_X8_lines_6 rfl ?_
  refine r_isub (q := 8) DM_X8_lines_7 rfl ?_
  refine v_istore (q := 10) (ls' := [some (.inr 83), some (.inl x1), some (.inl x2), some (.inl 0), some (.inl x1), some (.inl (x2 - 1))]) DM_X8_lines_8 rfl (by decide) rfl ?_
  exact h
set_option maxRecDepth 20000 in
theorem s_X8_lines_10 {E : Ex} {μ : Mem} {Q : Option Vl → Mem → Prop} {x1 x2 x3 x4 x5 : Int}  (h : inR x5 ∧ (x5 < 0 → inR x3 ∧ inR ((jshl 1 x2) - 1) ∧ (x3 ≠ ((jshl 1 x2) - 1) → Q (some (.inl (bi false))) μ) ∧ (x3 = ((jshl 1 x2) - 1) → Q (some (.inl (bi true))) μ)) ∧ (¬ x5 < 0 → (inR x2 ∧ x2 ≠ 0) ∧ (0 ≤ (jrem x4 x2) ∧ (jrem x4 x2) < 6) ∧ (0 ≤ x5 ∧ x5 < 6) ∧ ∀ μ5 : Mem, μ5 = up μ 98 x5 (μ 97 (jrem x4 x2)) → (inR x2 ∧ x2 ≠ 0) ∧ (inR x2 ∧ x2 ≠ 0) ∧ Gg E 0 M_X8_lines 10 [some (.inr 83), some (.inl x1), some (.inl x2), some (.inl (jor x3 (jshl 1 (jrem x4 x2)))), some (.inl (jdiv x4 x2)), some (.inl (x5 + (-1)))] [] μ5 Q)) : Gg E 0 M_X8_lines 10 [some (.inr 83), some (.inl x1), some (.inl x2), some (.inl x3), some (.inl x4), some (.inl x5)] [] μ Q := by
  refine r_iload (q := 12) DM_X8_lines_10 rfl rfl ?_
  have i1 := h.1
  replace h := h.2
  refine r_iflt (q := 15) (t := 52) DM_X8_lines_12 rfl (by decide) ⟨i1, fun cc => ?_, fun cc => ?_⟩
  · replace h := h.1 cc
    refine r_iloadn (q := 53) DM_X8_lines_52 rfl rfl ?_
    refine r_iconst (q := 54) (n := 1) DM_X8_lines_53 rfl ?_
    refine r_iloadn (q := 55) DM_X8_lines_54 rfl rfl ?_
    refine r_ishl (q := 56) DM_X8_lines_55 rfl ?_
    refine r_iconst (q := 57) (n := 1) DM_X8_lines_56 rfl ?_
    refine r_isub (q := 58) DM_X8_lines_57 rfl ?_
    have i2 := h.1
    replace h := h.2
    have i3 := h.1
    replace h := h.2
    refine r_icne (q := 61) (t := 65) DM_X8_lines_58 rfl (by decide) ⟨⟨i2, i3⟩, fun cc => ?_, fun cc => ?_⟩
    · replace h := h.1 cc
      refine r_iconst (q := 66) (n := 0) DM_X8_lines_65 rfl ?_
      exact r_ret (v := some (.inl 0)) ⟨DM_X8_lines_66, Or.inr ⟨rfl, Or.inl rfl⟩⟩ h
    · replace h := h.2 cc
      refine r_iconst (q := 62) (n := 1) DM_X8_lines_61 rfl ?_
      refine r_goto (q := 66) DM_X8_lines_62 (by decide) ?_
      exact r_ret (v := some (.inl 1)) ⟨DM_X8_lines_66, Or.inr ⟨rfl, Or.inr rfl⟩⟩ h
  · replace h := h.2 cc
    refine r_aloadn (q := 16) DM_X8_lines_15 rfl rfl ?_
    refine r_getR (q := 19) (r := 98) DM_X8_lines_16 rfl fRX8_53 sh_83 rfl ?_
    refine r_iload (q := 21) DM_X8_lines_19 rfl rfl ?_
    refine r_aloadn (q := 22) DM_X8_lines_21 rfl rfl ?_
    refine r_getR (q := 25) (r := 97) DM_X8_lines_22 rfl fRX8_50 sh_83 rfl ?_
    refine r_iload (q := 27) DM_X8_lines_25 rfl rfl ?_
    refine r_iloadn (q := 28) DM_X8_lines_27 rfl rfl ?_
    refine r_irem (q := 29) DM_X8_lines_28 rfl h.1 ?_
    replace h := h.2
    refine r_iald (q := 30) DM_X8_lines_29 rfl sh_97 (by decide) ⟨h.1, ?_⟩
    have i4 := h.1
    replace h := h.2
    refine v_iast (q := 31) DM_X8_lines_30 rfl sh_98 (by decide) ⟨h.1, fun μ5 e5 => ?_⟩
    have i6 := h.1
    replace h := h.2 μ5 e5
    refine r_iloadn (q := 32) DM_X8_lines_31 rfl rfl ?_
    refine r_iconst (q := 33) (n := 1) DM_X8_lines_32 rfl ?_
    refine r_iload (q := 35) DM_X8_lines_33 rfl rfl ?_
    refine r_iloadn (q := 36) DM_X8_lines_35 rfl rfl ?_
    refine r_irem (q := 37) DM_X8_lines_36 rfl h.1 ?_
    replace h := h.2
    refine r_ishl (q := 38) DM_X8_lines_37 rfl ?_
    refine r_ior (q := 39) DM_X8_lines_38 rfl ?_
    refine v_istoren (q := 40) (ls' := [some (.inr 83), some (.inl x1), some (.inl x2), some (.inl (jor x3 (jshl 1 (jrem x4 x2)))), some (.inl x4), some (.inl x5)]) DM_X8_lines_39 rfl (by decide) rfl ?_
    refine r_iload (q := 42) DM_X8_lines_40 rfl rfl ?_
    refine r_iloadn (q := 43) DM_X8_lines_42 rfl rfl ?_
    refine r_idiv (q := 44) DM_X8_lines_43 rfl h.1 ?_
    replace h := h.2
    refine v_istore (q := 46) (ls' := [some (.inr 83), some (.inl x1), some (.inl x2), some (.inl (jor x3 (jshl 1 (jrem x4 x2)))), some (.inl (jdiv x4 x2)), some (.inl x5)]) DM_X8_lines_44 rfl (by decide) rfl ?_
    refine v_iinc (q := 49) (ls' := [some (.inr 83), some (.inl x1), some (.inl x2), some (.inl (jor x3 (jshl 1 (jrem x4 x2)))), some (.inl (jdiv x4 x2)), some (.inl (x5 + (-1)))]) DM_X8_lines_46 rfl rfl (by decide) rfl ?_
    refine r_goto (q := 10) DM_X8_lines_49 (by decide) ?_
    exact h
def anyN (g : Nat → Int) : Nat → Int → Bool
  | 0, _ => false
  | m + 1, j => anyN g m j || decide (g m = j)
theorem anyN_iff {g : Nat → Int} {j : Int} : ∀ m, anyN g m j = true ↔ ∃ i, i < m ∧ g i = j
  | 0 => ⟨fun h => by unfold anyN at h; exact absurd h (by decide), fun ⟨_, h, _⟩ => absurd h (by omega)⟩
  | m + 1 => by
    unfold anyN
    rw [Bool.or_eq_true, decide_eq_true_eq, anyN_iff m]
    constructor
    · rintro (⟨i, h1, h2⟩ | h)
      · exact ⟨i, by omega, h2⟩
      · exact ⟨m, by omega, h⟩
    · rintro ⟨i, h1, h2⟩
      by_cases e : i = m
      · subst e; exact Or.inr h2
      · exact Or.inl ⟨i, by omega, h2⟩
theorem any_pop {g : Nat → Int} {N : Int} : ∀ m : Nat, (∀ i, i < m → 0 ≤ g i ∧ g i < N) → cntI (anyN g m) N ≤ m ∧ (cntI (anyN g m) N = m ↔ ∀ i j, i < j → j < m → g i ≠ g j) := by
  intro m
  induction m with
  | zero =>
    intro _
    have : cntI (anyN g 0) N = 0 := by
      have h := foldI_inv (g := fun (_ : Int) (a : Int) => a + bi false) (a := (0 : Int)) (I := fun _ a => a = 0) (N := N) rfl (fun p x _ _ hx => by show x + 0 = 0; omega)
      by_cases hN : 0 ≤ N
      · exact h N hN (Int.le_refl _)
      · unfold cntI foldI
        rw [show N.toNat = 0 by omega]; rfl
    exact ⟨by omega, fun _ i j _ hj => absurd hj (by omega), fun _ => this⟩
  | succ m ih =>
    intro hg
    obtain ⟨h1, h2⟩ := ih (fun i hi => hg i (by omega))
    have gm := hg m (by omega)
    cases hb : anyN g m (g m)
    · have c : cntI (anyN g (m + 1)) N = cntI (anyN g m) N + (bi (anyN g (m + 1) (g m)) - bi (anyN g m (g m))) := cnt_one gm.1 gm.2 (fun p _ _ hp => by
        show (anyN g m p || decide (g m = p)) = anyN g m p
        rw [decide_eq_false (fun q => hp q.symm), Bool.or_false])
      have a : anyN g (m + 1) (g m) = true := by
        show (anyN g m (g m) || decide (g m = g m)) = true
        rw [decide_eq_true rfl, Bool.or_true]
      rw [a, hb] at c
      have : bi true = 1 := rfl
      have : bi false = 0 := rfl
      refine ⟨by omega, fun e i j ij jm => ?_, fun e => ?_⟩
      · by_cases ej : j = m
        · subst ej
          intro eq
          have := (anyN_iff (g := g) (j := g j) j).mpr ⟨i, ij, eq⟩
          rw [hb] at this
          exact absurd this (by decide)
        · exact h2.mp (by omega) i j ij (by omega)
      · have := h2.mpr (fun i j ij jm => e i j ij (by omega))
        omega
    · have c : cntI (anyN g (m + 1)) N = cntI (anyN g m) N := cntI_congr (fun p _ _ => by
        show (anyN g m p || decide (g m = p)) = anyN g m p
        by_cases e : g m = p
        · rw [← e, hb]; rfl
        · rw [decide_eq_false e, Bool.or_false])
      obtain ⟨i, hi, he⟩ := (anyN_iff m).mp hb
      exact ⟨by omega, fun e => absurd e (by omega), fun e => absurd he (e i m hi (by omega))⟩
theorem cnt_all {f : Int → Bool} {N : Int} (hN : 0 ≤ N) (h : ∀ l, 0 ≤ l → l < N → f l = true) : cntI f N = N := by
  have := foldI_inv (g := fun q a => a + bi (f q)) (a := (0 : Int)) (I := fun c a => a = c) (N := N) rfl (fun p x p0 p1 hx => by
    rw [h p p0 p1, hx]; rfl) N hN (Int.le_refl _)
  exact this
theorem full_bits : ∀ n, n < 7 → ∀ U, U < 64 → U < 2 ^ n → (U = 2 ^ n - 1 ↔ ∀ j, j < n → U.testBit j = true) := by decide +kernel
theorem one_shl : ∀ n, n < 7 → jshl 1 ((n : Nat) : Int) = ((2 ^ n : Nat) : Int) := by decide +kernel
section P88
variable {E : Ex} {v w : CV} {O : Int → Int} {u z x D : Int} {μ : Mem} {Q : Option Vl → Mem → Prop}
theorem perm_any (hn : 0 ≤ nW v) (hz : 0 ≤ z) : perm v z ↔ ∀ j, 0 ≤ j → j < nW v → anyN (fun i => dgt (nW v) z i) (nW v).toNat j = true := by
  by_cases e0 : nW v = 0
  · exact ⟨fun _ j j0 j1 => absurd j1 (by omega), fun _ i j _ hj => absurd hj (by omega)⟩
  have ap := any_pop (g := fun i => dgt (nW v) z i) (N := nW v) (nW v).toNat (fun i _ => dgt_rng (by omega))
  constructor
  · intro hp j j0 j1
    have := ap.2.mpr (fun i j ij hj => hp i j ij (by omega))
    exact cntI_full hn (by omega) j j0 j1
  · intro h i j ij hj
    have := cnt_all hn h
    exact ap.2.mp (by omega) i j ij (by omega)
theorem k_X8_lines (hV : VC v) (hz : 0 ≤ z ∧ z < 2147483648) (h97 : ∀ j, 0 ≤ j → j < nW v → μ 97 j = wtL v j) (h1 : ∀ μ1 : Mem, (∀ k, k ≠ 98 → μ1 k = μ k) → (∀ k, 0 ≤ k → k < nW v → μ1 98 k = lin v z k) → perm v z → Q (some (.inl (bi true))) μ1) (h2 : ∀ μ1 : Mem, (∀ k, k ≠ 98 → μ1 k = μ k) → ¬ perm v z → Q (some (.inl (bi false))) μ1) : Cl E 0 M_X8_lines [.inr 83, .inl z, .inl (nW v)] μ Q := by
  have n6 := nW_rng hV.2.1
  refine s_X8_lines ?_
  have key : ∀ (r m : Nat), m + r = (nW v).toNat → ∀ (μ' : Mem) (U : Nat), (∀ j, j ≠ 98 → μ' j = μ j) → (∀ k, nW v - m ≤ k → k < nW v → μ' 98 k = lin v z k) → U < 64 → U < 2 ^ (nW v).toNat → (∀ j, 0 ≤ j → j < nW v → U.testBit j.toNat = anyN (fun i => dgt (nW v) z i) m j) → Gg E 0 M_X8_lines 10 [some (.inr 83), some (.inl z), some (.inl (nW v)), some (.inl (U : Int)), some (.inl (z / nW v ^ m)), some (.inl (nW v - 1 - m))] [] μ' Q := by
    intro r
    induction r with
    | zero =>
      intro m hm μ' U k1 k2 hU hU2 hb
      have os := one_shl (nW v).toNat (by omega)
      rw [Int.toNat_of_nonneg n6.1] at os
      have fb := full_bits (nW v).toNat (by omega) U hU hU2
      have pp : 0 < 2 ^ (nW v).toNat := Nat.two_pow_pos _
      have pa := perm_any (v := v) (z := z) n6.1 hz.1
      have mm : m = (nW v).toNat := by omega
      rw [← mm] at pa
      have full : perm v z ↔ U = 2 ^ (nW v).toNat - 1 := by
        rw [pa, fb]
        constructor
        · intro a j hj
          have := hb (j : Int) (by omega) (by omega)
          rw [Int.toNat_natCast] at this
          rw [this]; exact a (j : Int) (by omega) (by omega)
        · intro a j j0 j1
          rw [← hb j j0 j1]
          exact a j.toNat (by omega)
      have p64 : 2 ^ (nW v).toNat ≤ 64 := Nat.pow_le_pow_right (n := 2) (by decide) (show (nW v).toNat ≤ 6 by omega)
      refine s_X8_lines_10 ⟨by omega, fun _ => ?_, fun z => absurd (by omega) z⟩
      rw [os]
      refine ⟨by omega, by omega, fun ne => h2 μ' k1 (fun p => ne ?_), fun eq => h1 μ' k1 (fun k a b => k2 k (by omega) b) (full.mpr ?_)⟩
      · have := full.mp p; omega
      · omega
    | succ r ih =>
      intro m hm μ' U k1 k2 hU hU2 hb
      have n0 : 0 < nW v := by omega
      have P0 : 0 < nW v ^ m := Int.pow_pos n0
      have a := Int.ediv_le_self (nW v ^ m) hz.1
      have b := Int.ediv_nonneg hz.1 (Int.le_of_lt P0)
      have jr : jrem (z / nW v ^ m) (nW v) = dgt (nW v) z m := jrem_pos b (by omega) n0 (by omega)
      have jd : jdiv (z / nW v ^ m) (nW v) = z / nW v ^ (m + 1) := by rw [jdiv_pos b (by omega) n0 (by omega), dv_succ n0]
      have dr := dgt_rng (B := nW v) (z := z) (m := m) n0
      have ba := bit_add U (by omega) (dgt (nW v) z m).toNat (by omega)
      rw [Int.toNat_of_nonneg dr.1] at ba
      refine s_X8_lines_10 ⟨by omega, fun q => absurd q (by omega), fun _ => ?_⟩
      rw [jr, jd, ba]
      refine ⟨⟨by omega, by omega⟩, by omega, by omega, fun μ5 e5 => ⟨⟨by omega, by omega⟩, ⟨by omega, by omega⟩, ?_⟩⟩
      have nx := ih (m + 1) (by omega) μ5 (U ||| 2 ^ (dgt (nW v) z m).toNat) (fun j hj => by rw [e5, up_ne hj, k1 j hj]) (fun k ka kb => ?_) (Nat.or_lt_two_pow (n := 6) hU (Nat.lt_of_le_of_lt (Nat.pow_le_pow_right (by decide) (show (dgt (nW v) z m).toNat ≤ 5 by omega)) (by decide))) (Nat.or_lt_two_pow hU2 (Nat.pow_lt_pow_right (by decide) (by omega))) (fun j j0 j1 => ?_)
      · rw [show nW v - 1 - ((m + 1 : Nat) : Int) = nW v - 1 - (m : Int) + (-1) by omega] at nx
        exact nx
      · rw [e5]
        by_cases e : k = nW v - 1 - m
        · rw [e, up_self, k1 97 (by decide), h97 _ dr.1 dr.2]
          unfold lin
          rw [show (nW v - 1 - (nW v - 1 - (m : Int))).toNat = m by omega]
        · rw [up_off (Or.inr e)]; exact k2 k (by omega) kb
      · rw [Nat.testBit_or, Nat.testBit_two_pow, hb j j0 j1]
        show _ = (anyN (fun i => dgt (nW v) z i) m j || decide (dgt (nW v) z m = j))
        congr 1
        by_cases e : dgt (nW v) z m = j
        · rw [decide_eq_true e, e, decide_eq_true rfl]
        · rw [decide_eq_false e, decide_eq_false (fun q => e (by omega))]
  have := key (nW v).toNat 0 (by omega) μ 0 (fun _ _ => rfl) (fun k a b => absurd b (by omega)) (by decide) (Nat.two_pow_pos _) (fun j _ _ => by rw [Nat.zero_testBit]; rfl)
  rw [Int.pow_zero, Int.ediv_one, show nW v - 1 - ((0 : Nat) : Int) = nW v - 1 by omega] at this
  exact this
def usd (v : CV) (z x p : Int) : Bool := anyN (fun i => lin v z (i : Int)) x.toNat p
def rst (v : CV) (z x : Int) : Int := foldI (fun p a => a + (if wf v p = true ∧ usd v z x p = false then v 7 p else 0)) 0 (v 0 1)
theorem lin_inj (hn : 0 ≤ v 0 1) (hp : perm v z) {i j : Int} (i0 : 0 ≤ i) (ij : i < j) (jn : j < nW v) : lin v z i ≠ lin v z j := by
  intro e
  have a := (lin_ok (v := v) (z := z) hn i0 (show i < nW v by omega)).2.2
  have b := (lin_ok (v := v) (z := z) hn (show 0 ≤ j by omega) jn).2.2
  rw [e, b] at a
  exact hp (nW v - 1 - j).toNat (nW v - 1 - i).toNat (by omega) (by omega) a
theorem usd_no (hn : 0 ≤ v 0 1) (hp : perm v z) (x0 : 0 ≤ x) (x1 : x < nW v) : usd v z x (lin v z x) = false := by
  cases h : usd v z x (lin v z x)
  · rfl
  · obtain ⟨i, hi, he⟩ := (anyN_iff x.toNat).mp h
    exact absurd he (lin_inj hn hp (by omega) (show (i : Int) < x by omega) x1)
theorem usd_succ {p : Int} (x0 : 0 ≤ x) : usd v z (x + 1) p = (usd v z x p || decide (lin v z x = p)) := by
  unfold usd
  rw [show (x + 1).toNat = x.toNat + 1 by omega]
  show (anyN _ x.toNat p || decide (lin v z ((x.toNat : Nat) : Int) = p)) = _
  rw [show ((x.toNat : Nat) : Int) = x by omega]
theorem rst_succ (hn : 0 ≤ v 0 1) (hp : perm v z) (x0 : 0 ≤ x) (x1 : x < nW v) : rst v z (x + 1) = rst v z x - v 7 (lin v z x) := by
  have lo := lin_ok (v := v) (z := z) hn x0 x1
  have := sum_one (g := fun p => if wf v p = true ∧ usd v z x p = false then v 7 p else 0) (g' := fun p => if wf v p = true ∧ usd v z (x + 1) p = false then v 7 p else 0) lo.1.1 lo.1.2 (fun p _ _ hq => by
    rw [usd_succ x0, decide_eq_false (fun q => hq q.symm), Bool.or_false])
  have no : ¬ (wf v (lin v z x) = true ∧ usd v z (x + 1) (lin v z x) = false) := fun q => by
    rw [usd_succ x0, decide_eq_true rfl, Bool.or_true] at q
    exact absurd q.2 (by decide)
  rw [if_neg no, if_pos ⟨lo.2.1, usd_no hn hp x0 x1⟩] at this
  unfold rst
  rw [this]
  omega
theorem rst_end (hV : VC v) (hz : 0 ≤ z) (hp : perm v z) : rst v z (nW v) = 0 := by
  have n6 := nW_rng hV.2.1
  have al : ∀ p, 0 ≤ p → p < v 0 1 → ¬ (wf v p = true ∧ usd v z (nW v) p = false) := fun p p0 p1 hq => by
    have j1 : cntI (wf v) p < nW v := cnt_up p0 p1 hq.1
    have j0 := (cntI_rng (f := wf v) p p0).1
    have := (perm_any n6.1 hz).mp hp (cntI (wf v) p) j0 j1
    obtain ⟨i, hi, he⟩ := (anyN_iff (nW v).toNat).mp this
    have lz : lin v z (nW v - 1 - i) = p := by
      unfold lin
      rw [show (nW v - 1 - (nW v - 1 - (i : Int))).toNat = i by omega, he]
      exact wtL_rank p0 p1 hq.1
    have : usd v z (nW v) p = true := (anyN_iff (nW v).toNat).mpr ⟨(nW v - 1 - i).toNat, by omega, by
      show lin v z (((nW v - 1 - (i : Int)).toNat : Nat) : Int) = p
      rw [show (((nW v - 1 - (i : Int)).toNat : Nat) : Int) = nW v - 1 - i by omega, lz]⟩
    rw [hq.2] at this
    exact absurd this (by decide)
  have := foldI_inv (g := fun p a => a + (if wf v p = true ∧ usd v z (nW v) p = false then v 7 p else 0)) (a := (0 : Int)) (I := fun _ a => a = 0) (N := v 0 1) rfl (fun p y p0 p1 hy => by
    rw [if_neg (al p p0 p1)]; omega) (v 0 1) hV.2.1.1 (Int.le_refl _)
  exact this
end P88
