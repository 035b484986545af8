/-! A court is read: the outcome of the reference from each of its points; the law. -/
set_option maxRecDepth 20000 in
theorem s_X4_readLaw {E : Ex} {μ : Mem} {Q : Option Vl → Mem → Prop}  (h : Cl E 2 M_X4_passOver [.inr 2, .inl 119] μ (fun vv μ1 => ∃ v2, vv = some (.inl (bi v2)) ∧ (v2 = false → Q (some (.inl (bi false))) μ1) ∧ (v2 = true → Cl E 1 M_X4_isNumberIn [.inr 2, .inl 1, .inl 4] μ1 (fun vv μ3 => ∃ v4, vv = some (.inl (bi v4)) ∧ (v4 = true → Cl E 2 M_X4_takeNumber [.inr 2] μ3 (fun vv μ5 => ∃ v6, vv = some (.inl v6) ∧ ∀ μ7 : Mem, μ7 = up μ5 14 2 v6 → Cl E 2 M_X4_passOver [.inr 2, .inl 44] μ7 (fun vv μ8 => ∃ v9, vv = some (.inl (bi v9)) ∧ (v9 = false → Q (some (.inl (bi false))) μ8) ∧ (v9 = true → Cl E 1 M_X4_isNumberIn [.inr 2, .inl 0, .inl 30] μ8 (fun vv μ10 => ∃ v11, vv = some (.inl (bi v11)) ∧ (v11 = true → Cl E 2 M_X4_takeNumber [.inr 2] μ10 (fun vv μ12 => ∃ v13, vv = some (.inl v13) ∧ ∀ μ14 : Mem, μ14 = up μ12 14 3 v13 → Cl E 2 M_X4_passOver [.inr 2, .inl 59] μ14 (fun vv μ15 => ∃ v16, vv = some (.inl (bi v16)) ∧ Q (some (.inl (bi v16))) μ15))) ∧ (v11 = false → Q (some (.inl (bi false))) μ10)))))) ∧ (v4 = false → Q (some (.inl (bi false))) μ3))))) : Cl E 3 M_X4_readLaw [.inr 2, .inr 14] μ Q := by
  show Gg E 3 M_X4_readLaw 0 [some (.inr 2), some (.inr 14)] [] μ Q
  refine r_aloadn (q := 1) DM_X4_readLaw_0 rfl rfl ?_
  refine r_bipush (q := 3) (n := 119) DM_X4_readLaw_1 rfl (by decide) ?_
  refine r_callVi [.inl 119] (q := 6) DM_X4_readLaw_3 rfl kM_X4_passOver lRX4_40 sh_2 rfl rfl (by decide) (Nat.le_of_ble_eq_true rfl) rfl (Cl.imp h (fun vv μ1 h => ?_))
  obtain ⟨v2, hv, h⟩ := h
  refine ⟨_, hv, ?_⟩
  refine r_bbeq (q := 9) (t := 18) DM_X4_readLaw_6 rfl (by decide) ⟨fun cc => ?_, fun cc => ?_⟩
  · replace h := h.1 cc
    refine r_iconst (q := 19) (n := 0) DM_X4_readLaw_18 rfl ?_
    exact r_ret (v := some (.inl 0)) ⟨DM_X4_readLaw_19, Or.inr ⟨rfl, Or.inl rfl⟩⟩ h
  · replace h := h.2 cc
    refine r_aloadn (q := 10) DM_X4_readLaw_9 rfl rfl ?_
    refine r_iconst (q := 11) (n := 1) DM_X4_readLaw_10 rfl ?_
    refine r_iconst (q := 12) (n := 4) DM_X4_readLaw_11 rfl ?_
    refine r_callVi [.inl 1, .inl 4] (q := 15) DM_X4_readLaw_12 rfl kM_X4_isNumberIn lRX4_44 sh_2 rfl rfl (by decide) (Nat.le_of_ble_eq_true rfl) rfl (Cl.imp h (fun vv μ3 h => ?_))
    obtain ⟨v4, hv, h⟩ := h
    refine ⟨_, hv, ?_⟩
    refine r_bbne (q := 18) (t := 20) DM_X4_readLaw_15 rfl (by decide) ⟨fun cc => ?_, fun cc => ?_⟩
    · replace h := h.1 cc
      refine r_aloadn (q := 21) DM_X4_readLaw_20 rfl rfl ?_
      refine r_aloadn (q := 22) DM_X4_readLaw_21 rfl rfl ?_
      refine r_callVi [] (q := 25) DM_X4_readLaw_22 rfl kM_X4_takeNumber lRX4_48 sh_2 rfl rfl (by decide) (Nat.le_of_ble_eq_true rfl) rfl (Cl.imp h (fun vv μ5 h => ?_))
      obtain ⟨v6, hv, h⟩ := h
      refine ⟨v6, hv, ?_⟩
      refine v_put (q := 28) (ji := 2) DM_X4_readLaw_25 rfl pfRX4_52 (co0 cK_14) rfl rfl (Or.inl rfl) (fun μ7 e7 => ?_)
      replace h := h μ7 e7
      refine r_aloadn (q := 29) DM_X4_readLaw_28 rfl rfl ?_
      refine r_bipush (q := 31) (n := 44) DM_X4_readLaw_29 rfl (by decide) ?_
      refine r_callVi [.inl 44] (q := 34) DM_X4_readLaw_31 rfl kM_X4_passOver lRX4_40 sh_2 rfl rfl (by decide) (Nat.le_of_ble_eq_true rfl) rfl (Cl.imp h (fun vv μ8 h => ?_))
      obtain ⟨v9, hv, h⟩ := h
      refine ⟨_, hv, ?_⟩
      refine r_bbeq (q := 37) (t := 47) DM_X4_readLaw_34 rfl (by decide) ⟨fun cc => ?_, fun cc => ?_⟩
      · replace h := h.1 cc
        refine r_iconst (q := 48) (n := 0) DM_X4_readLaw_47 rfl ?_
        exact r_ret (v := some (.inl 0)) ⟨DM_X4_readLaw_48, Or.inr ⟨rfl, Or.inl rfl⟩⟩ h
      · replace h := h.2 cc
        refine r_aloadn (q := 38) DM_X4_readLaw_37 rfl rfl ?_
        refine r_iconst (q := 39) (n := 0) DM_X4_readLaw_38 rfl ?_
        refine r_bipush (q := 41) (n := 30) DM_X4_readLaw_39 rfl (by decide) ?_
        refine r_callVi [.inl 0, .inl 30] (q := 44) DM_X4_readLaw_41 rfl kM_X4_isNumberIn lRX4_44 sh_2 rfl rfl (by decide) (Nat.le_of_ble_eq_true rfl) rfl (Cl.imp h (fun vv μ10 h => ?_))
        obtain ⟨v11, hv, h⟩ := h
        refine ⟨_, hv, ?_⟩
        refine r_bbne (q := 47) (t := 49) DM_X4_readLaw_44 rfl (by decide) ⟨fun cc => ?_, fun cc => ?_⟩
        · replace h := h.1 cc
          refine r_aloadn (q := 50) DM_X4_readLaw_49 rfl rfl ?_
          refine r_aloadn (q := 51) DM_X4_readLaw_50 rfl rfl ?_
          refine r_callVi [] (q := 54) DM_X4_readLaw_51 rfl kM_X4_takeNumber lRX4_48 sh_2 rfl rfl (by decide) (Nat.le_of_ble_eq_true rfl) rfl (Cl.imp h (fun vv μ12 h => ?_))
          obtain ⟨v13, hv, h⟩ := h
          refine ⟨v13, hv, ?_⟩
          refine v_put (q := 57) (ji := 3) DM_X4_readLaw_54 rfl pfRX4_55 (co0 cK_14) rfl rfl (Or.inl rfl) (fun μ14 e14 => ?_)
          replace h := h μ14 e14
          refine r_aloadn (q := 58) DM_X4_readLaw_57 rfl rfl ?_
          refine r_bipush (q := 60) (n := 59) DM_X4_readLaw_58 rfl (by decide) ?_
          refine r_callVi [.inl 59] (q := 63) DM_X4_readLaw_60 rfl kM_X4_passOver lRX4_40 sh_2 rfl rfl (by decide) (Nat.le_of_ble_eq_true rfl) rfl (Cl.imp h (fun vv μ15 h => ?_))
          obtain ⟨v16, hv, h⟩ := h
          refine ⟨_, hv, ?_⟩
          exact r_ret (v := some (.inl (bi v16))) ⟨DM_X4_readLaw_63, Or.inr ⟨rfl, bi_01 _⟩⟩ h
        · replace h := h.2 cc
          refine r_iconst (q := 48) (n := 0) DM_X4_readLaw_47 rfl ?_
          exact r_ret (v := some (.inl 0)) ⟨DM_X4_readLaw_48, Or.inr ⟨rfl, Or.inl rfl⟩⟩ h
    · replace h := h.2 cc
      refine r_iconst (q := 19) (n := 0) DM_X4_readLaw_18 rfl ?_
      exact r_ret (v := some (.inl 0)) ⟨DM_X4_readLaw_19, Or.inr ⟨rfl, Or.inl rfl⟩⟩ h
abbrev Out : Type := (Int × Int) ⊕ CV
def mdR (ν ν1 : Mem) : Prop := (∀ k, k ≠ 83 → k ≠ 90 → ν1 k = ν k) ∧ ∀ i, (i < 8 ∨ 12 < i) → ν1 83 i = ν 83 i
theorem mdR.rf {ν : Mem} : mdR ν ν := ⟨fun _ _ _ => rfl, fun _ _ => rfl⟩
theorem mdR.tr {ν ν1 ν2 : Mem} (h : mdR ν ν1) (k : mdR ν1 ν2) : mdR ν ν2 := ⟨fun i a b => (k.1 i a b).trans (h.1 i a b), fun i a => (k.2 i a).trans (h.2 i a)⟩
theorem avR.md {ν ν1 : Mem} (h : avR ν ν1) : mdR ν ν1 := ⟨fun k a _ => h.1 k a, fun i a => h.2 i (by omega)⟩
theorem md_up {ν : Mem} {i x : Int} : mdR ν (up ν 90 i x) := ⟨fun k _ b => up_ne b, fun i _ => by rw [up_ne (by decide)]⟩
def ePost : Out → Mem → Mem → Prop
  | .inl p, ν, ν1 => (∀ k, k ≠ 83 → k ≠ 90 → ν1 k = ν k) ∧ (∀ i, (i < 6 ∨ 12 < i) → ν1 83 i = ν 83 i) ∧ ν1 83 6 = 0 ∧ ν1 83 7 = p.1
  | .inr v, ν, ν1 => (∀ k, k ≠ 83 → k ≠ 89 → k ≠ 90 → ν1 k = ν k) ∧ (∀ i, (i < 6 ∨ 12 < i) → i ≠ 17 → ν1 83 i = ν 83 i) ∧ ν1 83 6 = 0 ∧ ν1 83 7 = ν 83 7 ∧ ν1 83 17 = 0 ∧ (RgA (ν 89) → CtOK v (ν1 89))
def eVal : Out → Int
  | .inl p => -1000100 - p.2
  | .inr v => v 0 1
theorem ePost.md {o : Out} {ν ν' ν1 : Mem} (h : mdR ν ν') (k : ePost o ν' ν1) : ePost o ν ν1 := by
  cases o with
  | inl p => exact ⟨fun i a b => (k.1 i a b).trans (h.1 i a b), fun i a => (k.2.1 i a).trans (h.2 i (by omega)), k.2.2.1, k.2.2.2⟩
  | inr v => exact ⟨fun i a b c => (k.1 i a b c).trans (h.1 i a c), fun i a b => (k.2.1 i a b).trans (h.2 i (by omega)), k.2.2.1, k.2.2.2.1.trans (h.2 7 (by decide)), k.2.2.2.2.1, fun g => k.2.2.2.2.2 (by rw [h.1 89 (by decide) (by decide)]; exact g)⟩
def RX (P : Mem → Prop) (G : Mem → (Option Vl → Mem → Prop) → Prop) (o : Out) : Prop := ∀ (ν : Mem) (Q : Option Vl → Mem → Prop), P ν → (∀ ν1 : Mem, ePost o ν ν1 → Q (some (.inl (eVal o))) ν1) → G ν Q
theorem rTk_1 {t : Int} : rTk t = 1 ↔ (97 ≤ t ∧ t ≤ 122) := by
  unfold rTk
  repeat (first | omega | split)
theorem rTk_3 {t : Int} : rTk t = 3 ↔ t = 44 := by
  unfold rTk
  repeat (first | omega | split)
theorem rTk_4 {t : Int} : rTk t = 4 ↔ t = 59 := by
  unfold rTk
  repeat (first | omega | split)
theorem rTk_0 {t : Int} : rTk t = 0 ↔ t = -1 := by
  unfold rTk
  repeat (first | omega | split)
section P64
variable {E : Ex} {μ ν : Mem} {Q : Option Vl → Mem → Prop} {T : Int → Int} {n a b f s t x1 : Int}
def W8 (T : Int → Int) (n : Int) (ν : Mem) (a : Int) : Prop := C8 T n ν a ∧ ν 83 8 = -1
theorem W8.av {ν1 : Mem} (h : W8 T n ν a) (hr : avR ν ν1) (hc : C8 T n ν1 b) : W8 T n ν1 b := ⟨hc, by rw [hr.2 8 (by omega)]; exact h.2⟩
theorem W8.up {i x : Int} (h : W8 T n ν a) : W8 T n (Jvm.Pilot.CAlphaCourtLaw_law_r2652_50ddd0.up ν 90 i x) a := by
  unfold W8 C8 at h ⊢
  rw [up_ne (by decide), up_ne (by decide)]; exact h
theorem flR.w {ν1 : Mem} (h : flR ν ν1 f a) (hC : C8 T n ν b) (h0 : 0 ≤ a ∧ a ≤ 1000) (h2 : inR (ν 90 2)) : bdW ν1 := by
  obtain ⟨h8, -, h83, hk⟩ := h
  have rr := rTk_rng (t := tkT T n b)
  have e11 := hC.2.2.1
  have e12 := hC.2.2.2.1.2.2
  refine ⟨by omega, ?_, ?_, ?_⟩
  · rw [h83 11 (by decide) (by decide)]; omega
  · rw [h83 12 (by decide) (by decide)]; omega
  · rw [hk 90 (by decide)]; exact h2
/-- the end of a reader that has failed -/
theorem bd_end {ν0 ν1 ν' ν2 : Mem} (hm : mdR ν ν0) (hf : flR ν0 ν1 f a) (hb : bdR ν1 ν') (e2 : ν2 = up ν' 83 6 0) : ePost (.inl (f, a)) ν ν2 := by
  refine ePost.md hm ⟨fun k k1 k2 => ?_, fun i hi => ?_, ?_, ?_⟩
  · rw [e2, up_ne k1, hb.1 k k2, hf.2.2.2 k k1]
  · rw [e2, up_off (Or.inr (by omega)), hb.1 83 (by decide), hf.2.2.1 i (by omega) (by omega)]
  · rw [e2, up_self]
  · rw [e2, up_off (Or.inr (by decide)), hb.1 83 (by decide)]; exact hf.2.1
def yB (c : Prop) [Decidable c] : Int := if c then 1 else 0
/-- the points of the reference -/
def Glaw (E : Ex) (T : Int → Int) (n a : Int) (ν : Mem) (Q : Option Vl → Mem → Prop) : Prop := Gg E 5 M_X8_court 58 [some (.inr 83), some (.inl 91)] [.inl (if tkT T n a = 119 then 1 else 0), .inr 83] ν Q
def Gord (E : Ex) (ν : Mem) (Q : Option Vl → Mem → Prop) : Prop := Cl E 3 M_X8_readsOrder [.inr 83] ν (fun vv ν' => vv = none ∧ Gg E 5 M_X8_court 130 [some (.inr 83), some (.inl 91)] [] ν' Q)
def G130 (E : Ex) (ν : Mem) (Q : Option Vl → Mem → Prop) : Prop := Gg E 5 M_X8_court 130 [some (.inr 83), some (.inl 91)] [] ν Q
def Plaw (T : Int → Int) (n a : Int) (ν : Mem) : Prop := W8 T n ν a ∧ ∀ i, 0 ≤ i → i < 91 → ν 90 i = 0
def Pord (T : Int → Int) (n a s t : Int) (ν : Mem) : Prop := W8 T n ν a ∧ ν 90 0 = s ∧ ν 90 1 = t ∧ ∀ i, 2 ≤ i → i < 91 → ν 90 i = 0
theorem bad_Gord (hw : bdW ν) (h : ∀ ν1 : Mem, ν1 = up ν 83 6 0 → Q (some (.inl (-1000100 - ν 83 8))) ν1) : Gord E ν Q := bad_order hw ⟨rfl, bad_130 hw h⟩
/-- what the class's reader may change while it fails or goes on -/
def c7R (μ μ1 : Mem) : Prop := (∀ k, k ≠ 2 → (k < 14 ∨ 24 ≤ k) → μ1 k = μ k) ∧ (RgC μ 14 → RgC μ1 14)
theorem c7R.rf : c7R μ μ := ⟨fun _ _ _ => rfl, id⟩
theorem c7R.tr {μ1 μ2 : Mem} (h : c7R μ μ1) (k : c7R μ1 μ2) : c7R μ μ2 := ⟨fun i a b => (k.1 i a b).trans (h.1 i a b), fun g => k.2 (h.2 g)⟩
theorem c7R.tk {μ1 : Mem} (h : ∀ k, k ≠ 2 → μ1 k = μ k) : c7R μ μ1 := ⟨fun k a _ => h k a, fun g => g.cg (fun k a b => h k (by omega))⟩
theorem c7R.up0 {i x : Int} (hx : -2000000 ≤ x ∧ x ≤ 2000000) : c7R μ (up μ 14 i x) := ⟨fun k _ b => up_ne (by omega), fun g => RgC.up (j := 0) g hx⟩
theorem c7R.upj {j : Nat} {i x : Int} (hj : j < 10) (hx : -2000000 ≤ x ∧ x ≤ 2000000) : c7R μ (up μ (14 + j) i x) := ⟨fun k _ b => up_ne (by omega), fun g => RgC.up g hx⟩
theorem C7.off {μ1 : Mem} (h : C7 T n μ a) (h2 : μ1 2 = μ 2) (h3 : μ1 3 = μ 3) : C7 T n μ1 a := by unfold C7 at h ⊢; rw [h2, h3]; exact h
theorem rd_law (hT : tkOK T n) (hC : C7 T n μ a) (h0 : 0 ≤ a ∧ a ≤ n) (hF : ∀ (f b : Int) (μ1 : Mem), RX (Plaw T n a) (Glaw E T n a) (.inl (f, b)) → c7R μ μ1 → μ1 2 2 = f → μ1 2 3 = b → (1 ≤ f ∧ f ≤ 3) → (0 ≤ b ∧ b ≤ n) → Q (some (.inl (bi false))) μ1)
    (hS : ∀ (b s t : Int) (μ1 : Mem), C7 T n μ1 b → (0 ≤ b ∧ b ≤ n) → (1 ≤ s ∧ s ≤ 4) → (0 ≤ t ∧ t ≤ 30) → c7R μ μ1 → (∀ k, k ≠ 2 → k ≠ 14 → μ1 k = μ k) → (∀ i, i ≠ 2 → i ≠ 3 → μ1 14 i = μ 14 i) → μ1 14 2 = s → μ1 14 3 = t → (∀ o, RX (Pord T n b s t) (Gord E) o → RX (Plaw T n a) (Glaw E T n a) o) → Q (some (.inl (bi true))) μ1) : Cl E 3 M_X4_readLaw [.inr 2, .inr 14] μ Q := by
  have hn := hT.1
  -- the reference up to each token
  have n1 := tkN_rng (T := T) h0.1 h0.2
  refine s_X4_readLaw (k_X4_passOver hT hC h0 (by decide) (fun q1 μ1 c1 o1 => ⟨_, rfl, fun z => absurd z (by decide), fun _ => ?_⟩) (fun q1 μ1 c1 => ⟨_, rfl, fun _ => hF 1 a μ1 ?_ (c7R.tk c1.2.2) c1.1 c1.2.1 (by decide) h0, fun z => absurd z (by decide)⟩))
  rotate_left
  · intro ν Q hP hq
    obtain ⟨⟨hC8, hw⟩, hz⟩ := hP
    unfold Glaw
    rw [if_neg q1]
    refine s_X8_court_58 (takes_no hC8 hw (fun ν1 r1 => ⟨_, rfl, ?_⟩))
    have w1 := r1.w hC8 (by omega) (by rw [hz 2 (by decide) (by decide)]; decide)
    refine figure_off w1.1 w1.2.2.1 (by decide) (by decide) ⟨_, rfl, fun μ5 e5 => ?_⟩
    have b5 : bdR ν1 μ5 := ⟨fun k hk => by rw [e5, up_ne hk], by rw [e5, up_off (Or.inr (by decide))]⟩
    have w5 := b5.w w1
    have e8 : μ5 83 8 = a := by rw [b5.1 83 (by decide)]; exact r1.1
    have go : ∀ y, Gg E 5 M_X8_court 89 [some (.inr 83), some (.inl 91)] [.inl y, .inr 83] μ5 Q := fun y => bad_89 w5 (fun ν3 b3 ν4 e4 => by rw [e8]; exact hq ν4 (bd_end mdR.rf r1 (b5.tr b3) e4))
    exact ⟨w5.2.1, fun _ => go 0, fun _ => go 1⟩
  obtain ⟨a1, ea1⟩ : ∃ a1, a1 = tkN T n a := ⟨_, rfl⟩
  rw [← ea1] at c1 n1
  have h1 : 0 ≤ a1 ∧ a1 ≤ n := by omega
  have n2 := tkN_rng (T := T) h1.1 h1.2
  -- first number
  have ref1 : ∀ (o : Out) (P : Mem → Prop) (G : Mem → (Option Vl → Mem → Prop) → Prop), (∀ (ν : Mem) (Q : Option Vl → Mem → Prop), W8 T n ν a1 → (∀ i, 0 ≤ i → i < 91 → ν 90 i = 0) → (∀ ν1 : Mem, ePost o ν ν1 → Q (some (.inl (eVal o))) ν1) → Cl E 3 M_X8_figure [.inr 83, .inl 1, .inl 4] ν (fun vv μ3 => ∃ v4, vv = some (.inl v4) ∧ ∀ μ5 : Mem, μ5 = up μ3 90 0 v4 → inR (μ5 83 11) ∧ ((μ5 83 11) ≠ 3 → Gg E 5 M_X8_court 89 [some (.inr 83), some (.inl 91)] [.inl 0, .inr 83] μ5 Q) ∧ ((μ5 83 11) = 3 → Gg E 5 M_X8_court 89 [some (.inr 83), some (.inl 91)] [.inl 1, .inr 83] μ5 Q))) → RX (Plaw T n a) (Glaw E T n a) o := by
    intro o P G hh ν Q hP hq
    obtain ⟨hW, hz⟩ := hP
    unfold Glaw
    rw [if_pos q1]
    exact s_X8_court_58 (takes_ok hT hW.1 h0 hW.2 (fun ν1 k1 r1 => ⟨_, rfl, hh ν1 Q (hW.av r1 (by rw [ea1]; exact k1)) (fun i i0 i1 => by rw [r1.1 90 (by decide)]; exact hz i i0 i1) (fun ν2 p2 => hq ν2 (ePost.md r1.md p2))⟩))
  have bad1 : ∀ f, (∀ (ν : Mem) (R : Option Vl → Mem → Prop), W8 T n ν a1 → (∀ ν1 : Mem, flR ν ν1 f a1 → R (some (.inl 0)) ν1) → Cl E 3 M_X8_figure [.inr 83, .inl 1, .inl 4] ν R) → RX (Plaw T n a) (Glaw E T n a) (.inl (f, a1)) := by
    intro f hh
    refine ref1 _ (fun _ => True) (fun _ _ => True) (fun ν Q hW hz hq => hh ν _ hW (fun ν1 r1 => ⟨_, rfl, fun μ5 e5 => ?_⟩))
    have w1 := r1.w hW.1 (by omega) (by rw [hz 2 (by decide) (by decide)]; decide)
    have b5 : bdR ν1 μ5 := ⟨fun k hk => by rw [e5, up_ne hk], by rw [e5, up_off (Or.inr (by decide))]⟩
    have w5 := b5.w w1
    have e8 : μ5 83 8 = a1 := by rw [b5.1 83 (by decide)]; exact r1.1
    have go : ∀ y, Gg E 5 M_X8_court 89 [some (.inr 83), some (.inl 91)] [.inl y, .inr 83] μ5 Q := fun y => bad_89 w5 (fun ν3 b3 ν4 e4 => by rw [e8]; exact hq ν4 (bd_end mdR.rf r1 (b5.tr b3) e4))
    exact ⟨w5.2.1, fun _ => go 0, fun _ => go 1⟩
  refine k_X4_isNumberIn hT c1 h1 (by decide) (by decide) (fun q2 v2 => ⟨_, rfl, fun _ => ?_, fun z => absurd z (by decide)⟩) (fun q2 v2 μ2 c2 => ⟨_, rfl, fun z => absurd z (by decide), fun _ => hF 2 a1 μ2 (bad1 2 (fun ν R hW hr => figure_no2 hT hW.1 h1 hW.2 (by decide) (by decide) q2 v2 hr)) (c7R.tr (c7R.tk o1) (c7R.tk c2.2.2)) c2.1 c2.2.1 (by decide) h1⟩) (fun q2 μ2 c2 => ⟨_, rfl, fun z => absurd z (by decide), fun _ => hF 1 a1 μ2 (bad1 1 (fun ν R hW hr => figure_no1 hT hW.1 h1 hW.2 q2 hr)) (c7R.tr (c7R.tk o1) (c7R.tk c2.2.2)) c2.1 c2.2.1 (by decide) h1⟩)
  refine k_X4_takeNumber hT c1 h1 q2 (fun μ2 c2 o2 => ⟨_, rfl, fun μ3 e3 => ?_⟩)
  obtain ⟨a2, ea2⟩ : ∃ a2, a2 = tkN T n a1 := ⟨_, rfl⟩
  obtain ⟨s, es⟩ : ∃ s, s = tkV T n a1 := ⟨_, rfl⟩
  rw [← ea2] at c2 n2
  rw [← es] at v2 e3
  have h2 : 0 ≤ a2 ∧ a2 ≤ n := by omega
  have n3 := tkN_rng (T := T) h2.1 h2.2
  have r3 : c7R μ μ3 := by rw [e3]; exact ((c7R.tk o1).tr (c7R.tk o2)).tr (c7R.up0 (by omega))
  have k3 : ∀ k, k ≠ 2 → k ≠ 14 → μ3 k = μ k := fun k x y => by rw [e3, up_ne y, o2 k x, o1 k x]
  have m3 : ∀ i, i ≠ 2 → μ3 14 i = μ 14 i := fun i hi => by rw [e3, up_off (Or.inr hi), o2 14 (by decide), o1 14 (by decide)]
  have s3 : μ3 14 2 = s := by rw [e3, up_self]
  have c3 : C7 T n μ3 a2 := c2.off (by rw [e3, up_ne (by decide)]) (by rw [e3, up_ne (by decide)])
  have ref2 : ∀ o : Out, (∀ (ν : Mem) (Q : Option Vl → Mem → Prop), W8 T n ν a2 → ν 90 0 = s → (∀ i, 1 ≤ i → i < 91 → ν 90 i = 0) → (∀ ν1 : Mem, ePost o ν ν1 → Q (some (.inl (eVal o))) ν1) → Gg E 5 M_X8_court 89 [some (.inr 83), some (.inl 91)] [.inl (if tkT T n a2 = 44 then 1 else 0), .inr 83] ν Q) → RX (Plaw T n a) (Glaw E T n a) o := by
    intro o hh
    refine ref1 _ (fun _ => True) (fun _ _ => True) (fun ν Q hW hz hq => figure_ok hT hW.1 h1 hW.2 (by decide) (by decide) q2 (by rw [← es]; exact v2) (fun ν1 k1 r1 => ⟨_, rfl, fun μ5 e5 => ?_⟩))
    rw [← es] at e5
    rw [← ea2] at k1
    have W5 : W8 T n μ5 a2 := by rw [e5]; exact (hW.av r1 k1).up
    have e11 := W5.1.2.2.1
    have rr := rTk_rng (t := tkT T n a2)
    have t3 := rTk_3 (t := tkT T n a2)
    have := hh μ5 Q W5 (by rw [e5, up_self]) (fun i i0 i1 => by rw [e5, up_off (Or.inr (by omega)), r1.1 90 (by decide)]; exact hz i (by omega) i1) (fun ν2 p2 => hq ν2 (ePost.md (r1.md.tr (by rw [e5]; exact md_up)) p2))
    refine ⟨by omega, fun y => ?_, fun y => ?_⟩
    · rwa [if_neg (by omega)] at this
    · rwa [if_pos (by omega)] at this
  refine k_X4_passOver hT c3 h2 (by decide) (fun q3 μ4 c4 o4 => ⟨_, rfl, fun z => absurd z (by decide), fun _ => ?_⟩) (fun q3 μ4 c4 => ⟨_, rfl, fun _ => hF 1 a2 μ4 (ref2 _ (fun ν Q hW z0 hz hq => ?_)) (r3.tr (c7R.tk c4.2.2)) c4.1 c4.2.1 (by decide) h2, fun z => absurd z (by decide)⟩)
  rotate_left
  · rw [if_neg q3]
    refine s_X8_court_89 (takes_no hW.1 hW.2 (fun ν1 r1 => ⟨_, rfl, ?_⟩))
    have w1 := r1.w hW.1 (by omega) (by rw [hz 2 (by decide) (by decide)]; decide)
    refine figure_off w1.1 w1.2.2.1 (by decide) (by decide) ⟨_, rfl, fun μ5 e5 => ?_⟩
    have b5 : bdR ν1 μ5 := ⟨fun k hk => by rw [e5, up_ne hk], by rw [e5, up_off (Or.inr (by decide))]⟩
    have w5 := b5.w w1
    have e8 : μ5 83 8 = a2 := by rw [b5.1 83 (by decide)]; exact r1.1
    have go : Gord E μ5 Q := bad_Gord w5 (fun ν4 e4 => by rw [e8]; exact hq ν4 (bd_end mdR.rf r1 b5 e4))
    exact ⟨w5.2.1, fun _ => takes_off w5.1 ⟨_, rfl, go⟩, fun _ => takes_off w5.1 ⟨_, rfl, go⟩⟩
  obtain ⟨a3, ea3⟩ : ∃ a3, a3 = tkN T n a2 := ⟨_, rfl⟩
  rw [← ea3] at c4 n3
  have h3 : 0 ≤ a3 ∧ a3 ≤ n := by omega
  have n4 := tkN_rng (T := T) h3.1 h3.2
  have r4 := r3.tr (c7R.tk o4)
  have ref3 : ∀ o : Out, (∀ (ν : Mem) (Q : Option Vl → Mem → Prop), W8 T n ν a3 → ν 90 0 = s → (∀ i, 1 ≤ i → i < 91 → ν 90 i = 0) → (∀ ν1 : Mem, ePost o ν ν1 → Q (some (.inl (eVal o))) ν1) → Cl E 3 M_X8_figure [.inr 83, .inl 0, .inl 30] ν (fun vv μ3 => ∃ v4, vv = some (.inl v4) ∧ ∀ μ5 : Mem, μ5 = up μ3 90 1 v4 → inR (μ5 83 11) ∧ ((μ5 83 11) ≠ 4 → Cl E 2 M_X8_takes [.inr 83, .inl 0, .inl 1] μ5 (fun vv μ7 => ∃ v8, vv = some (.inl v8) ∧ Gord E μ7 Q)) ∧ ((μ5 83 11) = 4 → Cl E 2 M_X8_takes [.inr 83, .inl 1, .inl 1] μ5 (fun vv μ11 => ∃ v12, vv = some (.inl v12) ∧ Gord E μ11 Q)))) → RX (Plaw T n a) (Glaw E T n a) o := by
    intro o hh
    refine ref2 o (fun ν Q hW z0 hz hq => ?_)
    rw [if_pos q3]
    exact s_X8_court_89 (takes_ok hT hW.1 h2 hW.2 (fun ν1 k1 r1 => ⟨_, rfl, hh ν1 Q (hW.av r1 (by rw [ea3]; exact k1)) (by rw [r1.1 90 (by decide)]; exact z0) (fun i i0 i1 => by rw [r1.1 90 (by decide)]; exact hz i i0 i1) (fun ν2 p2 => hq ν2 (ePost.md r1.md p2))⟩))
  have bad3 : ∀ f, (∀ (ν : Mem) (R : Option Vl → Mem → Prop), W8 T n ν a3 → (∀ ν1 : Mem, flR ν ν1 f a3 → R (some (.inl 0)) ν1) → Cl E 3 M_X8_figure [.inr 83, .inl 0, .inl 30] ν R) → RX (Plaw T n a) (Glaw E T n a) (.inl (f, a3)) := by
    intro f hh
    refine ref3 _ (fun ν Q hW z0 hz hq => hh ν _ hW (fun ν1 r1 => ⟨_, rfl, fun μ5 e5 => ?_⟩))
    have w1 := r1.w hW.1 (by omega) (by rw [hz 2 (by decide) (by decide)]; decide)
    have b5 : bdR ν1 μ5 := ⟨fun k hk => by rw [e5, up_ne hk], by rw [e5, up_off (Or.inr (by decide))]⟩
    have w5 := b5.w w1
    have e8 : μ5 83 8 = a3 := by rw [b5.1 83 (by decide)]; exact r1.1
    have go : Gord E μ5 Q := bad_Gord w5 (fun ν4 e4 => by rw [e8]; exact hq ν4 (bd_end mdR.rf r1 b5 e4))
    exact ⟨w5.2.1, fun _ => takes_off w5.1 ⟨_, rfl, go⟩, fun _ => takes_off w5.1 ⟨_, rfl, go⟩⟩
  refine k_X4_isNumberIn hT c4 h3 (by decide) (by decide) (fun q4 v4 => ⟨_, rfl, fun _ => ?_, fun z => absurd z (by decide)⟩) (fun q4 v4 μ5 c5 => ⟨_, rfl, fun z => absurd z (by decide), fun _ => hF 2 a3 μ5 (bad3 2 (fun ν R hW hr => figure_no2 hT hW.1 h3 hW.2 (by decide) (by decide) q4 v4 hr)) (r4.tr (c7R.tk c5.2.2)) c5.1 c5.2.1 (by decide) h3⟩) (fun q4 μ5 c5 => ⟨_, rfl, fun z => absurd z (by decide), fun _ => hF 1 a3 μ5 (bad3 1 (fun ν R hW hr => figure_no1 hT hW.1 h3 hW.2 q4 hr)) (r4.tr (c7R.tk c5.2.2)) c5.1 c5.2.1 (by decide) h3⟩)
  refine k_X4_takeNumber hT c4 h3 q4 (fun μ5 c5 o5 => ⟨_, rfl, fun μ6 e6 => ?_⟩)
  obtain ⟨a4, ea4⟩ : ∃ a4, a4 = tkN T n a3 := ⟨_, rfl⟩
  obtain ⟨t, et⟩ : ∃ t, t = tkV T n a3 := ⟨_, rfl⟩
  rw [← ea4] at c5 n4
  rw [← et] at v4 e6
  have h4 : 0 ≤ a4 ∧ a4 ≤ n := by omega
  have n5 := tkN_rng (T := T) h4.1 h4.2
  have r6 : c7R μ μ6 := by rw [e6]; exact (r4.tr (c7R.tk o5)).tr (c7R.up0 (by omega))
  have c6 : C7 T n μ6 a4 := c5.off (by rw [e6, up_ne (by decide)]) (by rw [e6, up_ne (by decide)])
  have ref4 : ∀ o : Out, (∀ (ν : Mem) (Q : Option Vl → Mem → Prop), W8 T n ν a4 → ν 90 0 = s → ν 90 1 = t → (∀ i, 2 ≤ i → i < 91 → ν 90 i = 0) → (∀ ν1 : Mem, ePost o ν ν1 → Q (some (.inl (eVal o))) ν1) → Cl E 2 M_X8_takes [.inr 83, .inl (if tkT T n a4 = 59 then 1 else 0), .inl 1] ν (fun vv μ7 => ∃ v8, vv = some (.inl v8) ∧ Gord E μ7 Q)) → RX (Plaw T n a) (Glaw E T n a) o := by
    intro o hh
    refine ref3 o (fun ν Q hW z0 hz hq => figure_ok hT hW.1 h3 hW.2 (by decide) (by decide) q4 (by rw [← et]; exact v4) (fun ν1 k1 r1 => ⟨_, rfl, fun μ5 e5 => ?_⟩))
    rw [← et] at e5
    rw [← ea4] at k1
    have W5 : W8 T n μ5 a4 := by rw [e5]; exact (hW.av r1 k1).up
    have e11 := W5.1.2.2.1
    have rr := rTk_rng (t := tkT T n a4)
    have t4 := rTk_4 (t := tkT T n a4)
    have := hh μ5 Q W5 (by rw [e5, up_off (Or.inr (by decide)), r1.1 90 (by decide)]; exact z0) (by rw [e5, up_self]) (fun i i0 i1 => by rw [e5, up_off (Or.inr (by omega)), r1.1 90 (by decide)]; exact hz i (by omega) i1) (fun ν2 p2 => hq ν2 (ePost.md (r1.md.tr (by rw [e5]; exact md_up)) p2))
    refine ⟨by omega, fun y => ?_, fun y => ?_⟩
    · rwa [if_neg (by omega)] at this
    · rwa [if_pos (by omega)] at this
  refine k_X4_passOver hT c6 h4 (by decide) (fun q5 μ7 c7 o7 => ⟨_, rfl, hS (tkN T n a4) s t μ7 c7 (by omega) v2 v4 (r6.tr (c7R.tk o7)) (fun k x y => ?_) (fun i x y => ?_) ?_ ?_ (fun o ho => ref4 o (fun ν Q hW z0 z1 hz hq => ?_))⟩) (fun q5 μ7 c7 => ⟨_, rfl, hF 1 a4 μ7 (ref4 _ (fun ν Q hW z0 z1 hz hq => ?_)) (r6.tr (c7R.tk c7.2.2)) c7.1 c7.2.1 (by decide) h4⟩)
  · rw [o7 k x, e6, up_ne y, o5 k x, o4 k x, k3 k x y]
  · rw [o7 14 (by decide), e6, up_off (Or.inr y), o5 14 (by decide), o4 14 (by decide), m3 i x]
  · rw [o7 14 (by decide), e6, up_off (Or.inr (by decide)), o5 14 (by decide), o4 14 (by decide), s3]
  · rw [o7 14 (by decide), e6, up_self]
  · rw [if_pos q5]
    refine takes_ok hT hW.1 h4 hW.2 (fun ν1 k1 r1 => ⟨_, rfl, ho ν1 Q ⟨hW.av r1 k1, ?_, ?_, fun i i0 i1 => ?_⟩ (fun ν2 p2 => hq ν2 (ePost.md r1.md p2))⟩)
    · rw [r1.1 90 (by decide)]; exact z0
    · rw [r1.1 90 (by decide)]; exact z1
    · rw [r1.1 90 (by decide)]; exact hz i i0 i1
  · rw [if_neg q5]
    refine takes_no hW.1 hW.2 (fun ν1 r1 => ⟨_, rfl, ?_⟩)
    have w1 := r1.w hW.1 (by omega) (by rw [hz 2 (by decide) (by decide)]; decide)
    exact bad_Gord w1 (fun ν4 e4 => by rw [r1.1]; exact hq ν4 (bd_end mdR.rf r1 bdR.rf e4))
end P64
