/-! What holds between the class and the reference, call by call. -/
theorem cut8_fin : ∀ k, k < 256 → (((k * 2 ^ 24 : Nat) : Int).bmod (2 ^ 32)) / ((2 ^ 24 : Nat) : Int) = ((k : Nat) : Int).bmod 256 := by decide +kernel
theorem cut8 (x : Int) : jshr (jshl x 24) 24 = jbyte x := by
  unfold jshr jshl jbyte
  rw [Int32.ofInt_toInt, pk_shr _ (Int32.ofInt 24 &&& 31) 24 (by decide), Int8.toInt_toInt32, Int32.toInt_toInt8]
  have h1 := pk_shl (Int32.ofInt x) (Int32.ofInt 24 &&& 31) 24 (by decide)
  rw [← Int32.toInt_toBitVec (Int32.ofInt x <<< (Int32.ofInt 24 &&& 31)), BitVec.toInt_eq_toNat_bmod, h1, ← Int32.toInt_toBitVec (Int32.ofInt x), BitVec.toInt_eq_toNat_bmod, Int.shiftRight_eq_div_pow]
  generalize (Int32.ofInt x).toBitVec.toNat = m
  rw [Int.bmod_bmod_of_dvd (by decide)]
  have e1 : m * 2 ^ 24 % 2 ^ 32 = (m % 256) * 2 ^ 24 := by rw [show 2 ^ 32 = 256 * 2 ^ 24 from rfl, Nat.mul_mod_mul_right]
  have e2 : (m : Int).bmod (2 ^ 8) = ((m % 256 : Nat) : Int).bmod 256 := by
    rw [Int.natCast_emod]
    exact (Int.emod_bmod (x := (m : Int)) (n := 256)).symm
  rw [e1, e2]
  exact cut8_fin (m % 256) (Nat.mod_lt _ (by decide))
theorem cut16_fin (k : Nat) (hk : k < 65536) : (((k * 2 ^ 16 : Nat) : Int).bmod (2 ^ 32)) / ((2 ^ 16 : Nat) : Int) = ((k : Nat) : Int).bmod 65536 := by
  rcases Nat.lt_or_ge k 32768 with h | h
  · rw [Int.bmod_eq_of_le (n := ((k * 2 ^ 16 : Nat) : Int)) (m := 2 ^ 32) (by omega) (by omega), Int.bmod_eq_of_le (n := (k : Int)) (m := 65536) (by omega) (by omega)]
    omega
  · rw [← Int.sub_bmod_right, Int.bmod_eq_of_le (n := ((k * 2 ^ 16 : Nat) : Int) - ((2 ^ 32 : Nat) : Int)) (m := 2 ^ 32) (by omega) (by omega), ← Int.sub_bmod_right ((k : Nat) : Int), Int.bmod_eq_of_le (n := (k : Int) - ((65536 : Nat) : Int)) (m := 65536) (by omega) (by omega)]
    omega
theorem cut16 (x : Int) : jshr (jshl x 16) 16 = jshort x := by
  unfold jshr jshl jshort
  rw [Int32.ofInt_toInt, pk_shr _ (Int32.ofInt 16 &&& 31) 16 (by decide), Int16.toInt_toInt32, Int32.toInt_toInt16]
  have h1 := pk_shl (Int32.ofInt x) (Int32.ofInt 16 &&& 31) 16 (by decide)
  rw [← Int32.toInt_toBitVec (Int32.ofInt x <<< (Int32.ofInt 16 &&& 31)), BitVec.toInt_eq_toNat_bmod, h1, ← Int32.toInt_toBitVec (Int32.ofInt x), BitVec.toInt_eq_toNat_bmod, Int.shiftRight_eq_div_pow]
  generalize (Int32.ofInt x).toBitVec.toNat = m
  rw [Int.bmod_bmod_of_dvd (by decide)]
  have e1 : m * 2 ^ 16 % 2 ^ 32 = (m % 65536) * 2 ^ 16 := by rw [show 2 ^ 32 = 65536 * 2 ^ 16 from rfl, Nat.mul_mod_mul_right]
  have e2 : (m : Int).bmod (2 ^ 16) = ((m % 65536 : Nat) : Int).bmod 65536 := by
    rw [Int.natCast_emod]
    exact (Int.emod_bmod (x := (m : Int)) (n := 65536)).symm
  rw [e1, e2]
  exact cut16_fin (m % 65536) (Nat.mod_lt _ (by decide))
theorem rCut_inR {l v : Int} (h : inR v) : inR (rCut l v) := by
  unfold rCut
  split
  · exact inR_of _
  · split
    · exact inR_of _
    · exact h
section C51
variable {E : Ex} {μ : Mem} {Q : Option Vl → Mem → Prop} {a b x p l n i v s : Int}
theorem k_X8_cut (hl : 0 ≤ l ∧ l ≤ 2) (h : Q (some (.inl (rCut l v))) μ) : Cl E 0 M_X8_cut [.inl l, .inl v] μ Q := by
  unfold rCut at h
  refine s_X8_cut ⟨by omega, fun z => ⟨fun z2 => ?_, fun z2 => ?_⟩, fun z => ?_⟩
  · rwa [if_neg z, if_neg z2] at h
  · rw [cut16]; rwa [if_neg z, if_pos z2] at h
  · rw [cut8]; rwa [if_pos z] at h
theorem k_X8_isPart (ia : inR i) (i_n : inR n) (hr : 0 ≤ a ∧ a < 8) (hm : 0 ≤ μ 85 a ∧ μ 85 a ≤ 40) (h : Q (some (.inl (bi (decide (0 ≤ n ∧ 0 ≤ i ∧ i + n ≤ μ 85 a))))) μ) : Cl E 0 M_X8_isPart [.inr 83, .inl a, .inl i, .inl n] μ Q := by
  refine s_X8_isPart ⟨ia, fun c => ?_, fun c => ⟨i_n, fun c2 => ?_, fun c2 => ⟨hr, by omega, fun c3 => ?_, fun c3 => ⟨by omega, fun c4 => ?_, fun c4 => ?_⟩⟩⟩⟩
  · rwa [decide_eq_false (by omega)] at h
  · rwa [decide_eq_false (by omega)] at h
  · rwa [decide_eq_false (by omega)] at h
  · rwa [decide_eq_false (by omega)] at h
  · rwa [decide_eq_true (by omega)] at h
set_option maxRecDepth 20000 in
theorem s_X4_addByte {E : Ex} {μ : Mem} {Q : Option Vl → Mem → Prop} {x1 : Int}  (h : inR (μ 2 1) ∧ ((μ 2 1) ≥ 120 → Q none μ) ∧ (¬ (μ 2 1) ≥ 120 → (0 ≤ (μ 2 1) ∧ (μ 2 1) < 120) ∧ ∀ μ2 : Mem, μ2 = up μ 3 (μ 2 1) x1 → ∀ μ4 : Mem, μ4 = up μ2 2 1 ((μ2 2 1) + 1) → Q none μ4)) : Cl E 0 M_X4_addByte [.inr 2, .inl x1] μ Q := by
  show Gg E 0 M_X4_addByte 0 [some (.inr 2), some (.inl x1)] [] μ Q
  refine r_aloadn (q := 1) DM_X4_addByte_0 rfl rfl ?_
  refine v_getI (q := 4) (ji := 1) DM_X4_addByte_1 rfl fRX4_15 sh_2 rfl rfl ?_
  refine r_bipush (q := 6) (n := 120) DM_X4_addByte_4 rfl (by decide) ?_
  have i1 := h.1
  replace h := h.2
  refine r_icge (q := 9) (t := 29) DM_X4_addByte_6 rfl (by decide) ⟨⟨i1, (by decide)⟩, fun cc => ?_, fun cc => ?_⟩
  · replace h := h.1 cc
    exact r_ret (v := none) ⟨DM_X4_addByte_29, rfl⟩ h
  · replace h := h.2 cc
    refine r_aloadn (q := 10) DM_X4_addByte_9 rfl rfl ?_
    refine r_getR (q := 13) (r := 3) DM_X4_addByte_10 rfl fRX4_9 sh_2 rfl ?_
    refine r_aloadn (q := 14) DM_X4_addByte_13 rfl rfl ?_
    refine v_getI (q := 17) (ji := 1) DM_X4_addByte_14 rfl fRX4_15 sh_2 rfl rfl ?_
    refine r_iloadn (q := 18) DM_X4_addByte_17 rfl rfl ?_
    refine v_iast (q := 19) DM_X4_addByte_18 rfl sh_3 (by decide) ⟨h.1, fun μ2 e2 => ?_⟩
    have i3 := h.1
    replace h := h.2 μ2 e2
    refine r_aloadn (q := 20) DM_X4_addByte_19 rfl rfl ?_
    refine r_dup (q := 21) DM_X4_addByte_20 rfl ?_
    refine v_getI (q := 24) (ji := 1) DM_X4_addByte_21 rfl fRX4_15 sh_2 rfl rfl ?_
    refine r_iconst (q := 25) (n := 1) DM_X4_addByte_24 rfl ?_
    refine r_iadd (q := 26) DM_X4_addByte_25 rfl ?_
    refine v_put (q := 29) (ji := 1) DM_X4_addByte_26 rfl pfRX4_15 sh_2 rfl rfl (Or.inl rfl) (fun μ4 e4 => ?_)
    replace h := h μ4 e4
    exact r_ret (v := none) ⟨DM_X4_addByte_29, rfl⟩ h
theorem k_X4_addByte (hl : 0 ≤ μ 2 1 ∧ μ 2 1 < 120) (h : ∀ μ1 : Mem, μ1 = up (up μ 3 (μ 2 1) b) 2 1 (μ 2 1 + 1) → Q none μ1) : Cl E 0 M_X4_addByte [.inr 2, .inl b] μ Q := by
  refine s_X4_addByte ⟨by omega, fun z => absurd z (by omega), fun _ => ⟨hl, fun μ2 e2 μ3 e3 => h μ3 ?_⟩⟩
  rw [e3, e2, up_ne (k := 3) (by decide)]
end C51
theorem Rel.eqv {v w : CV} {a : Int → Int} (h : eqv v w) (hR : Rel v a) : Rel w a := by
  have e1 := h.2 1 (by decide) (by decide)
  have e3 := h.2 3 (by decide) (by decide)
  have e4 := h.2 4 (by decide) (by decide)
  have e5 := h.2 5 (by decide) (by decide)
  have e6 := h.2 6 (by decide) (by decide)
  have e7 := h.2 7 (by decide) (by decide)
  have e8 := h.2 8 (by decide) (by decide)
  have f1 := h.1 1 (by decide)
  have f2 := h.1 2 (by decide)
  have f3 := h.1 3 (by decide)
  have f4 := h.1 4 (by decide)
  have f5 := h.1 5 (by decide)
  obtain ⟨hr, hv, hg, hs⟩ := hR
  refine ⟨?_, h.vc hv, hg, ?_⟩
  · unfold RcV rP at hr ⊢
    rw [← f1, ← f2, ← f3, ← f4, ← f5, ← h.state, ← e1, ← e3, ← e4, ← e5, ← e6, ← e7, ← e8]
    exact hr
  · unfold SCv at hs ⊢
    rw [← f1, ← f4, ← e8]
    exact hs
theorem sv_eqv {v w : CV} (h : eqv v w) : sv v = sv w := by funext d; unfold sv; rw [h.serv, h.1 1 (by decide)]
def CtOK (v : CV) (a : Int → Int) : Prop := Rel v a ∧ sv v (v 0 4) ≤ v 0 2 ∧ v 0 4 ≤ 999
theorem CtOK.eqv {v w : CV} {a : Int → Int} (h : eqv v w) (hC : CtOK v a) : CtOK w a := by
  refine ⟨hC.1.eqv h, ?_, ?_⟩
  · rw [← sv_eqv h, ← h.1 4 (by decide), ← h.1 2 (by decide)]; exact hC.2.1
  · rw [← h.1 4 (by decide)]; exact hC.2.2
theorem cv_eqv {μ μ1 : Mem} {c : Nat} (h : ∀ k, c ≤ k → k ≤ c + 8 → μ1 k = μ k) : eqv (cv μ c) (cv μ1 c) :=
  ⟨fun i _ => (congrFun (h c (Nat.le_refl c) (by omega)) i).symm, fun j _ h2 => (h (c + j) (by omega) (by omega)).symm⟩
def iRow (μ : Mem) (i : Int) : Prop := (μ (rw i) 2 = -1 ∧ μ 84 i = -1000000) ∨ ((0 ≤ μ (rw i) 2 ∧ μ (rw i) 2 ≤ 40) ∧ (0 ≤ μ (rw i) 1 ∧ μ (rw i) 1 ≤ 2) ∧ μ 84 i = μ (rw i) 1 ∧ μ 85 i = μ (rw i) 2 ∧ ∀ j, 0 ≤ j → j < 40 → μ 86 (40 * i + j) = μ (rw i + 1) j ∧ inR (μ (rw i + 1) j))
def IRow (μ : Mem) : Prop := ∀ i, 0 ≤ i → i < 8 → iRow μ i
def ITape (μ : Mem) : Prop := μ 2 1 = μ 83 6 ∧ (0 ≤ μ 2 1 ∧ μ 2 1 ≤ 120) ∧ ∀ j, 0 ≤ j → j < μ 2 1 → μ 3 j = μ 88 j ∧ (0 ≤ μ 3 j ∧ μ 3 j ≤ 255)
def IMisc (μ : Mem) : Prop := (μ 0 9 = μ 83 7 ∧ (0 ≤ μ 0 9 ∧ μ 0 9 ≤ 3)) ∧ μ 0 10 = μ 83 4 ∧ (0 ≤ μ 0 10 ∧ μ 0 10 ≤ 5)
def ITrace (μ : Mem) : Prop := μ 45 1 = μ 83 21 ∧ (0 ≤ μ 45 1 ∧ μ 45 1 ≤ 16) ∧ ∀ j, 0 ≤ j → j < μ 45 1 → μ 46 j = μ 95 j ∧ inR (μ 46 j)
def ICourt (μ : Mem) : Prop := CtOK (cv μ 4) (μ 89)
def IImg (μ : Mem) : Prop := ∀ k, 0 ≤ k → k < 2 → (μ 94 k = 0 ∧ μ (im k) 0 = 0) ∨ (μ 94 k = 1 ∧ μ (im k) 0 = 1 ∧ CtOK (cv μ (im k)) (fun i => μ 93 (91 * k + i)))
def actOK (a : Int × Int × Int × Int) : Prop := a.1 = 0 ∨ (a.1 = 1 ∧ (0 ≤ a.2.1 * 4 + a.2.2.1 ∧ a.2.1 * 4 + a.2.2.1 < 24) ∧ (0 ≤ a.2.2.2 ∧ a.2.2.2 ≤ 7)) ∨ (a.1 = 2 ∧ (0 ≤ a.2.2.2 ∧ a.2.2.2 < 8))
def IActs (μ : Mem) : Prop := (0 ≤ μ 25 4 ∧ μ 25 4 < 24) ∧ (0 ≤ μ 25 5 ∧ μ 25 5 ≤ 24) ∧ μ 83 17 = μ 25 5 ∧ ∃ w : Int → CV, eqv (w (μ 25 5)) (cv μ 4) ∧ ∀ j, 0 ≤ j → j < μ 25 5 → eqv (w j) (unA (w (j + 1)) (aAct μ j)) ∧ actOK (aAct μ j) ∧ CtOK (w j) (fun i => μ 92 (91 * j + i))
def RgCs (μ : Mem) : Prop := RgC μ 4 ∧ RgC μ 14 ∧ RgC μ 31 ∧ RgC μ 63 ∧ RgC μ 73 ∧ RgA (μ 92) ∧ RgA (μ 93)
def Inv (μ : Mem) : Prop := IRow μ ∧ ITape μ ∧ IMisc μ ∧ ITrace μ ∧ ICourt μ ∧ IImg μ ∧ IActs μ ∧ RgCs μ
section CG
variable {μ μ1 : Mem}
theorem IRow.cg (hI : IRow μ) (h : ∀ k, ((47 ≤ k ∧ k ≤ 62) ∨ k = 84 ∨ k = 85 ∨ k = 86) → μ1 k = μ k) : IRow μ1 := by
  intro i h0 h1
  have := hI i h0 h1
  unfold iRow at this ⊢
  have e : (rw i : Nat) = 47 + 2 * i.toNat := rfl
  rw [h (rw i) (by omega), h (rw i + 1) (by omega), h 84 (by omega), h 85 (by omega), h 86 (by omega)]
  exact this
theorem ITape.cg (hI : ITape μ) (h1 : μ1 2 1 = μ 2 1) (h2 : μ1 3 = μ 3) (h3 : μ1 83 6 = μ 83 6) (h4 : μ1 88 = μ 88) : ITape μ1 := by unfold ITape at hI ⊢; rw [h1, h2, h3, h4]; exact hI
theorem IMisc.cg (hI : IMisc μ) (h1 : μ1 0 9 = μ 0 9) (h2 : μ1 0 10 = μ 0 10) (h3 : μ1 83 4 = μ 83 4) (h4 : μ1 83 7 = μ 83 7) : IMisc μ1 := by unfold IMisc at hI ⊢; rw [h1, h2, h3, h4]; exact hI
theorem ITrace.cg (hI : ITrace μ) (h1 : μ1 45 1 = μ 45 1) (h2 : μ1 46 = μ 46) (h3 : μ1 83 21 = μ 83 21) (h4 : μ1 95 = μ 95) : ITrace μ1 := by unfold ITrace at hI ⊢; rw [h1, h2, h3, h4]; exact hI
theorem ICourt.cg (hI : ICourt μ) (h1 : ∀ k, 4 ≤ k → k ≤ 12 → μ1 k = μ k) (h2 : μ1 89 = μ 89) : ICourt μ1 := by unfold ICourt at hI ⊢; rw [h2]; exact hI.eqv (cv_eqv h1)
theorem IImg.cg (hI : IImg μ) (h1 : ∀ k, 63 ≤ k → k ≤ 82 → μ1 k = μ k) (h2 : μ1 93 = μ 93) (h3 : μ1 94 = μ 94) : IImg μ1 := by
  intro k k0 k1
  have e : (im k : Nat) = 63 + 10 * k.toNat := rfl
  have := hI k k0 k1
  rw [h2, h3, h1 (im k) (by omega) (by omega)]
  rcases this with q | q
  · exact Or.inl q
  · exact Or.inr ⟨q.1, q.2.1, q.2.2.eqv (cv_eqv (fun j j0 j1 => h1 j (by omega) (by omega)))⟩
theorem aAct_cg (h : ∀ k, 25 ≤ k → k ≤ 29 → μ1 k = μ k) : aAct μ1 = aAct μ := by
  funext j
  unfold aAct
  rw [h 25 (by decide) (by decide), h 26 (by decide) (by decide), h 27 (by decide) (by decide), h 28 (by decide) (by decide), h 29 (by decide) (by decide)]
theorem IActs.cg (hI : IActs μ) (h1 : ∀ k, 25 ≤ k → k ≤ 29 → μ1 k = μ k) (h2 : μ1 83 17 = μ 83 17) (h3 : μ1 92 = μ 92) (h4 : ∀ k, 4 ≤ k → k ≤ 12 → μ1 k = μ k) : IActs μ1 := by
  unfold IActs at hI ⊢
  rw [aAct_cg h1, h1 25 (by decide) (by decide), h2, h3]
  obtain ⟨a, b, c, w, d, e⟩ := hI
  exact ⟨a, b, c, w, d.trans (cv_eqv h4), e⟩
theorem RgC.cg {c : Nat} (hI : RgC μ c) (h : ∀ k, c ≤ k → k ≤ c + 9 → μ1 k = μ k) : RgC μ1 c := fun j i hj => by rw [h (c + j) (by omega) (by omega)]; exact hI j i hj
theorem RgCs.cg (hI : RgCs μ) (h : ∀ k, ((4 ≤ k ∧ k ≤ 23) ∨ (31 ≤ k ∧ k ≤ 40) ∨ (63 ≤ k ∧ k ≤ 82) ∨ k = 92 ∨ k = 93) → μ1 k = μ k) : RgCs μ1 :=
  ⟨hI.1.cg (fun k a b => h k (by omega)), hI.2.1.cg (fun k a b => h k (by omega)), hI.2.2.1.cg (fun k a b => h k (by omega)), hI.2.2.2.1.cg (fun k a b => h k (by omega)), hI.2.2.2.2.1.cg (fun k a b => h k (by omega)), by rw [h 92 (by omega)]; exact hI.2.2.2.2.2.1, by rw [h 93 (by omega)]; exact hI.2.2.2.2.2.2⟩
/-- rows and status alone have changed -/
theorem Inv.rows (hI : Inv μ) (h : ∀ k, k ≠ 0 → k ≠ 83 → ¬ (47 ≤ k ∧ k ≤ 62) → k ≠ 84 → k ≠ 85 → k ≠ 86 → k ≠ 87 → μ1 k = μ k) (h0 : ∀ i, i ≠ 10 → μ1 0 i = μ 0 i) (h83 : ∀ i, i ≠ 4 → μ1 83 i = μ 83 i) (hr : IRow μ1) (hs : μ1 0 10 = μ1 83 4 ∧ (0 ≤ μ1 0 10 ∧ μ1 0 10 ≤ 5)) : Inv μ1 := by
  obtain ⟨i1, i2, i3, i4, i5, i6, i7, i8⟩ := hI
  have hh : ∀ k, k ≠ 0 → k ≠ 83 → ¬ (47 ≤ k ∧ k ≤ 62) → (k < 84 ∨ 87 < k) → μ1 k = μ k := fun k a b c d => h k a b c (by omega) (by omega) (by omega) (by omega)
  refine ⟨hr, i2.cg ?_ ?_ (h83 6 (by decide)) ?_, ⟨?_, hs⟩, i4.cg ?_ ?_ (h83 21 (by decide)) ?_, i5.cg (fun k a b => hh k (by omega) (by omega) (by omega) (by omega)) ?_, i6.cg (fun k a b => hh k (by omega) (by omega) (by omega) (by omega)) ?_ ?_, i7.cg (fun k a b => hh k (by omega) (by omega) (by omega) (by omega)) (h83 17 (by decide)) ?_ (fun k a b => hh k (by omega) (by omega) (by omega) (by omega)), i8.cg (fun k a => hh k (by omega) (by omega) (by omega) (by omega))⟩
  · rw [hh 2 (by decide) (by decide) (by decide) (by decide)]
  · exact hh 3 (by decide) (by decide) (by decide) (by decide)
  · exact hh 88 (by decide) (by decide) (by decide) (by decide)
  · rw [h0 9 (by decide), h83 7 (by decide)]; exact i3.1
  · rw [hh 45 (by decide) (by decide) (by decide) (by decide)]
  · exact hh 46 (by decide) (by decide) (by decide) (by decide)
  · exact hh 95 (by decide) (by decide) (by decide) (by decide)
  · exact hh 89 (by decide) (by decide) (by decide) (by decide)
  · exact hh 93 (by decide) (by decide) (by decide) (by decide)
  · exact hh 94 (by decide) (by decide) (by decide) (by decide)
  · exact hh 92 (by decide) (by decide) (by decide) (by decide)
/-- a finding, or none -/
theorem Inv.st {x : Int} (hI : Inv μ) (hx : 0 ≤ x ∧ x ≤ 5) : Inv (up (up μ 0 10 x) 83 4 x) := by
  refine hI.rows (fun k a b _ _ _ _ _ => by rw [up_ne b, up_ne a]) (fun i hi => by rw [up_ne (by decide), up_off (Or.inr hi)]) (fun i hi => by rw [up_off (Or.inr hi), up_ne (by decide)]) (hI.1.cg (fun k hk => by rw [up_ne (by omega), up_ne (by omega)])) ?_
  rw [up_self, up_ne (by decide), up_self]
  exact ⟨rfl, hx⟩
end CG
/-- the class answers r, then the reference answers r, and all holds as before -/
def Pair (E : Ex) (d7 : Nat) (M7 : Mth) (d8 : Nat) (M8 : Mth) (as : List Vl) (μ : Mem) : Prop := Cl E d7 M7 (.inr 0 :: as) μ (fun v μ1 => ∃ r, v = some (.inl r) ∧ inR r ∧ Cl E d8 M8 (.inr 83 :: as) μ1 (fun w μ2 => w = some (.inl r) ∧ Inv μ2))
theorem cTurn_0 {v : CV} {d b : Int} (h : v 0 3 = 0) : cTurn v d b = b := if_pos h
theorem cTurn_1 {v : CV} {d b : Int} (h : v 0 3 ≠ 0) : cTurn v d b = b + d / v 0 3 := if_neg h
section P51
variable {E : Ex} {μ : Mem} {x1 x2 x3 x4 x5 : Int}
theorem pr_fault (hI : Inv μ) : Pair E 0 M_X7_fault 0 M_X8_fault [] μ := by
  have h := hI.2.2.1.1
  exact s_X7_fault ⟨_, rfl, by omega, s_X8_fault ⟨by rw [h.1], hI⟩⟩
theorem pr_status (hI : Inv μ) : Pair E 0 M_X7_status 0 M_X8_status [] μ := by
  have h := hI.2.2.1.2
  exact s_X7_status ⟨_, rfl, by omega, s_X8_status ⟨by rw [h.1], hI⟩⟩
theorem pr_trace (hI : Inv μ) (i1 : inR x1) : Pair E 1 M_X7_trace 1 M_X8_trace [.inl x1] μ := by
  obtain ⟨h1, h2, h3⟩ := hI.2.2.2.1
  refine s_X7_trace i1 ⟨by omega, fun z => ⟨_, rfl, by decide, s_X8_trace i1 ⟨by omega, fun _ => ⟨rfl, hI⟩, fun z2 => absurd (by omega) z⟩⟩, fun z => ⟨by omega, _, rfl, (h3 x1 z.1 z.2).2, s_X8_trace i1 ⟨by omega, fun z2 => absurd (by omega) z2, fun z2 => ⟨by omega, by rw [(h3 x1 z.1 z.2).1], hI⟩⟩⟩⟩
theorem pr_kind (hI : Inv μ) (i1 : inR x1) : Pair E 2 M_X7_kind 2 M_X8_kind [.inl x1] μ := by
  have hR := hI.2.2.2.2.1.1
  have hn := hR.n
  have e2 := hR.a2
  simp only [cv, Nat.add_zero] at hn e2
  refine s_X7_kind i1 ⟨by omega, fun z => ⟨_, rfl, by decide, s_X8_kind i1 ⟨by omega, fun _ => ⟨rfl, hI⟩, fun z2 => absurd (by omega) z⟩⟩, fun z => ⟨by omega, _, rfl, ?_, s_X8_kind i1 ⟨by omega, fun z2 => absurd (by omega) z2, fun z2 => ⟨by omega, ?_, hI⟩⟩⟩⟩
  · have := (hR.ok z.1 z.2).1; simp only [cv] at this; omega
  · rw [(hR.p z.1 z.2).1]; rfl
theorem pr_order (hI : Inv μ) (i1 : inR x1) : Pair E 1 M_X7_order 1 M_X8_order [.inl x1] μ := by
  have hR := hI.2.2.2.2.1.1
  obtain ⟨⟨a0, a1, a2, a3, a4, a5, -⟩, ⟨v0, v1, v3, v4, v5, -⟩, -⟩ := hR
  simp only [cv, Nat.add_zero] at v0 v1 v3 v4 a0 a1 a2 a3
  have hT : 0 ≤ cTurn (cv μ 4) (μ 4 4) 0 ∧ cTurn (cv μ 4) (μ 4 4) 0 ≤ 2000 := by
    by_cases hq : μ 4 3 = 0
    · rw [cTurn_0 (v := cv μ 4) hq]; omega
    · rw [cTurn_1 (v := cv μ 4) hq, show cv μ 4 0 3 = μ 4 3 from rfl]
      have h1 : 0 ≤ μ 4 4 / μ 4 3 := Int.ediv_nonneg v4.1 v3.1
      have h2 : μ 4 4 / μ 4 3 ≤ μ 4 4 := Int.ediv_le_self _ v4.1
      omega
  refine s_X7_order i1 ⟨by omega, fun z => ?_, fun z => ⟨_, rfl, by decide, s_X8_order i1 ⟨by omega, fun z2 => absurd z2 (by omega), fun _ => ⟨rfl, hI⟩⟩⟩⟩
  have hs : 1 ≤ μ 4 2 ∧ oOK (cv μ 4) := by
    rcases v0 with q | q
    · exact absurd q.1 z
    · exact ⟨q.2.1.1, q.2.2⟩
  refine ⟨fun z2 => ⟨_, rfl, by decide, s_X8_order i1 ⟨by omega, fun _ => ⟨fun z3 => absurd (by omega) z2, fun _ => ⟨rfl, hI⟩⟩, fun z3 => absurd (show 0 < μ 89 0 by omega) z3⟩⟩, fun z2 => ⟨by omega, by omega, by omega, _, rfl, ?_, s_X8_order i1 ⟨by omega, fun _ => ⟨fun _ => ⟨by omega, fun z3 => ⟨⟨by omega, z3⟩, ?_⟩, fun z3 => ?_⟩, fun z3 => absurd (by omega) z3⟩, fun z3 => absurd (show 0 < μ 89 0 by omega) z3⟩⟩⟩
  · have := (hs.2 ((x1 + cTurn (cv μ 4) (μ 4 4) 0) % 8) (by omega) (by omega)).1.1
    simp only [cv] at this; omega
  · have e : x1 + jdiv (μ 89 3) (μ 89 1) = x1 + cTurn (cv μ 4) (μ 4 4) 0 := by
      rw [a3, a1, jdiv_pos v4.1 (by omega) (by omega) (by omega)]
      rw [cTurn_1 (v := cv μ 4) (show μ 4 3 ≠ 0 by omega), show cv μ 4 0 3 = μ 4 3 from rfl]; omega
    rw [e, jrem_pos (by omega) (by omega) (by decide) (by decide)]
    refine ⟨by omega, ?_, hI⟩
    rw [a5 _ (by omega) (by omega)]; rfl
  · have e : x1 + 0 = x1 + cTurn (cv μ 4) (μ 4 4) 0 := by
      rw [cTurn_0 (v := cv μ 4) (show μ 4 3 = 0 by omega)]
    rw [e, jrem_pos (by omega) (by omega) (by decide) (by decide)]
    refine ⟨by omega, ?_, hI⟩
    rw [a5 _ (by omega) (by omega)]; rfl
end P51
