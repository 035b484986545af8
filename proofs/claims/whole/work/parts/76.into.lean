/-! A court is read: from the first byte to the answer. -/
set_option maxRecDepth 20000 in
theorem s_X4_readInto {E : Ex} {μ : Mem} {Q : Option Vl → Mem → Prop}  (h : ∀ μ1 : Mem, chC μ μ1 14 (bgC (cv μ 14)) → ∀ μ2 : Mem, μ2 = up μ1 2 4 0 → Cl E 1 M_X4_step [.inr 2] μ2 (fun vv μ3 => vv = none ∧ Cl E 3 M_X4_readLaw [.inr 2, .inr 14] μ3 (fun vv μ5 => ∃ v6, vv = some (.inl (bi v6)) ∧ (v6 = false → Q (some (.inl (bi false))) μ5) ∧ (v6 = true → Cl E 3 M_X4_readOrder [.inr 2, .inr 14] μ5 (fun vv μ7 => ∃ v8, vv = some (.inl (bi v8)) ∧ (v8 = false → Q (some (.inl (bi false))) μ7) ∧ (v8 = true → Cl E 4 M_X4_readPeople [.inr 2, .inr 14] μ7 (fun vv μ9 => ∃ v10, vv = some (.inl (bi v10)) ∧ (v10 = false → Q (some (.inl (bi false))) μ9) ∧ (v10 = true → Q (some (.inl (bi true))) μ9)))))))) : Cl E 5 M_X4_readInto [.inr 2, .inr 14] μ Q := by
  show Gg E 5 M_X4_readInto 0 [some (.inr 2), some (.inr 14)] [] μ Q
  refine r_aloadn (q := 1) DM_X4_readInto_0 rfl rfl ?_
  refine r_callVv [] (q := 4) DM_X4_readInto_1 rfl kM_X2_begin lRX4_19 (co0 cK_14) rfl rfl (by decide) (Nat.le_of_ble_eq_true rfl) rfl (k_X2_begin cK_14 (fun μ1 e1 => ⟨rfl, ?_⟩))
  replace h := h μ1 e1
  refine r_aloadn (q := 5) DM_X4_readInto_4 rfl rfl ?_
  refine r_iconst (q := 6) (n := 0) DM_X4_readInto_5 rfl ?_
  refine v_put (q := 9) (ji := 4) DM_X4_readInto_6 rfl pfRX4_24 sh_2 rfl rfl (Or.inl rfl) (fun μ2 e2 => ?_)
  replace h := h μ2 e2
  refine r_aloadn (q := 10) DM_X4_readInto_9 rfl rfl ?_
  refine r_callVv [] (q := 13) DM_X4_readInto_10 rfl kM_X4_step lRX4_27 sh_2 rfl rfl (by decide) (Nat.le_of_ble_eq_true rfl) rfl (Cl.imp h (fun vv μ3 h => ?_))
  obtain ⟨hv, h⟩ := h
  refine ⟨hv, ?_⟩
  refine r_aloadn (q := 14) DM_X4_readInto_13 rfl rfl ?_
  refine r_aloadn (q := 15) DM_X4_readInto_14 rfl rfl ?_
  refine r_callVi [.inr 14] (q := 18) DM_X4_readInto_15 rfl kM_X4_readLaw lRX4_30 sh_2 rfl rfl (by decide) (Nat.le_of_ble_eq_true rfl) rfl (Cl.imp h (fun vv μ5 h => ?_))
  obtain ⟨v6, hv, h⟩ := h
  refine ⟨_, hv, ?_⟩
  refine r_bbeq (q := 21) (t := 41) DM_X4_readInto_18 rfl (by decide) ⟨fun cc => ?_, fun cc => ?_⟩
  · replace h := h.1 cc
    refine r_iconst (q := 42) (n := 0) DM_X4_readInto_41 rfl ?_
    exact r_ret (v := some (.inl 0)) ⟨DM_X4_readInto_42, Or.inr ⟨rfl, Or.inl rfl⟩⟩ h
  · replace h := h.2 cc
    refine r_aloadn (q := 22) DM_X4_readInto_21 rfl rfl ?_
    refine r_aloadn (q := 23) DM_X4_readInto_22 rfl rfl ?_
    refine r_callVi [.inr 14] (q := 26) DM_X4_readInto_23 rfl kM_X4_readOrder lRX4_34 sh_2 rfl rfl (by decide) (Nat.le_of_ble_eq_true rfl) rfl (Cl.imp h (fun vv μ7 h => ?_))
    obtain ⟨v8, hv, h⟩ := h
    refine ⟨_, hv, ?_⟩
    refine r_bbeq (q := 29) (t := 41) DM_X4_readInto_26 rfl (by decide) ⟨fun cc => ?_, fun cc => ?_⟩
    · replace h := h.1 cc
      refine r_iconst (q := 42) (n := 0) DM_X4_readInto_41 rfl ?_
      exact r_ret (v := some (.inl 0)) ⟨DM_X4_readInto_42, Or.inr ⟨rfl, Or.inl rfl⟩⟩ h
    · replace h := h.2 cc
      refine r_aloadn (q := 30) DM_X4_readInto_29 rfl rfl ?_
      refine r_aloadn (q := 31) DM_X4_readInto_30 rfl rfl ?_
      refine r_callVi [.inr 14] (q := 34) DM_X4_readInto_31 rfl kM_X4_readPeople lRX4_37 sh_2 rfl rfl (by decide) (Nat.le_of_ble_eq_true rfl) rfl (Cl.imp h (fun vv μ9 h => ?_))
      obtain ⟨v10, hv, h⟩ := h
      refine ⟨_, hv, ?_⟩
      refine r_bbeq (q := 37) (t := 41) DM_X4_readInto_34 rfl (by decide) ⟨fun cc => ?_, fun cc => ?_⟩
      · replace h := h.1 cc
        refine r_iconst (q := 42) (n := 0) DM_X4_readInto_41 rfl ?_
        exact r_ret (v := some (.inl 0)) ⟨DM_X4_readInto_42, Or.inr ⟨rfl, Or.inl rfl⟩⟩ h
      · replace h := h.2 cc
        refine r_iconst (q := 38) (n := 1) DM_X4_readInto_37 rfl ?_
        refine r_goto (q := 42) DM_X4_readInto_38 (by decide) ?_
        exact r_ret (v := some (.inl 1)) ⟨DM_X4_readInto_42, Or.inr ⟨rfl, Or.inr rfl⟩⟩ h
set_option maxRecDepth 20000 in
theorem s_X7_court {E : Ex} {μ : Mem} {Q : Option Vl → Mem → Prop}  (h : Cl E 5 M_X4_readInto [.inr 2, .inr 14] μ (fun vv μ1 => ∃ v2, vv = some (.inl (bi v2)) ∧ ∀ μ3 : Mem, μ3 = up μ1 2 1 0 → (v2 = true → (4 + 10 ≤ 14 ∨ 14 + 10 ≤ 4) ∧ (μ3 14 0 = 0 ∨ μ3 14 0 = 1) ∧ ∀ μ6 : Mem, chC μ3 μ6 4 (tkC (cv μ3 4) (cv μ3 14)) → ∀ μ7 : Mem, μ7 = up μ6 25 5 0 → Q (some (.inl (μ7 4 1))) μ7) ∧ (v2 = false → ∀ μ8 : Mem, μ8 = up μ3 0 9 (μ3 2 2) → Q (some (.inl ((-1000100) - (μ8 2 3)))) μ8))) : Cl E 6 M_X7_court [.inr 0] μ Q := by
  show Gg E 6 M_X7_court 0 [some (.inr 0), none] [] μ Q
  refine r_aloadn (q := 1) DM_X7_court_0 rfl rfl ?_
  refine r_getR (q := 4) (r := 2) DM_X7_court_1 rfl fRX7_18 sh_0 rfl ?_
  refine r_aloadn (q := 5) DM_X7_court_4 rfl rfl ?_
  refine r_getR (q := 8) (r := 14) DM_X7_court_5 rfl fRX7_29 sh_0 rfl ?_
  refine r_callVi [.inr 14] (q := 11) DM_X7_court_8 rfl kM_X4_readInto lRX7_116 sh_2 rfl rfl (by decide) (Nat.le_of_ble_eq_true rfl) rfl (Cl.imp h (fun vv μ1 h => ?_))
  obtain ⟨v2, hv, h⟩ := h
  refine ⟨_, hv, ?_⟩
  refine v_istoren (q := 12) (ls' := [some (.inr 0), some (.inl (bi v2))]) DM_X7_court_11 rfl (by decide) rfl ?_
  refine r_aloadn (q := 13) DM_X7_court_12 rfl rfl ?_
  refine r_getR (q := 16) (r := 2) DM_X7_court_13 rfl fRX7_18 sh_0 rfl ?_
  refine r_iconst (q := 17) (n := 0) DM_X7_court_16 rfl ?_
  refine v_put (q := 20) (ji := 1) DM_X7_court_17 rfl pfRX7_108 sh_2 rfl rfl (Or.inl rfl) (fun μ3 e3 => ?_)
  replace h := h μ3 e3
  refine r_iloadn (q := 21) DM_X7_court_20 rfl rfl ?_
  refine r_bbne (q := 24) (t := 46) DM_X7_court_21 rfl (by decide) ⟨fun cc => ?_, fun cc => ?_⟩
  · replace h := h.1 cc
    refine r_aloadn (q := 47) DM_X7_court_46 rfl rfl ?_
    refine r_getR (q := 50) (r := 4) DM_X7_court_47 rfl fRX7_25 sh_0 rfl ?_
    refine r_aloadn (q := 51) DM_X7_court_50 rfl rfl ?_
    refine r_getR (q := 54) (r := 14) DM_X7_court_51 rfl fRX7_29 sh_0 rfl ?_
    have i4 := h.1
    replace h := h.2
    have i5 := h.1
    replace h := h.2
    refine r_callVv [.inr 14] (q := 57) DM_X7_court_54 rfl kM_X2_takeFrom lRX7_130 (co0 cK_4) rfl rfl (by decide) (Nat.le_of_ble_eq_true rfl) rfl (k_X2_takeFrom cK_4 cK_14 i4 i5 (fun μ6 e6 => ⟨rfl, ?_⟩))
    replace h := h μ6 e6
    refine r_aloadn (q := 58) DM_X7_court_57 rfl rfl ?_
    refine r_getR (q := 61) (r := 25) DM_X7_court_58 rfl fRX7_39 sh_0 rfl ?_
    refine r_callVv [] (q := 64) DM_X7_court_61 rfl kM_X0_forgetAll lRX7_134 sh_25 rfl rfl (by decide) (Nat.le_of_ble_eq_true rfl) rfl (k_X0_forgetAll  (fun μ7 e7 => ⟨rfl, ?_⟩))
    replace h := h μ7 e7
    refine r_aloadn (q := 65) DM_X7_court_64 rfl rfl ?_
    refine r_getR (q := 68) (r := 4) DM_X7_court_65 rfl fRX7_25 sh_0 rfl ?_
    refine v_getI (q := 71) (ji := 1) DM_X7_court_68 rfl fRX7_137 (co0 cK_4) rfl rfl ?_
    exact r_ret (v := some (.inl (μ7 4 1))) ⟨DM_X7_court_71, Or.inl rfl⟩ h
  · replace h := h.2 cc
    refine r_aloadn (q := 25) DM_X7_court_24 rfl rfl ?_
    refine r_aloadn (q := 26) DM_X7_court_25 rfl rfl ?_
    refine r_getR (q := 29) (r := 2) DM_X7_court_26 rfl fRX7_18 sh_0 rfl ?_
    refine v_getI (q := 32) (ji := 2) DM_X7_court_29 rfl fRX7_120 sh_2 rfl rfl ?_
    refine v_put (q := 35) (ji := 9) DM_X7_court_32 rfl pfRX7_123 sh_0 rfl rfl (Or.inl rfl) (fun μ8 e8 => ?_)
    replace h := h μ8 e8
    refine r_ldc (q := 37) (n := (-1000100)) DM_X7_court_35 rfl nRX7_126 ?_
    refine r_aloadn (q := 38) DM_X7_court_37 rfl rfl ?_
    refine r_getR (q := 41) (r := 2) DM_X7_court_38 rfl fRX7_18 sh_0 rfl ?_
    refine v_getI (q := 44) (ji := 3) DM_X7_court_41 rfl fRX7_127 sh_2 rfl rfl ?_
    refine r_isub (q := 45) DM_X7_court_44 rfl ?_
    exact r_ret (v := some (.inl ((-1000100) - (μ8 2 3)))) ⟨DM_X7_court_45, Or.inl rfl⟩ h
section P76
variable {E : Ex} {Q : Option Vl → Mem → Prop} {T : Int → Int} {n : Int} {μ : Mem}
/-- the start of the reference -/
theorem rd_start {o : Out} {ν : Mem} (hT : tkOK T n) (h : RX (Plaw T n 0) (Glaw E T n 0) o) (h6 : ν 83 6 = n) (h88 : ∀ j, 0 ≤ j → j < n → ν 88 j = T j) (hq : ∀ ν1 : Mem, ePost o ν ν1 → Q (some (.inl (eVal o))) ν1) : Cl E 5 M_X8_court [.inr 83] ν Q := by
  refine s_X8_court ?_
  suffices hh : ∀ ν' : Mem, (∀ k, k ≠ 90 → ν' k = ν k) → (∀ i, 0 ≤ i → i < 0 → ν' 90 i = 0) → Gg E 5 M_X8_court 2 [some (.inr 83), some (.inl 0)] [] ν' Q from hh ν (fun _ _ => rfl) (fun i a b => absurd b (by omega))
  refine up_ind (N := 91) (P := fun p => ∀ ν' : Mem, (∀ k, k ≠ 90 → ν' k = ν k) → (∀ i, 0 ≤ i → i < p → ν' 90 i = 0) → Gg E 5 M_X8_court 2 [some (.inr 83), some (.inl p)] [] ν' Q) 0 (by decide) (fun ν' k1 z1 => ?_) (fun p q1 q2 ih ν' k1 z1 => ?_)
  · refine s_X8_court_2 ⟨by decide, fun _ μ2 e2 μ3 e3 => ?_, fun z => absurd (Int.le_refl _) z⟩
    have k3 : ∀ k, k ≠ 83 → μ3 k = ν' k := fun k hk => by rw [e3, up_ne hk, e2, up_ne hk]
    have s3 : ∀ i, i ≠ 8 → i ≠ 9 → μ3 83 i = ν' 83 i := fun i a b => by rw [e3, up_off (Or.inr a), e2, up_off (Or.inr b)]
    refine k_X8_advances hT (a := 0) (by rw [s3 6 (by decide) (by decide), k1 83 (by decide)]; exact h6) (fun j j0 j1 => by rw [k3 88 (by decide), k1 88 (by decide)]; exact h88 j j0 j1) (by rw [e3, up_off (Or.inr (by decide)), e2, up_self]) ⟨by decide, hT.1.1⟩ (fun μ4 c4 r4 => ?_)
    have P4 : Plaw T n 0 μ4 := ⟨⟨c4, by rw [r4.2 8 (by decide), e3, up_self]⟩, fun i i0 i1 => by rw [r4.1 90 (by decide), k3 90 (by decide)]; exact z1 i i0 i1⟩
    have md : mdR ν μ4 := ⟨fun k a b => by rw [r4.1 k a, k3 k a, k1 k b], fun i hi => by rw [r4.2 i (by omega), s3 i (by omega) (by omega), k1 83 (by decide)]⟩
    have g := h μ4 Q P4 (fun ν1 p1 => hq ν1 (ePost.md md p1))
    unfold Glaw at g
    have e11 := c4.2.2.1
    have t1 := rTk_1 (t := tkT T n 0)
    have rr := rTk_rng (t := tkT T n 0)
    have e12 := c4.2.2.2.1.2
    refine ⟨rfl, by omega, fun z => ?_, fun z => ⟨by omega, fun z2 => ?_, fun z2 => ?_⟩⟩
    · rwa [if_neg (by omega)] at g
    · rwa [if_neg (by omega)] at g
    · rwa [if_pos (by omega)] at g
  · refine s_X8_court_2 ⟨by omega, fun z => absurd z (by omega), fun _ => ⟨by omega, fun μ8 e8 => ih μ8 (fun k hk => by rw [e8, up_ne hk, k1 k hk]) (fun i i0 i1 => ?_)⟩⟩
    rw [e8]
    by_cases hip : i = p
    · subst hip; exact up_self
    · rw [up_off (Or.inr hip)]; exact z1 i i0 (by omega)
def dO (s t : Int) (w : Int → Int) : Int → Int := fun i => if i = 0 then s else if i = 1 then t else if 5 ≤ i ∧ i < 13 then w (i - 5) else 0
theorem rx_dO {s t b : Int} {o : Out} {w : Int → Int} (h : RX (P9 T n b (dO s t w)) (G130 E) o) : RX (P32 T n s t w 8 b) (G130 E) o := by
  intro ν Q hP hq
  obtain ⟨hW, o0, o1, o2, o5, o13⟩ := hP
  obtain ⟨ν', e⟩ : ∃ ν' : Mem, ν' = fun k i => if k = 90 then dO s t w i else ν k i := ⟨_, rfl⟩
  have k1 : ∀ k, k ≠ 90 → ν' k = ν k := fun k hk => by funext i; rw [e]; exact if_neg hk
  have k9 : ν' 90 = dO s t w := by rw [e]; funext i; exact if_pos rfl
  have g := h ν' Q ⟨by unfold W8 C8 at hW ⊢; rw [k1 83 (by decide), k1 88 (by decide)]; exact hW, k9⟩ (fun ν1 p1 => hq ν1 (ePost.md ⟨fun k _ b => k1 k b, fun i _ => by rw [k1 83 (by decide)]⟩ p1))
  unfold G130 at g ⊢
  refine Gg.agr (μ' := ν') (fun k i hk i0 i1 => ?_) g
  by_cases hk9 : k = 90
  · subst hk9
    rw [k9]
    rw [sh_90] at i1
    have i2 : i < 91 := by simpa using i1
    unfold dO
    by_cases c0 : i = 0
    · rw [if_pos c0, c0]; exact o0
    · by_cases c1 : i = 1
      · rw [if_neg c0, if_pos c1, c1]; exact o1
      · rw [if_neg c0, if_neg c1]
        by_cases c5 : 5 ≤ i ∧ i < 13
        · rw [if_pos c5, ← o5 (i - 5) (by omega) (by omega)]; congr 1; omega
        · rw [if_neg c5]
          rcases (show i < 5 ∨ 13 ≤ i by omega) with q | q
          · exact o2 i (by omega) q
          · exact o13 i q i2
  · rw [k1 k hk9]
theorem rd_into (hT : tkOK T n) (h1 : μ 2 1 = n) (h3 : ∀ j, 0 ≤ j → j < n → μ 3 j = T j)
    (hF : ∀ (f b : Int) (μ1 : Mem), RX (Plaw T n 0) (Glaw E T n 0) (.inl (f, b)) → c7R μ μ1 → μ1 2 2 = f → μ1 2 3 = b → (1 ≤ f ∧ f ≤ 3) → (0 ≤ b ∧ b ≤ n) → Q (some (.inl (bi false))) μ1)
    (hS : ∀ μ1 : Mem, RX (Plaw T n 0) (Glaw E T n 0) (.inr (cv μ1 14)) → c7R μ μ1 → pcI (cv μ1 14) → Q (some (.inl (bi true))) μ1) : Cl E 5 M_X4_readInto [.inr 2, .inr 14] μ Q := by
  have hn := hT.1
  refine s_X4_readInto (fun μ1 b1 μ2 e2 => k_X4_step hT (a := 0) ?_ (fun j j0 j1 => ?_) ?_ ⟨by decide, hn.1⟩ (fun μ3 c3 o3 => ⟨rfl, ?_⟩))
  · rw [e2, up_off (Or.inr (by decide)), b1.2 2 (by decide)]; exact h1
  · rw [e2, up_ne (by decide), b1.2 3 (by decide)]; exact h3 j j0 j1
  · rw [e2, up_self]
  have r3 : c7R μ μ3 := by
    refine ⟨fun k a b => by rw [o3 k a, e2, up_ne a, b1.2 k (by omega)], fun g j i hj => ?_⟩
    rw [o3 (14 + j) (by omega), e2, up_ne (by omega)]
    have e : μ1 (14 + j) i = bgC (cv μ 14) j i := congrFun (congrFun b1.1 j) i
    have := g j i hj
    rw [e]
    unfold bgC
    repeat (first | (show -2000000 ≤ μ (14 + j) i ∧ μ (14 + j) i ≤ 2000000; exact this) | split | decide)
  have v3 : cv μ3 14 = bgC (cv μ 14) := by
    rw [← b1.1]
    funext j i
    show μ3 (14 + j) i = μ1 (14 + j) i
    rw [o3 (14 + j) (by omega), e2, up_ne (by omega)]
  refine rd_law hT c3 ⟨by decide, hn.1⟩ (fun f b μ4 h4 r4 g1 g2 g3 g4 => ⟨_, rfl, fun _ => hF f b μ4 h4 (r3.tr r4) g1 g2 g3 g4, fun y => absurd y (by decide)⟩) (fun b s t μ4 c4 b4 hs ht r4 o4 m4 s4 t4 h4 => ⟨_, rfl, fun y => absurd y (by decide), fun _ => ?_⟩)
  refine rd_order (s := s) (t := t) hT c4 b4 (fun f b' μ5 h5 r5 g1 g2 g3 g4 => ⟨_, rfl, fun _ => hF f b' μ5 (h4 _ h5) ((r3.tr r4).tr r5) g1 g2 g3 g4, fun y => absurd y (by decide)⟩) (fun b' μ5 c5 b5 r5 o5 oo h5 => ⟨_, rfl, fun y => absurd y (by decide), fun _ => ?_⟩)
  have rx : ∀ o, RX (P9 T n b' (dO s t (μ5 (14 + 1)))) (G130 E) o → RX (Plaw T n 0) (Glaw E T n 0) o := fun o ho => h4 o (h5 o (rx_dO ho))
  have v0 : ∀ i, i ≠ 2 → i ≠ 3 → cv μ5 14 0 i = bgC (cv μ 14) 0 i := fun i a b => by
    rw [← v3]
    show μ5 14 i = μ3 14 i
    rw [o5 14 (by decide) (by decide) (by decide), m4 i a b]
  have v2 : cv μ5 14 0 2 = s := by show μ5 14 2 = s; rw [o5 14 (by decide) (by decide) (by decide)]; exact s4
  have v3' : cv μ5 14 0 3 = t := by show μ5 14 3 = t; rw [o5 14 (by decide) (by decide) (by decide)]; exact t4
  have w0 : cv μ5 14 0 0 = 1 := v0 0 (by decide) (by decide)
  have w1 : cv μ5 14 0 1 = 0 := v0 1 (by decide) (by decide)
  have w4 : cv μ5 14 0 4 = 0 := v0 4 (by decide) (by decide)
  have w5 : cv μ5 14 0 5 = 0 := v0 5 (by decide) (by decide)
  have w8 : ∀ i, cv μ5 14 8 i = -1000000 := fun i => by
    have : cv μ5 14 8 i = cv μ3 14 8 i := by
      show μ5 22 i = μ3 22 i
      rw [o5 22 (by decide) (by decide) (by decide), o4 22 (by decide) (by decide)]
    rw [this, v3]; rfl
  have hc : pcI (cv μ5 14) := ⟨w0, by omega, by omega, by omega, w4, w5, oo, w8, fun p p0 p1 => absurd p1 (by omega)⟩
  have hd : pdI (cv μ5 14) (dO s t (μ5 (14 + 1))) := by
    refine ⟨by rw [v2]; rfl, by rw [v3']; rfl, by rw [w1]; rfl, rfl, rfl, fun i i0 i1 => ?_, fun p p0 p1 => absurd p1 (by omega), fun i i0 i1 => ?_⟩
    · unfold dO
      rw [if_neg (by omega), if_neg (by omega), if_pos (by omega)]
      show μ5 (14 + 1) (5 + i - 5) = μ5 (14 + 1) i
      congr 1; omega
    · unfold dO
      split
      · omega
      · split
        · omega
        · split
          · have := (oo (i - 5) (by omega) (by omega)).1.1
            replace this : 0 ≤ μ5 (14 + 1) (i - 5) ∧ μ5 (14 + 1) (i - 5) ≤ 7 := this
            omega
          · decide
  refine s_X4_readPeople (rd_people hT (n + 1).toNat 0 b' μ5 (dO s t (μ5 (14 + 1))) (by omega) ⟨by decide, b5.1⟩ c5 b5 hc hd (fun f b'' μ6 h6 r6 g1 g2 g3 g4 => ⟨_, rfl, fun _ => hF f b'' μ6 (rx _ h6) (((r3.tr r4).tr r5).tr r6) g1 g2 g3 g4, fun y => absurd y (by decide)⟩) (fun μ6 h6 r6 hc6 k6 => ⟨_, rfl, fun y => absurd y (by decide), fun _ => hS μ6 (rx _ h6) (((r3.tr r4).tr r5).tr r6) hc6⟩))
theorem pr_court (hI : Inv μ) : Pair E 6 M_X7_court 5 M_X8_court [] μ := by
  obtain ⟨i1, i2, i3, i4, i5, i6, i7, i8⟩ := id hI
  have hT : tkOK (μ 3) (μ 2 1) := ⟨i2.2.1, fun j a b => (i2.2.2 j a b).2⟩
  have hn := hT.1
  refine s_X7_court (rd_into hT rfl (fun _ _ _ => rfl) (fun f b μ1 h1 r1 g1 g2 g3 g4 => ⟨_, rfl, fun μ3 e3 => ⟨fun y => absurd y (by decide), fun _ μ8 e8 => ⟨_, rfl, ?_, ?_⟩⟩⟩) (fun μ1 h1 r1 hc => ⟨_, rfl, fun μ3 e3 => ⟨fun _ => ⟨by decide, Or.inr ?_, fun μ6 h6 μ7 e7 => ⟨_, rfl, ?_, ?_⟩⟩, fun y => absurd y (by decide)⟩⟩))
  · have : μ8 2 3 = b := by rw [e8, up_ne (by decide), e3, up_off (Or.inr (by decide))]; exact g2
    rw [this]; unfold inR; omega
  · have e23 : μ8 2 3 = b := by rw [e8, up_ne (by decide), e3, up_off (Or.inr (by decide))]; exact g2
    have k8 : ∀ k, k ≠ 0 → k ≠ 2 → (k < 14 ∨ 24 ≤ k) → μ8 k = μ k := fun k a b c => by rw [e8, up_ne a, e3, up_ne b, r1.1 k b c]
    refine rd_start hT h1 (by rw [k8 83 (by decide) (by decide) (by decide)]; exact i2.1.symm) (fun j j0 j1 => by rw [k8 88 (by decide) (by decide) (by decide)]; exact (i2.2.2 j j0 j1).1.symm) (fun ν1 p1 => ⟨by rw [e23]; rfl, ?_⟩)
    obtain ⟨p1, p2, p3, p4⟩ := p1
    have k9 : ∀ k, k ≠ 0 → k ≠ 2 → (k < 14 ∨ 24 ≤ k) → k ≠ 83 → k ≠ 90 → ν1 k = μ k := fun k a b c d e => by rw [p1 k d e, k8 k a b c]
    have s9 : ∀ i, (i < 6 ∨ 12 < i) → ν1 83 i = μ 83 i := fun i hi => by rw [p2 i hi, k8 83 (by decide) (by decide) (by decide)]
    have z21 : ν1 2 1 = 0 := by rw [p1 2 (by decide) (by decide), e8, up_ne (by decide), e3, up_self]
    have z09 : ν1 0 9 = f := by
      rw [p1 0 (by decide) (by decide), e8, up_self, e3, up_off (Or.inr (by decide))]; exact g1
    have z0 : ∀ i, i ≠ 9 → ν1 0 i = μ 0 i := fun i hi => by rw [p1 0 (by decide) (by decide), e8, up_off (Or.inr hi), e3, up_ne (by decide), r1.1 0 (by decide) (by decide)]
    refine ⟨i1.cg (fun k hk => k9 k (by omega) (by omega) (by omega) (by omega) (by omega)), ⟨by rw [z21]; exact p3.symm, by omega, fun j j0 j1 => absurd j1 (by omega)⟩, ⟨⟨by rw [z09]; exact p4.symm, by omega⟩, ?_⟩, i4.cg ?_ ?_ (s9 21 (by decide)) ?_, i5.cg (fun k a b => k9 k (by omega) (by omega) (by omega) (by omega) (by omega)) ?_, i6.cg (fun k a b => k9 k (by omega) (by omega) (by omega) (by omega) (by omega)) ?_ ?_, i7.cg (fun k a b => k9 k (by omega) (by omega) (by omega) (by omega) (by omega)) (s9 17 (by decide)) ?_ (fun k a b => k9 k (by omega) (by omega) (by omega) (by omega) (by omega)), i8.1.cg (fun k a b => k9 k (by omega) (by omega) (by omega) (by omega) (by omega)), ?_, i8.2.2.1.cg (fun k a b => k9 k (by omega) (by omega) (by omega) (by omega) (by omega)), i8.2.2.2.1.cg (fun k a b => k9 k (by omega) (by omega) (by omega) (by omega) (by omega)), i8.2.2.2.2.1.cg (fun k a b => k9 k (by omega) (by omega) (by omega) (by omega) (by omega)), ?_, ?_⟩
    · rw [z0 10 (by decide), s9 4 (by decide)]; exact i3.2
    · rw [k9 45 (by decide) (by decide) (by decide) (by decide) (by decide)]
    · exact k9 46 (by decide) (by decide) (by decide) (by decide) (by decide)
    · exact k9 95 (by decide) (by decide) (by decide) (by decide) (by decide)
    · exact k9 89 (by decide) (by decide) (by decide) (by decide) (by decide)
    · exact k9 93 (by decide) (by decide) (by decide) (by decide) (by decide)
    · exact k9 94 (by decide) (by decide) (by decide) (by decide) (by decide)
    · exact k9 92 (by decide) (by decide) (by decide) (by decide) (by decide)
    · exact (r1.2 i8.2.1).cg (fun k a b => by rw [p1 k (by omega) (by omega), e8, up_ne (by omega), e3, up_ne (by omega)])
    · rw [k9 92 (by decide) (by decide) (by decide) (by decide) (by decide)]; exact i8.2.2.2.2.2.1
    · rw [k9 93 (by decide) (by decide) (by decide) (by decide) (by decide)]; exact i8.2.2.2.2.2.2
  · rw [e3, up_ne (by decide)]; exact hc.1
  all_goals
    have e41 : μ7 4 1 = μ1 14 1 := by
      rw [e7, up_ne (by decide)]
      have : μ6 4 1 = tkC (cv μ3 4) (cv μ3 14) 0 1 := congrFun (congrFun h6.1 0) 1
      rw [this]
      show μ3 14 1 = μ1 14 1
      rw [e3, up_ne (by decide)]
    have c1 := hc.2.2.2.1
    replace c1 : 0 ≤ μ1 14 1 ∧ μ1 14 1 ≤ 6 := c1
  · rw [e41]; unfold inR; omega
  · have k7 : ∀ k, k ≠ 2 → (k < 4 ∨ 24 ≤ k) → k ≠ 25 → μ7 k = μ k := fun k a b c => by rw [e7, up_ne c, h6.2 k (by omega), e3, up_ne a, r1.1 k a (by omega)]
    refine rd_start hT h1 (by rw [k7 83 (by decide) (by decide) (by decide)]; exact i2.1.symm) (fun j j0 j1 => by rw [k7 88 (by decide) (by decide) (by decide)]; exact (i2.2.2 j j0 j1).1.symm) (fun ν1 p1 => ⟨by rw [e41]; rfl, ?_⟩)
    obtain ⟨p1, p2, p3, p4, p5, p6⟩ := p1
    have k9 : ∀ k, k ≠ 2 → (k < 4 ∨ 24 ≤ k) → k ≠ 25 → k ≠ 83 → k ≠ 89 → k ≠ 90 → ν1 k = μ k := fun k a b c d e f => by rw [p1 k d e f, k7 k a b c]
    have s9 : ∀ i, (i < 6 ∨ 12 < i) → i ≠ 17 → ν1 83 i = μ 83 i := fun i hi hj => by rw [p2 i hi hj, k7 83 (by decide) (by decide) (by decide)]
    have z21 : ν1 2 1 = 0 := by rw [p1 2 (by decide) (by decide) (by decide), e7, up_ne (by decide), h6.2 2 (by decide), e3, up_self]
    have w7 : ν1 83 7 = μ 83 7 := by rw [p4, k7 83 (by decide) (by decide) (by decide)]
    have ct : CtOK (cv μ1 14) (ν1 89) := p6 (by rw [k7 89 (by decide) (by decide) (by decide)]; exact i5.1.2.2.1)
    have ev : eqv (cv μ1 14) (cv ν1 4) := by
      have a : eqv (cv μ1 14) (cv μ3 14) := cv_eqv (fun k a b => by rw [e3, up_ne (by omega)])
      have b : eqv (cv μ3 14) (cv μ6 4) := by rw [h6.1]; exact eqv.tk.symm
      exact (a.trans b).trans (cv_eqv (fun k a b => by rw [p1 k (by omega) (by omega) (by omega), e7, up_ne (by omega)]))
    have k25 : ∀ i, i ≠ 5 → ν1 25 i = μ 25 i := fun i hi => by rw [p1 25 (by decide) (by decide) (by decide), e7, up_off (Or.inr hi), h6.2 25 (by decide), e3, up_ne (by decide), r1.1 25 (by decide) (by decide)]
    have z25 : ν1 25 5 = 0 := by rw [p1 25 (by decide) (by decide) (by decide), e7, up_self]
    have g14 : RgC μ1 14 := r1.2 i8.2.1
    have g14' : RgC μ3 14 := g14.cg (fun k a b => by rw [e3, up_ne (by omega)])
    have g4' : RgC μ3 4 := i8.1.cg (fun k a b => by rw [e3, up_ne (by omega), r1.1 k (by omega) (by omega)])
    have o0 : ν1 0 = μ 0 := k9 0 (by decide) (by decide) (by decide) (by decide) (by decide) (by decide)
    refine ⟨i1.cg (fun k hk => k9 k (by omega) (by omega) (by omega) (by omega) (by omega) (by omega)), ⟨by rw [z21]; exact p3.symm, by omega, fun j j0 j1 => absurd j1 (by omega)⟩, i3.cg (by rw [o0]) (by rw [o0]) (s9 4 (by decide) (by decide)) w7, i4.cg ?_ ?_ (s9 21 (by decide) (by decide)) ?_, ct.eqv ev, i6.cg (fun k a b => k9 k (by omega) (by omega) (by omega) (by omega) (by omega) (by omega)) ?_ ?_, ⟨?_, by omega, by rw [z25]; exact p5, fun _ => cv ν1 4, eqv.rf, fun j j0 j1 => absurd j1 (by omega)⟩, ?_, ?_, i8.2.2.1.cg (fun k a b => k9 k (by omega) (by omega) (by omega) (by omega) (by omega) (by omega)), i8.2.2.2.1.cg (fun k a b => k9 k (by omega) (by omega) (by omega) (by omega) (by omega) (by omega)), i8.2.2.2.2.1.cg (fun k a b => k9 k (by omega) (by omega) (by omega) (by omega) (by omega) (by omega)), ?_, ?_⟩
    · rw [k9 45 (by decide) (by decide) (by decide) (by decide) (by decide) (by decide)]
    · exact k9 46 (by decide) (by decide) (by decide) (by decide) (by decide) (by decide)
    · exact k9 95 (by decide) (by decide) (by decide) (by decide) (by decide) (by decide)
    · exact k9 93 (by decide) (by decide) (by decide) (by decide) (by decide) (by decide)
    · exact k9 94 (by decide) (by decide) (by decide) (by decide) (by decide) (by decide)
    · rw [k25 4 (by decide)]; exact i7.1
    · exact (cv_rng h6.1 (Rgv.tk (Rgv.of g4') (Rgv.of g14'))).cg (fun k a b => by rw [p1 k (by omega) (by omega) (by omega), e7, up_ne (by omega)])
    · exact g14.cg (fun k a b => by rw [p1 k (by omega) (by omega) (by omega), e7, up_ne (by omega), h6.2 k (by omega), e3, up_ne (by omega)])
    · rw [k9 92 (by decide) (by decide) (by decide) (by decide) (by decide) (by decide)]; exact i8.2.2.2.2.2.1
    · rw [k9 93 (by decide) (by decide) (by decide) (by decide) (by decide) (by decide)]; exact i8.2.2.2.2.2.2
end P76
