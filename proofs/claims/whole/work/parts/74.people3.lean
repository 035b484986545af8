/-! A court is read: the end of it, in the reference; all people. -/
section P74
variable {E : Ex} {Q : Option Vl → Mem → Prop} {T : Int → Int} {n a : Int} {d : Int → Int} {v : CV}
theorem ref_end (hT : tkOK T n) (h0 : 0 ≤ a ∧ a ≤ n) (ht : tkT T n a = -1) (hc : pcI v) (hd : pdI v d) : RX (P9 T n a d) (G130 E) (.inr v) := by
  intro ν Q8 hP hq
  obtain ⟨hW, h90⟩ := hP
  have e11 := hW.1.2.2.1
  rw [ht] at e11
  replace e11 : ν 83 11 = 0 := e11
  refine s_X8_court_130 (k_X8_wellY hW.2 ⟨_, rfl, fun z => absurd z (by decide), fun _ => ⟨by omega, fun _ => ⟨fun z => absurd e11 z, fun _ => ?_⟩, fun z => absurd z (by omega)⟩⟩)
  refine s_X8_court_175 (takes2_ok hW.2 ⟨rfl, fun μ3 e3 => k_X8_wellY (by rw [e3, up_off (Or.inr (by decide))]; exact hW.2) ⟨_, rfl, fun _ => ?_, fun z => absurd z (by decide)⟩⟩)
  refine k_X8_copies sh_90 (by decide) sh_89 (by decide) (by decide) (by decide) (by decide) (fun μ6 o1 o2 o3 => ⟨rfl, fun μ8 e8 => ?_⟩)
  have v89 : ∀ i, 0 ≤ i → i < 91 → μ8 89 i = d i := fun i i0 i1 => by
    have := o2 i i0 i1
    rw [Int.zero_add] at this
    rw [e8, up_ne (by decide), this, e3, up_ne (by decide), h90]
  have ev : μ8 89 2 = v 0 1 := by rw [v89 2 (by decide) (by decide)]; exact hd.2.2.1
  rw [ev]
  refine hq μ8 ⟨fun k k1 k2 k3 => ?_, fun i hi h17 => ?_, ?_, ?_, ?_, fun g => ct_new hc hd v89 (fun i => ?_)⟩
  · rw [e8, up_ne k1, o1 k k2, e3, up_ne k1]
  · rw [e8, up_off (Or.inr h17), o1 83 (by decide), e3, up_off (Or.inr (by omega))]
  · rw [e8, up_off (Or.inr (by decide)), o1 83 (by decide), e3, up_self]
  · rw [e8, up_off (Or.inr (by decide)), o1 83 (by decide), e3, up_off (Or.inr (by decide))]
  · rw [e8, up_self]
  · by_cases hi : 0 ≤ i ∧ i < 91
    · rw [v89 i hi.1 hi.2]; exact hd.2.2.2.2.2.2.2 i hi.1 hi.2
    · rw [e8, up_ne (by decide), o3 i (by omega), e3, up_ne (by decide)]; exact g i
theorem ref_strange (hT : tkOK T n) (h0 : 0 ≤ a ∧ a ≤ n) (ht : tkT T n a ≠ -1) (hn : ¬ (112 ≤ tkT T n a ∧ tkT T n a ≤ 116)) (i2 : inR (d 2)) : RX (P9 T n a d) (G130 E) (.inl (1, a)) := by
  intro ν Q8 hP hq
  obtain ⟨hW, h90⟩ := hP
  have hn1 := hT.1
  have e11 := hW.1.2.2.1
  have rr := rTk_rng (t := tkT T n a)
  have r0 := rTk_0 (t := tkT T n a)
  have r1 := rTk_1 (t := tkT T n a)
  have fin : Gg E 5 M_X8_court 175 [some (.inr 83), some (.inl 91)] [.inl 0, .inr 83] ν Q8 := by
    refine s_X8_court_175 (takes2_no hW.1 hW.2 (fun ν1 f1 => ⟨rfl, fun μ3 e3 => ?_⟩))
    have e8 : μ3 83 8 = a := by rw [e3, up_off (Or.inr (by decide))]; exact f1.1
    refine k_X8_wellN (by omega) ⟨_, rfl, fun z => absurd z (by decide), fun _ => ?_⟩
    rw [e8]
    exact hq μ3 (bd_end mdR.rf f1 bdR.rf e3)
  refine s_X8_court_130 (k_X8_wellY hW.2 ⟨_, rfl, fun z => absurd z (by decide), fun _ => ⟨by omega, fun _ => ⟨fun _ => fin, fun z => absurd z (by omega)⟩, fun z => ?_⟩⟩)
  have e12 := hW.1.2.2.2.1.2.1 (by omega)
  rw [e12]
  refine k_X8_kindOf (by omega) ⟨_, rfl, ?_⟩
  rw [if_neg hn]
  exact ⟨by decide, fun _ => ⟨by omega, fun _ => fin, fun y => absurd y (by omega)⟩, fun y => absurd (by decide) y⟩
end P74
