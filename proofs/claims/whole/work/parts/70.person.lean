/-! A court is read: one of the people. -/
def dN (d : Int → Int) (x k : Int) (f : Int → Int) : Int → Int := fun i => if x + 4 ≤ i ∧ i < x + 4 + k then f (i - (x + 4)) else d i
section P70
variable {E : Ex} {Q : Option Vl → Mem → Prop} {T : Int → Int} {n p a x0 : Int} {μ ν : Mem} {d : Int → Int}
theorem k_X8_kindOf (ix : inR x0) (h : Q (some (.inl (if 112 ≤ x0 ∧ x0 ≤ 116 then x0 - 111 else 0))) μ) : Cl E 0 M_X8_kindOf [.inl x0] μ Q := by
  refine s_X8_kindOf ⟨ix, fun z1 => ⟨fun z2 => ⟨fun z3 => ⟨fun z4 => ⟨fun z5 => ?_, fun e => ?_⟩, fun e => ?_⟩, fun e => ?_⟩, fun e => ?_⟩, fun e => ?_⟩
  · rwa [if_neg (by omega)] at h
  all_goals (subst e; exact h)
/-- at 130, one of the people begins -/
theorem ref_one {o : Out} (hT : tkOK T n) (h0 : 0 ≤ a ∧ a ≤ n) (ht : 112 ≤ tkT T n a ∧ tkT T n a ≤ 116) (i2 : inR (d 2)) (h1 : d 2 < 6 → ∀ (ν : Mem) (Q8 : Option Vl → Mem → Prop), P9 T n (tkN T n a) d ν → (∀ ν1 : Mem, ePost o ν ν1 → Q8 (some (.inl (eVal o))) ν1) → Gg E 4 M_X8_readsPerson 60 [some (.inr 83), some (.inl (tkT T n a - 111)), some (.inl (13 + 13 * d 2)), some (.inl 0), none, none] [] ν (fun vv ν' => vv = none ∧ G130 E ν' Q8)) (h2 : ¬ d 2 < 6 → o = .inl (3, a)) : RX (P9 T n a d) (G130 E) o := by
  intro ν Q8 hP hq
  obtain ⟨hW, hd⟩ := hP
  have hn := hT.1
  have e11 := hW.1.2.2.1
  have e12 := hW.1.2.2.2.1.2.1 (by omega)
  have r1 := rTk_1 (t := tkT T n a)
  refine s_X8_court_130 (k_X8_wellY hW.2 ⟨_, rfl, fun z => absurd z (by decide), fun _ => ⟨by omega, fun z => absurd (by omega) z, fun _ => ?_⟩⟩)
  rw [e12]
  refine k_X8_kindOf (by omega) ⟨_, rfl, ?_⟩
  rw [if_pos ht]
  refine ⟨by omega, fun z => absurd z (by omega), fun _ => s_X8_readsPerson ?_⟩
  rw [e12]
  refine k_X8_kindOf (by omega) ⟨_, rfl, ?_⟩
  rw [if_pos ht, hd]
  refine ⟨i2, fun z => ?_, fun z => ?_⟩
  · have eo := h2 (by omega)
    subst eo
    refine s_X8_readsPerson_25 (takes_no hW.1 hW.2 (fun ν1 f1 => ⟨_, rfl, ?_⟩))
    have w1 := f1.w hW.1 (by omega) (by rw [hd]; exact i2)
    have go : G130 E ν1 Q8 := bad_130 w1 (fun ν4 e4 => by rw [f1.1]; exact hq ν4 (bd_end mdR.rf f1 bdR.rf e4))
    exact ⟨w1.2.2.2, fun _ => bad_p60 w1 (by decide) ⟨rfl, go⟩, fun _ => bad_p60 w1 (by decide) ⟨rfl, go⟩⟩
  · refine s_X8_readsPerson_25 (takes_ok hT hW.1 h0 hW.2 (fun ν1 k1 a1 => ⟨_, rfl, ?_⟩))
    have e90 : ν1 90 = d := by rw [a1.1 90 (by decide)]; exact hd
    rw [e90]
    exact ⟨i2, fun y => absurd y z, fun _ => h1 (by omega) ν1 Q8 ⟨hW.av a1 k1, e90⟩ (fun ν3 p3 => hq ν3 (ePost.md a1.md p3))⟩
end P70
