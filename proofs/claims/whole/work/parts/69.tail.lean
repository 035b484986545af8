/-! A court is read: term and life of one, and its end. -/
def dP (d : Int → Int) (x kd k tm lf : Int) : Int → Int := fun i => if i = 2 then d 2 + 1 else if i = x then kd else if i = x + 1 then tm else if i = x + 2 then lf else if i = x + 3 then k else if i = x + 8 then 0 else if i = x + 9 then 0 else if i = x + 10 then -1000000 else if i = x + 11 then -1000000 else if i = x + 12 then -1000000 else d i
section P69
variable {E : Ex} {Q : Option Vl → Mem → Prop} {T : Int → Int} {n p kd a k : Int} {μ : Mem} {d : Int → Int}
def P9 (T : Int → Int) (n a : Int) (d : Int → Int) (ν : Mem) : Prop := W8 T n ν a ∧ ν 90 = d
def G99 (E : Ex) (kd p k : Int) (ν : Mem) (Q : Option Vl → Mem → Prop) : Prop := Gg E 4 M_X8_readsPerson 99 [some (.inr 83), some (.inl kd), some (.inl (13 + 13 * p)), some (.inl k), none, none] [] ν (fun vv ν' => vv = none ∧ G130 E ν' Q)
theorem rd_tail (hT : tkOK T n) (hp : 0 ≤ p ∧ p < 6) (hC : C7 T n μ a) (h0 : 0 ≤ a ∧ a ≤ n) (hk : 0 ≤ k ∧ k ≤ 4) (i2 : inR (d 2)) (hF : ∀ (f b : Int) (μ1 : Mem), RX (P9 T n a d) (G99 E kd p k) (.inl (f, b)) → c7R μ μ1 → μ1 2 2 = f → μ1 2 3 = b → (1 ≤ f ∧ f ≤ 3) → (0 ≤ b ∧ b ≤ n) → Q (some (.inl (bi false))) μ1)
    (hS : ∀ (b tm lf : Int) (μ1 : Mem), k ≠ 0 → C7 T n μ1 b → (a ≤ b ∧ b ≤ n) → (1 ≤ tm ∧ tm ≤ 30) → (1 ≤ lf ∧ lf ≤ 99) → c7R μ μ1 → (∀ j, j ≠ 2 → j ≠ 18 → j ≠ 20 → j ≠ 21 → μ1 j = μ j) → (∀ i, μ1 18 i = if i = p then k else μ 18 i) → (∀ i, μ1 20 i = if i = p then tm else μ 20 i) → (∀ i, μ1 21 i = if i = p then lf else μ 21 i) → (∀ o, RX (P9 T n b (dP d (13 + 13 * p) kd k tm lf)) (G130 E) o → RX (P9 T n a d) (G99 E kd p k) o) → Q (some (.inl (bi true))) μ1) : Gg E 3 M_X4_readPerson 53 [some (.inr 2), some (.inr 14), some (.inl p), some (.inl k)] [] μ Q := by
  have hn := hT.1
  have na := tkN_rng (T := T) h0.1 h0.2
  -- once it has failed
  have tl : ∀ {ν ν0 ν1 : Mem} {f b : Int} {Q8 : Option Vl → Mem → Prop} {R : Mem → Prop}, mdR ν ν0 → flR ν0 ν1 f b → (∀ ν2 : Mem, ePost (.inl (f, b)) ν ν2 → Q8 (some (.inl (eVal (.inl (f, b))))) ν2) → bdW ν1 → G130 E ν1 Q8 := fun hm r1 hq w1 => bad_130 w1 (fun ν4 e4 => by rw [r1.1]; exact hq ν4 (bd_end hm r1 bdR.rf e4))
  refine s_X4_readPerson_53 ⟨by omega, fun z => ⟨hp, fun μ2 e2 => ?_⟩, fun z => k_X4_hasFault hC.2.1 (fun μ1 c1 => ⟨_, rfl, hF 1 a μ1 (fun ν Q8 hP hq => ?_) (c7R.tk c1.2.2) c1.1 c1.2.1 (by decide) h0⟩)⟩
  rotate_left
  · obtain ⟨hW, hd⟩ := hP
    subst z
    refine s_X8_readsPerson_99 ⟨by decide, fun _ => takes2_no hW.1 hW.2 (fun ν1 r1 => ⟨rfl, ?_⟩), fun z => absurd (by decide) z⟩
    have w1 := r1.w hW.1 (by omega) (by rw [hd]; exact i2)
    have go : G130 E ν1 Q8 := tl (R := fun _ => True) mdR.rf r1 hq w1
    exact figure_off w1.1 w1.2.2.1 (by decide) (by decide) ⟨_, rfl, w1.2.1, fun _ => bad_p135 w1 ⟨rfl, go⟩, fun _ => bad_p135 w1 ⟨rfl, go⟩⟩
  have r2 : c7R μ μ2 := by rw [e2]; exact c7R.upj (j := 4) (by decide) (by omega)
  have c2 : C7 T n μ2 a := hC.off (by rw [e2, up_ne (by decide)]) (by rw [e2, up_ne (by decide)])
  -- the reference at the first number
  have ref1 : ∀ o : Out, (∀ (ν : Mem) (Q8 : Option Vl → Mem → Prop), P9 T n a d ν → (∀ ν1 : Mem, ePost o ν ν1 → Q8 (some (.inl (eVal o))) ν1) → Cl E 3 M_X8_figure [.inr 83, .inl 1, .inl 30] ν (fun vv μ9 => ∃ v10, vv = some (.inl v10) ∧ inR (μ9 83 11) ∧ ((μ9 83 11) ≠ 3 → Gg E 4 M_X8_readsPerson 135 [some (.inr 83), some (.inl kd), some (.inl (13 + 13 * p)), some (.inl k), some (.inl v10), none] [.inl 0, .inr 83] μ9 (fun vv ν' => vv = none ∧ G130 E ν' Q8)) ∧ ((μ9 83 11) = 3 → Gg E 4 M_X8_readsPerson 135 [some (.inr 83), some (.inl kd), some (.inl (13 + 13 * p)), some (.inl k), some (.inl v10), none] [.inl 1, .inr 83] μ9 (fun vv ν' => vv = none ∧ G130 E ν' Q8)))) → RX (P9 T n a d) (G99 E kd p k) o := by
    intro o hh ν Q8 hP hq
    exact s_X8_readsPerson_99 ⟨by omega, fun q => absurd q (by omega), fun _ => takes2_ok hP.1.2 ⟨rfl, hh ν Q8 hP hq⟩⟩
  have bad1 : ∀ f, (∀ (ν : Mem) (R : Option Vl → Mem → Prop), W8 T n ν a → (∀ ν1 : Mem, flR ν ν1 f a → R (some (.inl 0)) ν1) → Cl E 3 M_X8_figure [.inr 83, .inl 1, .inl 30] ν R) → RX (P9 T n a d) (G99 E kd p k) (.inl (f, a)) := by
    intro f hh
    refine ref1 _ (fun ν Q8 hP hq => hh ν _ hP.1 (fun ν1 r1 => ?_))
    have w1 := r1.w hP.1.1 (by omega) (by rw [hP.2]; exact i2)
    have go : G130 E ν1 Q8 := tl (R := fun _ => True) mdR.rf r1 hq w1
    exact ⟨_, rfl, w1.2.1, fun _ => bad_p135 w1 ⟨rfl, go⟩, fun _ => bad_p135 w1 ⟨rfl, go⟩⟩
  refine k_X4_isNumberIn hT c2 h0 (by decide) (by decide) (fun q2 v2 => ⟨_, rfl, fun _ => ?_, fun z => absurd z (by decide)⟩) (fun q2 v2 μ3 c3 => ⟨_, rfl, fun z => absurd z (by decide), fun _ => hF 2 a μ3 (bad1 2 (fun ν R hW hr => figure_no2 hT hW.1 h0 hW.2 (by decide) (by decide) q2 v2 hr)) (r2.tr (c7R.tk c3.2.2)) c3.1 c3.2.1 (by decide) h0⟩) (fun q2 μ3 c3 => ⟨_, rfl, fun z => absurd z (by decide), fun _ => hF 1 a μ3 (bad1 1 (fun ν R hW hr => figure_no1 hT hW.1 h0 hW.2 q2 hr)) (r2.tr (c7R.tk c3.2.2)) c3.1 c3.2.1 (by decide) h0⟩)
  refine k_X4_takeNumber hT c2 h0 q2 (fun μ3 c3 o3 => ⟨_, rfl, fun μ4 e4 => ?_⟩)
  obtain ⟨a1, ea1⟩ : ∃ a1, a1 = tkN T n a := ⟨_, rfl⟩
  obtain ⟨tm, etm⟩ : ∃ tm, tm = tkV T n a := ⟨_, rfl⟩
  rw [← ea1] at c3 na
  rw [← etm] at v2 e4
  have h1 : 0 ≤ a1 ∧ a1 ≤ n := by omega
  have n1 := tkN_rng (T := T) h1.1 h1.2
  have r4 : c7R μ μ4 := by rw [e4]; exact (r2.tr (c7R.tk o3)).tr (c7R.upj (j := 6) (by decide) (by omega))
  have c4 : C7 T n μ4 a1 := c3.off (by rw [e4, up_ne (by decide)]) (by rw [e4, up_ne (by decide)])
  have ref2 : ∀ o : Out, (∀ (ν : Mem) (Q8 : Option Vl → Mem → Prop), P9 T n a1 d ν → (∀ ν1 : Mem, ePost o ν ν1 → Q8 (some (.inl (eVal o))) ν1) → Gg E 4 M_X8_readsPerson 135 [some (.inr 83), some (.inl kd), some (.inl (13 + 13 * p)), some (.inl k), some (.inl tm), none] [.inl (if tkT T n a1 = 44 then 1 else 0), .inr 83] ν (fun vv ν' => vv = none ∧ G130 E ν' Q8)) → RX (P9 T n a d) (G99 E kd p k) o := by
    intro o hh
    refine ref1 o (fun ν Q8 hP hq => figure_ok hT hP.1.1 h0 hP.1.2 (by decide) (by decide) q2 (by rw [← etm]; exact v2) (fun ν1 k1 r1 => ?_))
    rw [← ea1] at k1
    rw [← etm]
    have W1 := hP.1.av r1 k1
    have e11 := W1.1.2.2.1
    have rr := rTk_rng (t := tkT T n a1)
    have t3 := rTk_3 (t := tkT T n a1)
    have := hh ν1 Q8 ⟨W1, by rw [r1.1 90 (by decide)]; exact hP.2⟩ (fun ν2 p2 => hq ν2 (ePost.md r1.md p2))
    refine ⟨_, rfl, by omega, fun y => ?_, fun y => ?_⟩
    · rwa [if_neg (by omega)] at this
    · rwa [if_pos (by omega)] at this
  refine k_X4_passOver hT c4 h1 (by decide) (fun q3 μ5 c5 o5 => ⟨_, rfl, fun z => absurd z (by decide), fun _ => ?_⟩) (fun q3 μ5 c5 => ⟨_, rfl, fun _ => hF 1 a1 μ5 (ref2 _ (fun ν Q8 hP hq => ?_)) (r4.tr (c7R.tk c5.2.2)) c5.1 c5.2.1 (by decide) h1, fun z => absurd z (by decide)⟩)
  rotate_left
  · rw [if_neg q3]
    refine s_X8_readsPerson_135 (takes_no hP.1.1 hP.1.2 (fun ν1 r1 => ⟨_, rfl, ?_⟩))
    have w1 := r1.w hP.1.1 (by omega) (by rw [hP.2]; exact i2)
    have go : G130 E ν1 Q8 := tl (R := fun _ => True) mdR.rf r1 hq w1
    exact figure_off w1.1 w1.2.2.1 (by decide) (by decide) ⟨_, rfl, w1.2.1, fun _ => bad_p163 w1 ⟨rfl, go⟩, fun _ => bad_p163 w1 ⟨rfl, go⟩⟩
  obtain ⟨a2, ea2⟩ : ∃ a2, a2 = tkN T n a1 := ⟨_, rfl⟩
  rw [← ea2] at c5 n1
  have h2 : 0 ≤ a2 ∧ a2 ≤ n := by omega
  have n2 := tkN_rng (T := T) h2.1 h2.2
  have r5 := r4.tr (c7R.tk o5)
  have ref3 : ∀ o : Out, (∀ (ν : Mem) (Q8 : Option Vl → Mem → Prop), P9 T n a2 d ν → (∀ ν1 : Mem, ePost o ν ν1 → Q8 (some (.inl (eVal o))) ν1) → Cl E 3 M_X8_figure [.inr 83, .inl 1, .inl 99] ν (fun vv μ3 => ∃ v4, vv = some (.inl v4) ∧ inR (μ3 83 11) ∧ ((μ3 83 11) ≠ 4 → Gg E 4 M_X8_readsPerson 163 [some (.inr 83), some (.inl kd), some (.inl (13 + 13 * p)), some (.inl k), some (.inl tm), some (.inl v4)] [.inl 0, .inr 83] μ3 (fun vv ν' => vv = none ∧ G130 E ν' Q8)) ∧ ((μ3 83 11) = 4 → Gg E 4 M_X8_readsPerson 163 [some (.inr 83), some (.inl kd), some (.inl (13 + 13 * p)), some (.inl k), some (.inl tm), some (.inl v4)] [.inl 1, .inr 83] μ3 (fun vv ν' => vv = none ∧ G130 E ν' Q8)))) → RX (P9 T n a d) (G99 E kd p k) o := by
    intro o hh
    refine ref2 o (fun ν Q8 hP hq => ?_)
    rw [if_pos q3]
    exact s_X8_readsPerson_135 (takes_ok hT hP.1.1 h1 hP.1.2 (fun ν1 k1 r1 => ⟨_, rfl, hh ν1 Q8 ⟨hP.1.av r1 (by rw [ea2]; exact k1), by rw [r1.1 90 (by decide)]; exact hP.2⟩ (fun ν2 p2 => hq ν2 (ePost.md r1.md p2))⟩))
  have bad3 : ∀ f, (∀ (ν : Mem) (R : Option Vl → Mem → Prop), W8 T n ν a2 → (∀ ν1 : Mem, flR ν ν1 f a2 → R (some (.inl 0)) ν1) → Cl E 3 M_X8_figure [.inr 83, .inl 1, .inl 99] ν R) → RX (P9 T n a d) (G99 E kd p k) (.inl (f, a2)) := by
    intro f hh
    refine ref3 _ (fun ν Q8 hP hq => hh ν _ hP.1 (fun ν1 r1 => ?_))
    have w1 := r1.w hP.1.1 (by omega) (by rw [hP.2]; exact i2)
    have go : G130 E ν1 Q8 := tl (R := fun _ => True) mdR.rf r1 hq w1
    exact ⟨_, rfl, w1.2.1, fun _ => bad_p163 w1 ⟨rfl, go⟩, fun _ => bad_p163 w1 ⟨rfl, go⟩⟩
  refine k_X4_isNumberIn hT c5 h2 (by decide) (by decide) (fun q4 v4 => ⟨_, rfl, fun _ => ?_, fun z => absurd z (by decide)⟩) (fun q4 v4 μ6 c6 => ⟨_, rfl, fun z => absurd z (by decide), fun _ => hF 2 a2 μ6 (bad3 2 (fun ν R hW hr => figure_no2 hT hW.1 h2 hW.2 (by decide) (by decide) q4 v4 hr)) (r5.tr (c7R.tk c6.2.2)) c6.1 c6.2.1 (by decide) h2⟩) (fun q4 μ6 c6 => ⟨_, rfl, fun z => absurd z (by decide), fun _ => hF 1 a2 μ6 (bad3 1 (fun ν R hW hr => figure_no1 hT hW.1 h2 hW.2 q4 hr)) (r5.tr (c7R.tk c6.2.2)) c6.1 c6.2.1 (by decide) h2⟩)
  refine k_X4_takeNumber hT c5 h2 q4 (fun μ6 c6 o6 => ⟨_, rfl, fun μ7 e7 => ?_⟩)
  obtain ⟨a3, ea3⟩ : ∃ a3, a3 = tkN T n a2 := ⟨_, rfl⟩
  obtain ⟨lf, elf⟩ : ∃ lf, lf = tkV T n a2 := ⟨_, rfl⟩
  rw [← ea3] at c6 n2
  rw [← elf] at v4 e7
  have h3 : 0 ≤ a3 ∧ a3 ≤ n := by omega
  have n3 := tkN_rng (T := T) h3.1 h3.2
  have r7 : c7R μ μ7 := by rw [e7]; exact (r5.tr (c7R.tk o6)).tr (c7R.upj (j := 7) (by decide) (by omega))
  have c7 : C7 T n μ7 a3 := c6.off (by rw [e7, up_ne (by decide)]) (by rw [e7, up_ne (by decide)])
  have ref4 : ∀ o : Out, (∀ (ν : Mem) (Q8 : Option Vl → Mem → Prop), P9 T n a3 d ν → (∀ ν1 : Mem, ePost o ν ν1 → Q8 (some (.inl (eVal o))) ν1) → Gg E 4 M_X8_readsPerson 163 [some (.inr 83), some (.inl kd), some (.inl (13 + 13 * p)), some (.inl k), some (.inl tm), some (.inl lf)] [.inl (if tkT T n a3 = 59 then 1 else 0), .inr 83] ν (fun vv ν' => vv = none ∧ G130 E ν' Q8)) → RX (P9 T n a d) (G99 E kd p k) o := by
    intro o hh
    refine ref3 o (fun ν Q8 hP hq => figure_ok hT hP.1.1 h2 hP.1.2 (by decide) (by decide) q4 (by rw [← elf]; exact v4) (fun ν1 k1 r1 => ?_))
    rw [← ea3] at k1
    rw [← elf]
    have W1 := hP.1.av r1 k1
    have e11 := W1.1.2.2.1
    have rr := rTk_rng (t := tkT T n a3)
    have t4 := rTk_4 (t := tkT T n a3)
    have := hh ν1 Q8 ⟨W1, by rw [r1.1 90 (by decide)]; exact hP.2⟩ (fun ν2 p2 => hq ν2 (ePost.md r1.md p2))
    refine ⟨_, rfl, by omega, fun y => ?_, fun y => ?_⟩
    · rwa [if_neg (by omega)] at this
    · rwa [if_pos (by omega)] at this
  refine k_X4_passOver hT c7 h3 (by decide) (fun q5 μ8 c8 o8 => ⟨_, rfl, hS (tkN T n a3) tm lf μ8 z c8 (by omega) v2 v4 (r7.tr (c7R.tk o8)) (fun j x y w u => ?_) (fun i => ?_) (fun i => ?_) (fun i => ?_) (fun o ho => ref4 o (fun ν Q8 hP hq => ?_))⟩) (fun q5 μ8 c8 => ⟨_, rfl, hF 1 a3 μ8 (ref4 _ (fun ν Q8 hP hq => ?_)) (r7.tr (c7R.tk c8.2.2)) c8.1 c8.2.1 (by decide) h3⟩)
  · rw [o8 j x, e7, up_ne u, o6 j x, o5 j x, e4, up_ne w, o3 j x, e2, up_ne y]
  · rw [o8 18 (by decide), e7, up_ne (by decide), o6 18 (by decide), o5 18 (by decide), e4, up_ne (by decide), o3 18 (by decide), e2]
    by_cases e : i = p
    · subst e; rw [if_pos rfl]; exact up_self
    · rw [if_neg e]; exact up_off (Or.inr e)
  · rw [o8 20 (by decide), e7, up_ne (by decide), o6 20 (by decide), o5 20 (by decide), e4]
    by_cases e : i = p
    · subst e; rw [if_pos rfl]; exact up_self
    · rw [if_neg e, up_off (Or.inr e), o3 20 (by decide), e2, up_ne (by decide)]
  · rw [o8 21 (by decide), e7]
    by_cases e : i = p
    · subst e; rw [if_pos rfl]; exact up_self
    · rw [if_neg e, up_off (Or.inr e), o6 21 (by decide), o5 21 (by decide), e4, up_ne (by decide), o3 21 (by decide), e2, up_ne (by decide)]
  · rw [if_pos q5]
    refine s_X8_readsPerson_163 (takes_ok hT hP.1.1 h3 hP.1.2 (fun ν1 k1 r1 => ⟨_, rfl, k_X8_wellY (by rw [r1.2 8 (by omega)]; exact hP.1.2) ⟨_, rfl, fun y => absurd y (by decide), fun _ => ⟨by omega, fun m5 f5 => ⟨by omega, fun m7 f7 => ⟨by omega, fun m9 f9 => ⟨by omega, fun m11 f11 => ⟨by omega, fun m13 f13 => ⟨by omega, fun m15 f15 => ⟨by omega, fun m17 f17 => ⟨by omega, fun m19 f19 => ⟨by omega, fun m21 f21 m23 f23 => ⟨rfl, ?_⟩⟩⟩⟩⟩⟩⟩⟩⟩⟩⟩⟩))
    have W1 := hP.1.av r1 k1
    have W23 : W8 T n m23 (tkN T n a3) := by rw [f23, f21, f19, f17, f15, f13, f11, f9, f7, f5]; exact W1.up.up.up.up.up.up.up.up.up.up
    have md : mdR ν1 m23 := by rw [f23, f21, f19, f17, f15, f13, f11, f9, f7, f5]; exact ((((((((md_up.tr md_up).tr md_up).tr md_up).tr md_up).tr md_up).tr md_up).tr md_up).tr md_up).tr md_up
    have e90 : ν1 90 = d := by rw [r1.1 90 (by decide)]; exact hP.2
    refine ho m23 Q8 ⟨W23, ?_⟩ (fun ν2 p2 => hq ν2 (ePost.md (r1.md.tr md) p2))
    have h2 : m21 90 2 = d 2 := by rw [f21, up_off (Or.inr (by omega)), f19, up_off (Or.inr (by omega)), f17, up_off (Or.inr (by omega)), f15, up_off (Or.inr (by omega)), f13, up_off (Or.inr (by omega)), f11, up_off (Or.inr (by omega)), f9, up_off (Or.inr (by omega)), f7, up_off (Or.inr (by omega)), f5, up_off (Or.inr (by omega)), e90]
    funext i
    unfold dP
    rw [f23]
    by_cases c2 : i = 2
    · subst c2; rw [up_self, if_pos rfl, h2]
    rw [up_off (Or.inr c2), if_neg c2, f21]
    by_cases c12 : i = 13 + 13 * p + 12
    · subst c12; rw [up_self]; repeat (first | rw [if_pos (by omega)] | rw [if_neg (by omega)])
    rw [up_off (Or.inr c12), f19]
    by_cases c11 : i = 13 + 13 * p + 11
    · subst c11; rw [up_self]; repeat (first | rw [if_pos (by omega)] | rw [if_neg (by omega)])
    rw [up_off (Or.inr c11), f17]
    by_cases c10 : i = 13 + 13 * p + 10
    · subst c10; rw [up_self]; repeat (first | rw [if_pos (by omega)] | rw [if_neg (by omega)])
    rw [up_off (Or.inr c10), f15]
    by_cases c9 : i = 13 + 13 * p + 9
    · subst c9; rw [up_self]; repeat (first | rw [if_pos (by omega)] | rw [if_neg (by omega)])
    rw [up_off (Or.inr c9), f13]
    by_cases c8 : i = 13 + 13 * p + 8
    · subst c8; rw [up_self]; repeat (first | rw [if_pos (by omega)] | rw [if_neg (by omega)])
    rw [up_off (Or.inr c8), f11]
    by_cases c3 : i = 13 + 13 * p + 3
    · subst c3; rw [up_self]; repeat (first | rw [if_pos (by omega)] | rw [if_neg (by omega)])
    rw [up_off (Or.inr c3), f9]
    by_cases d2 : i = 13 + 13 * p + 2
    · subst d2; rw [up_self]; repeat (first | rw [if_pos (by omega)] | rw [if_neg (by omega)])
    rw [up_off (Or.inr d2), f7]
    by_cases d1 : i = 13 + 13 * p + 1
    · subst d1; rw [up_self]; repeat (first | rw [if_pos (by omega)] | rw [if_neg (by omega)])
    rw [up_off (Or.inr d1), f5]
    by_cases d0 : i = 13 + 13 * p
    · subst d0; rw [up_self, if_pos rfl]
    rw [up_off (Or.inr d0), e90, if_neg d0, if_neg d1, if_neg d2, if_neg c3, if_neg c8, if_neg c9, if_neg c10, if_neg c11, if_neg c12]
  · rw [if_neg q5]
    refine s_X8_readsPerson_163 (takes_no hP.1.1 hP.1.2 (fun ν1 r1 => ⟨_, rfl, ?_⟩))
    have w1 := r1.w hP.1.1 (by omega) (by rw [hP.2]; exact i2)
    have go : G130 E ν1 Q8 := tl (R := fun _ => True) mdR.rf r1 hq w1
    exact k_X8_wellN w1.1 ⟨_, rfl, fun _ => ⟨rfl, go⟩, fun y => absurd y (by decide)⟩
end P69
