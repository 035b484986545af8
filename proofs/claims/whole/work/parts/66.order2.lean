/-! A court is read: the order, letter by letter. -/
section P66
variable {E : Ex} {Q : Option Vl → Mem → Prop} {T : Int → Int} {n a s t x1 x2 : Int} {ν : Mem}
theorem name_yes (hT : tkOK T n) (hW : W8 T n ν a) (ht : 97 ≤ tkT T n a ∧ tkT T n a < 105) (h : Q (some (.inl (bi true))) ν) : Cl E 1 M_X8_isName [.inr 83] ν Q := by
  have e11 := hW.1.2.2.1
  have e12 := hW.1.2.2.2.1.2.1 (by omega)
  have r1 := rTk_1 (t := tkT T n a)
  exact s_X8_isName (k_X8_wellY hW.2 ⟨_, rfl, fun z => absurd z (by decide), fun _ => ⟨by omega, fun z => absurd (by omega) z, fun _ => ⟨by omega, fun z => absurd z (by omega), fun _ => h⟩⟩⟩)
theorem name_no (hT : tkOK T n) (hW : W8 T n ν a) (ht : ¬ (97 ≤ tkT T n a ∧ tkT T n a < 105)) (h : Q (some (.inl (bi false))) ν) : Cl E 1 M_X8_isName [.inr 83] ν Q := by
  have e11 := hW.1.2.2.1
  have r1 := rTk_1 (t := tkT T n a)
  have rr := rTk_rng (t := tkT T n a)
  refine s_X8_isName (k_X8_wellY hW.2 ⟨_, rfl, fun z => absurd z (by decide), fun _ => ⟨by omega, fun _ => h, fun z => ?_⟩⟩)
  have e12 := hW.1.2.2.2.1.2.1 (by omega)
  exact ⟨by omega, fun _ => h, fun z2 => absurd z2 (by omega)⟩
theorem ref32_no {B k : Int} (hT : tkOK T n) (h0 : 0 ≤ a ∧ a ≤ n) (hW : W8 T n ν a) (ht : ¬ (97 ≤ tkT T n a ∧ tkT T n a < 105)) (h1 : tkT T n a = 59 → ∀ ν1 : Mem, W8 T n ν1 (tkN T n a) → avR ν ν1 → Gg E 3 M_X8_readsOrder 119 [some (.inr 83), some (.inl B), some (.inl k), some (.inl 0)] [] ν1 Q) (h2 : tkT T n a ≠ 59 → ∀ ν1 : Mem, flR ν ν1 1 a → Gg E 3 M_X8_readsOrder 119 [some (.inr 83), some (.inl B), some (.inl k), some (.inl 0)] [] ν1 Q) : Gg E 3 M_X8_readsOrder 32 [some (.inr 83), some (.inl B), some (.inl k), none] [] ν Q := by
  have e11 := hW.1.2.2.1
  have r4 := rTk_4 (t := tkT T n a)
  have rr := rTk_rng (t := tkT T n a)
  exact s_X8_readsOrder_32 (name_no hT hW ht ⟨_, rfl, fun _ => ⟨by omega, fun z => takes_no hW.1 hW.2 (fun ν1 r1 => ⟨_, rfl, h2 (by omega) ν1 r1⟩), fun z => takes_ok hT hW.1 h0 hW.2 (fun ν1 k1 r1 => ⟨_, rfl, h1 (by omega) ν1 (hW.av r1 k1) r1⟩)⟩, fun z => absurd z (by decide)⟩)
def G32 (E : Ex) (B : Nat) (k : Int) (ν : Mem) (Q : Option Vl → Mem → Prop) : Prop := Gg E 3 M_X8_readsOrder 32 [some (.inr 83), some (.inl (B : Int)), some (.inl k), none] [] ν (fun vv ν' => vv = none ∧ G130 E ν' Q)
def P32 (T : Int → Int) (n s t : Int) (o : Int → Int) (k a : Int) (ν : Mem) : Prop := W8 T n ν a ∧ drO s t o k ν
theorem inR_90 {k : Int} {o : Int → Int} (h : drO s t o k ν) : inR (ν 90 2) := by rw [h.2.2.1 2 (by decide) (by decide)]; decide
/-- no letter: the rest, and the end -/
theorem rd_rest {k a : Int} {B : Nat} {μ : Mem} (hT : tkOK T n) (hC : C7 T n μ a) (h0 : 0 ≤ a ∧ a ≤ n) (hO : ordI (μ (14 + 1)) (μ (14 + 2)) k B) (hF : (∀ (f b : Int) (μ1 : Mem), RX (P32 T n s t (μ (14 + 1)) k a) (G32 E B k) (.inl (f, b)) → c7R μ μ1 → μ1 2 2 = f → μ1 2 3 = b → (1 ≤ f ∧ f ≤ 3) → (0 ≤ b ∧ b ≤ n) → Q (some (.inl (bi false))) μ1)) (hS : (∀ (b : Int) (μ1 : Mem), C7 T n μ1 b → (0 ≤ b ∧ b ≤ n) → c7R μ μ1 → (∀ k, k ≠ 2 → k ≠ 15 → k ≠ 16 → μ1 k = μ k) → oOK (cv μ1 14) → (∀ o, RX (P32 T n s t (μ1 (14 + 1)) 8 b) (G130 E) o → RX (P32 T n s t (μ (14 + 1)) k a) (G32 E B k) o) → Q (some (.inl (bi true))) μ1)) (nl : ¬ (97 ≤ tkT T n a ∧ tkT T n a < 105)) : Gg E 3 M_X4_readOrder 90 [some (.inr 2), some (.inr 14), some (.inl (B : Int)), some (.inl k), some (.inl 0)] [] μ Q := by
  have hn := hT.1
  have hB := hO.1
  have na := tkN_rng (T := T) h0.1 h0.2
  refine rd_fill (a := a) (s := s) (t := t) hB hT 8 0 (by omega) (by decide) k B μ hO (fun l l0 l1 => by rw [decide_eq_false (by omega), Bool.or_false]) hC (fun μ1 c1 r1 k1 o1 j1 f1 => ?_)
  refine k_X4_passOver hT c1 h0 (by decide) (fun q μ2 c2 o2 => ⟨_, rfl, hS (tkN T n a) μ2 c2 (by omega) (r1.tr (c7R.tk o2)) (fun k x y w => by rw [o2 k x, k1 k y w]) ?_ (fun o ho ν Q8 hP hq => ?_)⟩) (fun q μ2 c2 => ⟨_, rfl, hF 1 a μ2 (fun ν Q8 hP hq => ?_) (r1.tr (c7R.tk c2.2.2)) c2.1 c2.2.1 (by decide) h0⟩)
  · have e : cv μ2 14 = cv μ1 14 := by funext j i; show μ2 (14 + j) i = μ1 (14 + j) i; rw [o2 (14 + j) (by omega)]
    rw [e]; exact o1
  · obtain ⟨hW, hd⟩ := hP
    have hd1 : drO s t (μ1 (14 + 1)) k ν := ⟨hd.1, hd.2.1, hd.2.2.1, fun j j0 jk => by rw [hd.2.2.2.1 j j0 jk, j1 j j0 jk], hd.2.2.2.2⟩
    refine ref32_no hT h0 hW nl (fun _ ν1 W1 a1 => f1 ν1 _ W1.2 ?_ (fun ν2 d2 u2 => ⟨rfl, ho ν2 Q8 ⟨?_, ?_⟩ (fun ν3 p3 => hq ν3 (ePost.md ?_ p3))⟩)) (fun z => absurd q z)
    · unfold drO at hd1 ⊢; rw [a1.1 90 (by decide)]; exact hd1
    · unfold W8 C8 at W1 ⊢; rw [u2 83 (by decide), u2 88 (by decide)]; exact W1
    · rw [o2 (14 + 1) (by decide)]; exact d2
    · exact a1.md.tr ⟨fun i _ y => u2 i y, fun i _ => by rw [u2 83 (by decide)]⟩
  · obtain ⟨hW, hd⟩ := hP
    refine ref32_no hT h0 hW nl (fun z => absurd z q) (fun _ ν1 r1 => ?_)
    have w1 := r1.w hW.1 (by omega) (inR_90 hd)
    exact bad_o119 w1 (by decide) ⟨rfl, bad_130 w1 (fun ν4 e4 => by rw [r1.1]; exact hq ν4 (bd_end mdR.rf r1 bdR.rf e4))⟩
theorem rd_letters (hT : tkOK T n) : ∀ (r : Nat) (k a : Int) (B : Nat) (μ : Mem), k + r = 8 → C7 T n μ a → (0 ≤ a ∧ a ≤ n) → ordI (μ (14 + 1)) (μ (14 + 2)) k B →
    (∀ (f b : Int) (μ1 : Mem), RX (P32 T n s t (μ (14 + 1)) k a) (G32 E B k) (.inl (f, b)) → c7R μ μ1 → μ1 2 2 = f → μ1 2 3 = b → (1 ≤ f ∧ f ≤ 3) → (0 ≤ b ∧ b ≤ n) → Q (some (.inl (bi false))) μ1) →
    (∀ (b : Int) (μ1 : Mem), C7 T n μ1 b → (0 ≤ b ∧ b ≤ n) → c7R μ μ1 → (∀ k, k ≠ 2 → k ≠ 15 → k ≠ 16 → μ1 k = μ k) → oOK (cv μ1 14) → (∀ o, RX (P32 T n s t (μ1 (14 + 1)) 8 b) (G130 E) o → RX (P32 T n s t (μ (14 + 1)) k a) (G32 E B k) o) → Q (some (.inl (bi true))) μ1) →
    Gg E 3 M_X4_readOrder 15 [some (.inr 2), some (.inr 14), some (.inl (B : Int)), some (.inl k), none] [] μ Q := by
  intro r
  induction r with
  | zero =>
    intro k a B μ hk hC h0 hO hF hS
    have e8 : k = 8 := by omega
    subst e8
    have hn := hT.1
    have hB := hO.1
    have tr := tkT_rng hT h0.1
    have rest := rd_rest hT hC h0 hO hF hS
    refine s_X4_readOrder_15 ⟨by decide, fun _ => k_X4_isLetter hT hC h0 ⟨_, rfl, fun z => rest (of_decide_eq_false z), fun z => k_X4_hasFault hC.2.1 (fun μ1 c1 => ⟨_, rfl, hF 2 a μ1 (fun ν Q8 hP hq => ?_) (c7R.tk c1.2.2) c1.1 c1.2.1 (by decide) h0⟩)⟩, fun z => absurd (by decide) z⟩
    have hl := of_decide_eq_true z
    obtain ⟨hW, hd⟩ := hP
    have e12 := hW.1.2.2.2.1.2.1 (by omega)
    have bt : B.testBit (tkT T n a - 97).toNat = true := hO.full (by omega) (by omega)
    refine s_X8_readsOrder_32 (name_yes hT hW hl ⟨_, rfl, fun z => absurd z (by decide), fun _ => ?_⟩)
    rw [e12, Int.toNat_natCast]
    refine ⟨by omega, by omega, fun _ => s_X8_readsOrder_61 (takes_no hW.1 hW.2 (fun ν1 r1 => ⟨_, rfl, by decide, fun _ μ4 e4 => ?_, fun z => absurd (by decide) z⟩)), fun z => absurd (bt.symm.trans z) (by decide)⟩
    have w1 := r1.w hW.1 (by omega) (inR_90 hd)
    have b6 : bdR ν1 μ4 := ⟨fun k hk => by rw [e4, up_ne hk], by rw [e4, up_off (Or.inr (by decide))]⟩
    have w6 := b6.w w1
    have e8 : μ4 83 8 = a := by rw [b6.1 83 (by decide)]; exact r1.1
    exact bad_o32 w6 ⟨rfl, bad_130 w6 (fun ν4 e4 => by rw [e8]; exact hq ν4 (bd_end mdR.rf r1 b6 e4))⟩
  | succ r ih =>
    intro k a B μ hk hC h0 hO hF hS
    have hn := hT.1
    have hB := hO.1
    have hk0 := hO.2.1
    have na := tkN_rng (T := T) h0.1 h0.2
    have rest := rd_rest hT hC h0 hO hF hS
    have tr := tkT_rng hT h0.1
    refine s_X4_readOrder_15 ⟨by omega, fun z => absurd z (by omega), fun _ => k_X4_isLetter hT hC h0 ⟨_, rfl, fun z => k_X4_isLetter hT hC h0 ⟨_, rfl, fun _ => rest (of_decide_eq_false z), fun z2 => absurd (z.symm.trans z2) (by decide)⟩, fun z => k_X4_letterOfToken hC ⟨_, rfl, ?_⟩⟩⟩
    have hl := of_decide_eq_true z
    obtain ⟨c, ec⟩ : ∃ c, c = tkT T n a - 97 := ⟨_, rfl⟩
    rw [← ec]
    have c0 : 0 ≤ c ∧ c < 8 := by omega
    have ba := bit_ask B hB c.toNat (by omega)
    rw [Int.toNat_of_nonneg c0.1] at ba
    have bd := bit_add B hB c.toNat (by omega)
    rw [Int.toNat_of_nonneg c0.1] at bd
    rw [ba, bd]
    -- the reference at a letter
    have lt : ∀ (ν : Mem) (Q8 : Option Vl → Mem → Prop), W8 T n ν a → (B.testBit c.toNat = true → Gg E 3 M_X8_readsOrder 61 [some (.inr 83), some (.inl (B : Int)), some (.inl k), some (.inl c)] [.inl 0, .inr 83] ν Q8) → (B.testBit c.toNat = false → Gg E 3 M_X8_readsOrder 61 [some (.inr 83), some (.inl (B : Int)), some (.inl k), some (.inl c)] [.inl 1, .inr 83] ν Q8) → Gg E 3 M_X8_readsOrder 32 [some (.inr 83), some (.inl (B : Int)), some (.inl k), none] [] ν Q8 := by
      intro ν Q8 hW h1 h2
      have e12 := hW.1.2.2.2.1.2.1 (by omega)
      refine s_X8_readsOrder_32 (name_yes hT hW hl ⟨_, rfl, fun z => absurd z (by decide), fun _ => ?_⟩)
      rw [e12, ← ec, Int.toNat_natCast]
      exact ⟨by omega, c0, h1, h2⟩
    refine ⟨bi_inR _, fun y => ⟨by omega, c0, fun μ2 e2 => ?_⟩, fun y => k_X4_hasFault hC.2.1 (fun μ1 c1 => ⟨_, rfl, hF 2 a μ1 (fun ν Q8 hP hq => ?_) (c7R.tk c1.2.2) c1.1 c1.2.1 (by decide) h0⟩)⟩
    · have bf : B.testBit c.toNat = false := by cases e : B.testBit c.toNat; rfl; rw [e] at y; exact absurd rfl y
      have hO2 := hO.add (o' := μ2 (14 + 1)) (p' := μ2 (14 + 2)) c0.1 c0.2 bf (by rw [e2, up_ne (by decide), up_self]) (fun j hj => by rw [e2, up_ne (by decide), up_off (Or.inr hj)]) (by rw [e2, up_self]) (fun l hl => by rw [e2, up_off (Or.inr hl), up_ne (by decide)])
      have k2 : ∀ k, k ≠ 15 → k ≠ 16 → μ2 k = μ k := fun k x y => by rw [e2, up_ne y, up_ne x]
      have r2 : c7R μ μ2 := by rw [e2]; exact (c7R.upj (j := 1) (by decide) (by omega)).tr (c7R.upj (j := 2) (by decide) (by omega))
      have c2 : C7 T n μ2 a := hC.off (k2 2 (by decide) (by decide)) (k2 3 (by decide) (by decide))
      have an : a < n := by
        by_cases e : n ≤ a
        · have := (tkT_end hT h0.1).2 e; omega
        · omega
      refine k_X4_step hT c2.pl.1 c2.pl.2 c2.nx (by omega) (fun μ3 c3 o3 => ⟨rfl, ?_⟩)
      have e15 : μ3 (14 + 1) = μ2 (14 + 1) := o3 _ (by decide)
      have e16 : μ3 (14 + 2) = μ2 (14 + 2) := o3 _ (by decide)
      have oc : μ3 (14 + 1) k = c := by rw [e15, e2, up_ne (by decide), up_self]
      have oj : ∀ j, j ≠ k → μ3 (14 + 1) j = μ (14 + 1) j := fun j hj => by rw [e15, e2, up_ne (by decide), up_off (Or.inr hj)]
      have rx : ∀ o, RX (P32 T n s t (μ3 (14 + 1)) (k + 1) (tkN T n a)) (G32 E (B ||| 2 ^ c.toNat) (k + 1)) o → RX (P32 T n s t (μ (14 + 1)) k a) (G32 E B k) o := by
        intro o ho ν Q8 hP hq
        obtain ⟨hW, hd⟩ := hP
        have hd1 : drO s t (μ3 (14 + 1)) k ν := ⟨hd.1, hd.2.1, hd.2.2.1, fun j j0 jk => by rw [hd.2.2.2.1 j j0 jk, oj j (by omega)], hd.2.2.2.2⟩
        refine lt ν _ hW (fun z => absurd (bf.symm.trans z) (by decide)) (fun _ => ?_)
        refine s_X8_readsOrder_61 (takes_ok hT hW.1 h0 hW.2 (fun ν1 k1 a1 => ⟨_, rfl, by omega, fun z => absurd z (by omega), fun _ => ⟨by omega, fun μ6 e6 => ?_⟩⟩))
        rw [bd]
        have hd2 : drO s t (μ3 (14 + 1)) k ν1 := by unfold drO at hd1 ⊢; rw [a1.1 90 (by decide)]; exact hd1
        have hd6 := hd2.add hk0.1 (by omega)
        rw [oc, ← e6] at hd6
        exact ho μ6 Q8 ⟨by rw [e6]; exact (hW.av a1 k1).up, hd6⟩ (fun ν3 p3 => hq ν3 (ePost.md (a1.md.tr (by rw [e6]; exact md_up)) p3))
      exact ih (k + 1) (tkN T n a) (B ||| 2 ^ c.toNat) μ3 (by omega) c3 (by omega) (by rw [e15, e16]; exact hO2) (fun f b μ4 h4 r4 g1 g2 g3 g4 => hF f b μ4 (rx _ h4) ((r2.tr (c7R.tk o3)).tr r4) g1 g2 g3 g4) (fun b μ4 c4 b4 r4 k4 o4 h4 => hS b μ4 c4 b4 ((r2.tr (c7R.tk o3)).tr r4) (fun k x y w => by rw [k4 k x y w, o3 k x, k2 k y w]) o4 (fun o ho => rx o (h4 o ho)))
    · have bt : B.testBit c.toNat = true := by cases e : B.testBit c.toNat; rw [e] at y; exact absurd y (by decide); rfl
      obtain ⟨hW, hd⟩ := hP
      refine lt ν _ hW (fun _ => ?_) (fun z => absurd (bt.symm.trans z) (by decide))
      refine s_X8_readsOrder_61 (takes_no hW.1 hW.2 (fun ν1 r1 => ⟨_, rfl, by omega, fun z => absurd z (by omega), fun _ => ⟨by omega, fun μ6 e6 => ?_⟩⟩))
      have w1 := r1.w hW.1 (by omega) (inR_90 hd)
      have b6 : bdR ν1 μ6 := ⟨fun k hk => by rw [e6, up_ne hk], by rw [e6, up_off (Or.inr (by omega))]⟩
      have w6 := b6.w w1
      have e8 : μ6 83 8 = a := by rw [b6.1 83 (by decide)]; exact r1.1
      exact bad_o32 w6 ⟨rfl, bad_130 w6 (fun ν4 e4 => by rw [e8]; exact hq ν4 (bd_end mdR.rf r1 b6 e4))⟩
end P66
