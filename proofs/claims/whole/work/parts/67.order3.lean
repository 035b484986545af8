/-! A court is read: the order, from its first byte. -/
section P67
variable {E : Ex} {Q : Option Vl → Mem → Prop} {T : Int → Int} {n a s t : Int} {μ : Mem}
theorem rd_order (hT : tkOK T n) (hC : C7 T n μ a) (h0 : 0 ≤ a ∧ a ≤ n) (hF : ∀ (f b : Int) (μ1 : Mem), RX (Pord T n a s t) (Gord E) (.inl (f, b)) → c7R μ μ1 → μ1 2 2 = f → μ1 2 3 = b → (1 ≤ f ∧ f ≤ 3) → (0 ≤ b ∧ b ≤ n) → Q (some (.inl (bi false))) μ1)
    (hS : ∀ (b : Int) (μ1 : Mem), C7 T n μ1 b → (0 ≤ b ∧ b ≤ n) → c7R μ μ1 → (∀ k, k ≠ 2 → k ≠ 15 → k ≠ 16 → μ1 k = μ k) → oOK (cv μ1 14) → (∀ o, RX (P32 T n s t (μ1 (14 + 1)) 8 b) (G130 E) o → RX (Pord T n a s t) (Gord E) o) → Q (some (.inl (bi true))) μ1) : Cl E 3 M_X4_readOrder [.inr 2, .inr 14] μ Q := by
  have hn := hT.1
  have na := tkN_rng (T := T) h0.1 h0.2
  refine s_X4_readOrder (k_X4_passOver hT hC h0 (by decide) (fun q μ1 c1 o1 => ⟨_, rfl, fun _ => ?_, fun z => absurd z (by decide)⟩) (fun q μ1 c1 => ⟨_, rfl, fun z => absurd z (by decide), fun _ => hF 1 a μ1 (fun ν Q8 hP hq => ?_) (c7R.tk c1.2.2) c1.1 c1.2.1 (by decide) h0⟩))
  · have rx : ∀ o, RX (P32 T n s t (μ1 (14 + 1)) 0 (tkN T n a)) (G32 E 0 0) o → RX (Pord T n a s t) (Gord E) o := by
      intro o ho ν Q8 hP hq
      obtain ⟨hW, z0, z1, hz⟩ := hP
      have e11 := hW.1.2.2.1
      have e12 := hW.1.2.2.2.1.2.1 (by omega)
      have r1 := rTk_1 (t := tkT T n a)
      have go : Cl E 2 M_X8_takes [.inr 83, .inl 1, .inl 1] ν (fun vv μ7 => ∃ v8, vv = some (.inl v8) ∧ Gg E 3 M_X8_readsOrder 32 [some (.inr 83), some (.inl 0), some (.inl 0), none] [] μ7 (fun vv ν' => vv = none ∧ Gg E 5 M_X8_court 130 [some (.inr 83), some (.inl 91)] [] ν' Q8)) := by
        refine takes_ok hT hW.1 h0 hW.2 (fun ν1 k1 a1 => ⟨_, rfl, ho ν1 Q8 ⟨hW.av a1 k1, ?_⟩ (fun ν3 p3 => hq ν3 (ePost.md a1.md p3))⟩)
        unfold drO
        rw [a1.1 90 (by decide)]
        exact ⟨z0, z1, fun i i0 i1 => hz i i0 (by omega), fun j j0 j1 => absurd j1 (by omega), fun i i0 i1 => hz i (by omega) i1⟩
      exact s_X8_readsOrder ⟨by omega, fun z => absurd (by omega) z, fun _ => ⟨by omega, fun z => absurd (by omega) z, fun _ => go⟩⟩
    exact rd_letters hT 8 0 (tkN T n a) 0 μ1 (by decide) c1 (by omega) ordI_0 (fun f b μ4 h4 r4 g1 g2 g3 g4 => hF f b μ4 (rx _ h4) ((c7R.tk o1).tr r4) g1 g2 g3 g4) (fun b μ4 c4 b4 r4 k4 o4 h4 => hS b μ4 c4 b4 ((c7R.tk o1).tr r4) (fun k x y w => by rw [k4 k x y w, o1 k x]) o4 (fun o ho => rx o (h4 o ho)))
  · obtain ⟨hW, z0, z1, hz⟩ := hP
    have e11 := hW.1.2.2.1
    have rr := rTk_rng (t := tkT T n a)
    have r1 := rTk_1 (t := tkT T n a)
    have e12 := hW.1.2.2.2.1.2.2
    have go : Cl E 2 M_X8_takes [.inr 83, .inl 0, .inl 1] ν (fun vv μ7 => ∃ v8, vv = some (.inl v8) ∧ Gg E 3 M_X8_readsOrder 32 [some (.inr 83), some (.inl 0), some (.inl 0), none] [] μ7 (fun vv ν' => vv = none ∧ Gg E 5 M_X8_court 130 [some (.inr 83), some (.inl 91)] [] ν' Q8)) := by
      refine takes_no hW.1 hW.2 (fun ν1 f1 => ⟨_, rfl, ?_⟩)
      have w1 := f1.w hW.1 (by omega) (by rw [hz 2 (by decide) (by decide)]; decide)
      exact bad_o32 w1 ⟨rfl, bad_130 w1 (fun ν4 e4 => by rw [f1.1]; exact hq ν4 (bd_end mdR.rf f1 bdR.rf e4))⟩
    refine s_X8_readsOrder ⟨by omega, fun _ => go, fun z => ⟨by omega, fun _ => go, fun z2 => ?_⟩⟩
    have e := hW.1.2.2.2.1.2.1 (by omega)
    omega
end P67
