/-! The law: its cases, its loop. -/
set_option maxRecDepth 20000 in
theorem s_law_18 {E : Ex} {μ : Mem} {Q : Option Vl → Mem → Prop} {x3 : Int} (h : inR x3 ∧ inR ((eS E : Int) - 6) ∧ (x3 > ((eS E : Int) - 6) → Q (some (.inl (bi true))) μ) ∧ (¬ x3 > ((eS E : Int) - 6) → (0 ≤ x3 ∧ x3 < (eS E : Int)) ∧ inR (jand (eR E 4 (x3).toNat) 31) ∧ (((jand (eR E 4 (x3).toNat) 31) < 0 ∨ 28 < (jand (eR E 4 (x3).toNat) 31)) → Gg E 23 M_law 971 [some (.inr 104), some (.inr 0), some (.inr 83), some (.inl x3)] [] μ Q) ∧ ((jand (eR E 4 (x3).toNat) 31) = 0 → Gg E 23 M_law 164 [some (.inr 104), some (.inr 0), some (.inr 83), some (.inl x3)] [] μ Q) ∧ ((jand (eR E 4 (x3).toNat) 31) = 1 → Gg E 23 M_law 207 [some (.inr 104), some (.inr 0), some (.inr 83), some (.inl x3)] [] μ Q) ∧ ((jand (eR E 4 (x3).toNat) 31) = 2 → Gg E 23 M_law 250 [some (.inr 104), some (.inr 0), some (.inr 83), some (.inl x3)] [] μ Q) ∧ ((jand (eR E 4 (x3).toNat) 31) = 3 → Gg E 23 M_law 313 [some (.inr 104), some (.inr 0), some (.inr 83), some (.inl x3)] [] μ Q) ∧ ((jand (eR E 4 (x3).toNat) 31) = 4 → Gg E 23 M_law 336 [some (.inr 104), some (.inr 0), some (.inr 83), some (.inl x3)] [] μ Q) ∧ ((jand (eR E 4 (x3).toNat) 31) = 5 → Gg E 23 M_law 359 [some (.inr 104), some (.inr 0), some (.inr 83), some (.inl x3)] [] μ Q) ∧ ((jand (eR E 4 (x3).toNat) 31) = 6 → Gg E 23 M_law 372 [some (.inr 104), some (.inr 0), some (.inr 83), some (.inl x3)] [] μ Q) ∧ ((jand (eR E 4 (x3).toNat) 31) = 7 → Gg E 23 M_law 385 [some (.inr 104), some (.inr 0), some (.inr 83), some (.inl x3)] [] μ Q) ∧ ((jand (eR E 4 (x3).toNat) 31) = 8 → Gg E 23 M_law 408 [some (.inr 104), some (.inr 0), some (.inr 83), some (.inl x3)] [] μ Q) ∧ ((jand (eR E 4 (x3).toNat) 31) = 9 → Gg E 23 M_law 451 [some (.inr 104), some (.inr 0), some (.inr 83), some (.inl x3)] [] μ Q) ∧ ((jand (eR E 4 (x3).toNat) 31) = 10 → Gg E 23 M_law 484 [some (.inr 104), some (.inr 0), some (.inr 83), some (.inl x3)] [] μ Q) ∧ ((jand (eR E 4 (x3).toNat) 31) = 11 → Gg E 23 M_law 497 [some (.inr 104), some (.inr 0), some (.inr 83), some (.inl x3)] [] μ Q) ∧ ((jand (eR E 4 (x3).toNat) 31) = 12 → Gg E 23 M_law 530 [some (.inr 104), some (.inr 0), some (.inr 83), some (.inl x3)] [] μ Q) ∧ ((jand (eR E 4 (x3).toNat) 31) = 13 → Gg E 23 M_law 563 [some (.inr 104), some (.inr 0), some (.inr 83), some (.inl x3)] [] μ Q) ∧ ((jand (eR E 4 (x3).toNat) 31) = 14 → Gg E 23 M_law 586 [some (.inr 104), some (.inr 0), some (.inr 83), some (.inl x3)] [] μ Q) ∧ ((jand (eR E 4 (x3).toNat) 31) = 15 → Gg E 23 M_law 619 [some (.inr 104), some (.inr 0), some (.inr 83), some (.inl x3)] [] μ Q) ∧ ((jand (eR E 4 (x3).toNat) 31) = 16 → Gg E 23 M_law 632 [some (.inr 104), some (.inr 0), some (.inr 83), some (.inl x3)] [] μ Q) ∧ ((jand (eR E 4 (x3).toNat) 31) = 17 → Gg E 23 M_law 665 [some (.inr 104), some (.inr 0), some (.inr 83), some (.inl x3)] [] μ Q) ∧ ((jand (eR E 4 (x3).toNat) 31) = 18 → Gg E 23 M_law 688 [some (.inr 104), some (.inr 0), some (.inr 83), some (.inl x3)] [] μ Q) ∧ ((jand (eR E 4 (x3).toNat) 31) = 19 → Gg E 23 M_law 711 [some (.inr 104), some (.inr 0), some (.inr 83), some (.inl x3)] [] μ Q) ∧ ((jand (eR E 4 (x3).toNat) 31) = 20 → Gg E 23 M_law 734 [some (.inr 104), some (.inr 0), some (.inr 83), some (.inl x3)] [] μ Q) ∧ ((jand (eR E 4 (x3).toNat) 31) = 21 → Gg E 23 M_law 777 [some (.inr 104), some (.inr 0), some (.inr 83), some (.inl x3)] [] μ Q) ∧ ((jand (eR E 4 (x3).toNat) 31) = 22 → Gg E 23 M_law 800 [some (.inr 104), some (.inr 0), some (.inr 83), some (.inl x3)] [] μ Q) ∧ ((jand (eR E 4 (x3).toNat) 31) = 23 → Gg E 23 M_law 823 [some (.inr 104), some (.inr 0), some (.inr 83), some (.inl x3)] [] μ Q) ∧ ((jand (eR E 4 (x3).toNat) 31) = 24 → Gg E 23 M_law 846 [some (.inr 104), some (.inr 0), some (.inr 83), some (.inl x3)] [] μ Q) ∧ ((jand (eR E 4 (x3).toNat) 31) = 25 → Gg E 23 M_law 879 [some (.inr 104), some (.inr 0), some (.inr 83), some (.inl x3)] [] μ Q) ∧ ((jand (eR E 4 (x3).toNat) 31) = 26 → Gg E 23 M_law 912 [some (.inr 104), some (.inr 0), some (.inr 83), some (.inl x3)] [] μ Q) ∧ ((jand (eR E 4 (x3).toNat) 31) = 27 → Gg E 23 M_law 935 [some (.inr 104), some (.inr 0), some (.inr 83), some (.inl x3)] [] μ Q) ∧ ((jand (eR E 4 (x3).toNat) 31) = 28 → Gg E 23 M_law 958 [some (.inr 104), some (.inr 0), some (.inr 83), some (.inl x3)] [] μ Q) ∧ True)) : Gg E 23 M_law 18 [some (.inr 104), some (.inr 0), some (.inr 83), some (.inl x3)] [] μ Q := by
  refine r_iloadn (q := 19) DM_law_18 rfl rfl ?_
  refine r_aloadn (q := 20) DM_law_19 rfl rfl ?_
  refine r_alen (q := 21) DM_law_20 rfl ?_
  refine r_bipush (q := 23) (n := 6) DM_law_21 rfl (by decide) ?_
  refine r_isub (q := 24) DM_law_23 rfl ?_
  have i1 := h.1
  replace h := h.2
  have i2 := h.1
  replace h := h.2
  refine r_icgt (q := 27) (t := 977) DM_law_24 rfl (by decide) ⟨⟨i1, i2⟩, fun cc => ?_, fun cc => ?_⟩
  · replace h := h.1 cc
    refine r_iconst (q := 978) (n := 1) DM_law_977 rfl ?_
    exact r_ret (v := some (.inl 1)) ⟨DM_law_978, Or.inr ⟨rfl, Or.inr rfl⟩⟩ h
  · replace h := h.2 cc
    refine r_aloadn (q := 28) DM_law_27 rfl rfl ?_
    refine r_iloadn (q := 29) DM_law_28 rfl rfl ?_
    refine v_tald (q := 30) (t := 4) (N := eS E) DM_law_29 rfl (by decide) rfl ⟨h.1, ?_⟩
    replace h := h.2
    refine r_bipush (q := 32) (n := 31) DM_law_30 rfl (by decide) ?_
    refine r_iand (q := 33) DM_law_32 rfl ?_
    have i3 := h.1
    replace h := h.2
    refine r_tab DM_law_33 i3 (fun c1 c2 => ?_) (fun cc => ⟨971, by decide, ?_⟩)
    · rcases (show (jand (eR E 4 (x3).toNat) 31) = 0 ∨ (jand (eR E 4 (x3).toNat) 31) = 1 ∨ (jand (eR E 4 (x3).toNat) 31) = 2 ∨ (jand (eR E 4 (x3).toNat) 31) = 3 ∨ (jand (eR E 4 (x3).toNat) 31) = 4 ∨ (jand (eR E 4 (x3).toNat) 31) = 5 ∨ (jand (eR E 4 (x3).toNat) 31) = 6 ∨ (jand (eR E 4 (x3).toNat) 31) = 7 ∨ (jand (eR E 4 (x3).toNat) 31) = 8 ∨ (jand (eR E 4 (x3).toNat) 31) = 9 ∨ (jand (eR E 4 (x3).toNat) 31) = 10 ∨ (jand (eR E 4 (x3).toNat) 31) = 11 ∨ (jand (eR E 4 (x3).toNat) 31) = 12 ∨ (jand (eR E 4 (x3).toNat) 31) = 13 ∨ (jand (eR E 4 (x3).toNat) 31) = 14 ∨ (jand (eR E 4 (x3).toNat) 31) = 15 ∨ (jand (eR E 4 (x3).toNat) 31) = 16 ∨ (jand (eR E 4 (x3).toNat) 31) = 17 ∨ (jand (eR E 4 (x3).toNat) 31) = 18 ∨ (jand (eR E 4 (x3).toNat) 31) = 19 ∨ (jand (eR E 4 (x3).toNat) 31) = 20 ∨ (jand (eR E 4 (x3).toNat) 31) = 21 ∨ (jand (eR E 4 (x3).toNat) 31) = 22 ∨ (jand (eR E 4 (x3).toNat) 31) = 23 ∨ (jand (eR E 4 (x3).toNat) 31) = 24 ∨ (jand (eR E 4 (x3).toNat) 31) = 25 ∨ (jand (eR E 4 (x3).toNat) 31) = 26 ∨ (jand (eR E 4 (x3).toNat) 31) = 27 ∨ (jand (eR E 4 (x3).toNat) 31) = 28 from by omega) with cc | cc | cc | cc | cc | cc | cc | cc | cc | cc | cc | cc | cc | cc | cc | cc | cc | cc | cc | cc | cc | cc | cc | cc | cc | cc | cc | cc | cc
      · replace h := h.2.1 cc
        refine ⟨131, 164, by rw [cc]; rfl, by decide, ?_⟩
        exact h
      · replace h := h.2.2.1 cc
        refine ⟨174, 207, by rw [cc]; rfl, by decide, ?_⟩
        exact h
      · replace h := h.2.2.2.1 cc
        refine ⟨217, 250, by rw [cc]; rfl, by decide, ?_⟩
        exact h
      · replace h := h.2.2.2.2.1 cc
        refine ⟨280, 313, by rw [cc]; rfl, by decide, ?_⟩
        exact h
      · replace h := h.2.2.2.2.2.1 cc
        refine ⟨303, 336, by rw [cc]; rfl, by decide, ?_⟩
        exact h
      · replace h := h.2.2.2.2.2.2.1 cc
        refine ⟨326, 359, by rw [cc]; rfl, by decide, ?_⟩
        exact h
      · replace h := h.2.2.2.2.2.2.2.1 cc
        refine ⟨339, 372, by rw [cc]; rfl, by decide, ?_⟩
        exact h
      · replace h := h.2.2.2.2.2.2.2.2.1 cc
        refine ⟨352, 385, by rw [cc]; rfl, by decide, ?_⟩
        exact h
      · replace h := h.2.2.2.2.2.2.2.2.2.1 cc
        refine ⟨375, 408, by rw [cc]; rfl, by decide, ?_⟩
        exact h
      · replace h := h.2.2.2.2.2.2.2.2.2.2.1 cc
        refine ⟨418, 451, by rw [cc]; rfl, by decide, ?_⟩
        exact h
      · replace h := h.2.2.2.2.2.2.2.2.2.2.2.1 cc
        refine ⟨451, 484, by rw [cc]; rfl, by decide, ?_⟩
        exact h
      · replace h := h.2.2.2.2.2.2.2.2.2.2.2.2.1 cc
        refine ⟨464, 497, by rw [cc]; rfl, by decide, ?_⟩
        exact h
      · replace h := h.2.2.2.2.2.2.2.2.2.2.2.2.2.1 cc
        refine ⟨497, 530, by rw [cc]; rfl, by decide, ?_⟩
        exact h
      · replace h := h.2.2.2.2.2.2.2.2.2.2.2.2.2.2.1 cc
        refine ⟨530, 563, by rw [cc]; rfl, by decide, ?_⟩
        exact h
      · replace h := h.2.2.2.2.2.2.2.2.2.2.2.2.2.2.2.1 cc
        refine ⟨553, 586, by rw [cc]; rfl, by decide, ?_⟩
        exact h
      · replace h := h.2.2.2.2.2.2.2.2.2.2.2.2.2.2.2.2.1 cc
        refine ⟨586, 619, by rw [cc]; rfl, by decide, ?_⟩
        exact h
      · replace h := h.2.2.2.2.2.2.2.2.2.2.2.2.2.2.2.2.2.1 cc
        refine ⟨599, 632, by rw [cc]; rfl, by decide, ?_⟩
        exact h
      · replace h := h.2.2.2.2.2.2.2.2.2.2.2.2.2.2.2.2.2.2.1 cc
        refine ⟨632, 665, by rw [cc]; rfl, by decide, ?_⟩
        exact h
      · replace h := h.2.2.2.2.2.2.2.2.2.2.2.2.2.2.2.2.2.2.2.1 cc
        refine ⟨655, 688, by rw [cc]; rfl, by decide, ?_⟩
        exact h
      · replace h := h.2.2.2.2.2.2.2.2.2.2.2.2.2.2.2.2.2.2.2.2.1 cc
        refine ⟨678, 711, by rw [cc]; rfl, by decide, ?_⟩
        exact h
      · replace h := h.2.2.2.2.2.2.2.2.2.2.2.2.2.2.2.2.2.2.2.2.2.1 cc
        refine ⟨701, 734, by rw [cc]; rfl, by decide, ?_⟩
        exact h
      · replace h := h.2.2.2.2.2.2.2.2.2.2.2.2.2.2.2.2.2.2.2.2.2.2.1 cc
        refine ⟨744, 777, by rw [cc]; rfl, by decide, ?_⟩
        exact h
      · replace h := h.2.2.2.2.2.2.2.2.2.2.2.2.2.2.2.2.2.2.2.2.2.2.2.1 cc
        refine ⟨767, 800, by rw [cc]; rfl, by decide, ?_⟩
        exact h
      · replace h := h.2.2.2.2.2.2.2.2.2.2.2.2.2.2.2.2.2.2.2.2.2.2.2.2.1 cc
        refine ⟨790, 823, by rw [cc]; rfl, by decide, ?_⟩
        exact h
      · replace h := h.2.2.2.2.2.2.2.2.2.2.2.2.2.2.2.2.2.2.2.2.2.2.2.2.2.1 cc
        refine ⟨813, 846, by rw [cc]; rfl, by decide, ?_⟩
        exact h
      · replace h := h.2.2.2.2.2.2.2.2.2.2.2.2.2.2.2.2.2.2.2.2.2.2.2.2.2.2.1 cc
        refine ⟨846, 879, by rw [cc]; rfl, by decide, ?_⟩
        exact h
      · replace h := h.2.2.2.2.2.2.2.2.2.2.2.2.2.2.2.2.2.2.2.2.2.2.2.2.2.2.2.1 cc
        refine ⟨879, 912, by rw [cc]; rfl, by decide, ?_⟩
        exact h
      · replace h := h.2.2.2.2.2.2.2.2.2.2.2.2.2.2.2.2.2.2.2.2.2.2.2.2.2.2.2.2.1 cc
        refine ⟨902, 935, by rw [cc]; rfl, by decide, ?_⟩
        exact h
      · replace h := h.2.2.2.2.2.2.2.2.2.2.2.2.2.2.2.2.2.2.2.2.2.2.2.2.2.2.2.2.2.1 cc
        refine ⟨925, 958, by rw [cc]; rfl, by decide, ?_⟩
        exact h
    · replace h := h.1 cc
      exact h
set_option maxRecDepth 20000 in
theorem s_law_164 {E : Ex} {μ : Mem} {Q : Option Vl → Mem → Prop} {x3 : Int} (h : (0 ≤ (x3 + 1) ∧ (x3 + 1) < (eS E : Int)) ∧ (0 ≤ (x3 + 2) ∧ (x3 + 2) < (eS E : Int)) ∧ (0 ≤ (x3 + 3) ∧ (x3 + 3) < (eS E : Int)) ∧ Cl E 1 M_X7_row [.inr 0, .inl (eR E 4 ((x3 + 1)).toNat), .inl (eR E 4 ((x3 + 2)).toNat), .inl (eR E 4 ((x3 + 3)).toNat)] μ (fun vv μ1 => ∃ v2, vv = some (.inl v2) ∧ (0 ≤ (x3 + 1) ∧ (x3 + 1) < (eS E : Int)) ∧ (0 ≤ (x3 + 2) ∧ (x3 + 2) < (eS E : Int)) ∧ (0 ≤ (x3 + 3) ∧ (x3 + 3) < (eS E : Int)) ∧ Cl E 2 M_X8_row [.inr 83, .inl (eR E 4 ((x3 + 1)).toNat), .inl (eR E 4 ((x3 + 2)).toNat), .inl (eR E 4 ((x3 + 3)).toNat)] μ1 (fun vv μ3 => ∃ v4, vv = some (.inl v4) ∧ inR v2 ∧ inR v4 ∧ (v2 = v4 → Gg E 23 M_law 971 [some (.inr 104), some (.inr 0), some (.inr 83), some (.inl x3)] [] μ3 Q) ∧ (¬ v2 = v4 → Q (some (.inl (bi false))) μ3)))) : Gg E 23 M_law 164 [some (.inr 104), some (.inr 0), some (.inr 83), some (.inl x3)] [] μ Q := by
  refine r_aloadn (q := 165) DM_law_164 rfl rfl ?_
  refine r_aloadn (q := 166) DM_law_165 rfl rfl ?_
  refine r_iloadn (q := 167) DM_law_166 rfl rfl ?_
  refine r_iconst (q := 168) (n := 1) DM_law_167 rfl ?_
  refine r_iadd (q := 169) DM_law_168 rfl ?_
  refine v_tald (q := 170) (t := 4) (N := eS E) DM_law_169 rfl (by decide) rfl ⟨h.1, ?_⟩
  replace h := h.2
  refine r_aloadn (q := 171) DM_law_170 rfl rfl ?_
  refine r_iloadn (q := 172) DM_law_171 rfl rfl ?_
  refine r_iconst (q := 173) (n := 2) DM_law_172 rfl ?_
  refine r_iadd (q := 174) DM_law_173 rfl ?_
  refine v_tald (q := 175) (t := 4) (N := eS E) DM_law_174 rfl (by decide) rfl ⟨h.1, ?_⟩
  replace h := h.2
  refine r_aloadn (q := 176) DM_law_175 rfl rfl ?_
  refine r_iloadn (q := 177) DM_law_176 rfl rfl ?_
  refine r_iconst (q := 178) (n := 3) DM_law_177 rfl ?_
  refine r_iadd (q := 179) DM_law_178 rfl ?_
  refine v_tald (q := 180) (t := 4) (N := eS E) DM_law_179 rfl (by decide) rfl ⟨h.1, ?_⟩
  replace h := h.2
  refine r_callVi [.inl (eR E 4 ((x3 + 1)).toNat), .inl (eR E 4 ((x3 + 2)).toNat), .inl (eR E 4 ((x3 + 3)).toNat)] (q := 183) DM_law_180 rfl kM_X7_row lRL_13 sh_0 rfl rfl (by decide) (Nat.le_of_ble_eq_true rfl) rfl (Cl.imp h (fun vv μ1 h => ?_))
  obtain ⟨v2, hv, h⟩ := h
  refine ⟨v2, hv, ?_⟩
  refine r_aloadn (q := 184) DM_law_183 rfl rfl ?_
  refine r_aloadn (q := 185) DM_law_184 rfl rfl ?_
  refine r_iloadn (q := 186) DM_law_185 rfl rfl ?_
  refine r_iconst (q := 187) (n := 1) DM_law_186 rfl ?_
  refine r_iadd (q := 188) DM_law_187 rfl ?_
  refine v_tald (q := 189) (t := 4) (N := eS E) DM_law_188 rfl (by decide) rfl ⟨h.1, ?_⟩
  replace h := h.2
  refine r_aloadn (q := 190) DM_law_189 rfl rfl ?_
  refine r_iloadn (q := 191) DM_law_190 rfl rfl ?_
  refine r_iconst (q := 192) (n := 2) DM_law_191 rfl ?_
  refine r_iadd (q := 193) DM_law_192 rfl ?_
  refine v_tald (q := 194) (t := 4) (N := eS E) DM_law_193 rfl (by decide) rfl ⟨h.1, ?_⟩
  replace h := h.2
  refine r_aloadn (q := 195) DM_law_194 rfl rfl ?_
  refine r_iloadn (q := 196) DM_law_195 rfl rfl ?_
  refine r_iconst (q := 197) (n := 3) DM_law_196 rfl ?_
  refine r_iadd (q := 198) DM_law_197 rfl ?_
  refine v_tald (q := 199) (t := 4) (N := eS E) DM_law_198 rfl (by decide) rfl ⟨h.1, ?_⟩
  replace h := h.2
  refine r_callVi [.inl (eR E 4 ((x3 + 1)).toNat), .inl (eR E 4 ((x3 + 2)).toNat), .inl (eR E 4 ((x3 + 3)).toNat)] (q := 202) DM_law_199 rfl kM_X8_row lRL_17 sh_83 rfl rfl (by decide) (Nat.le_of_ble_eq_true rfl) rfl (Cl.imp h (fun vv μ3 h => ?_))
  obtain ⟨v4, hv, h⟩ := h
  refine ⟨v4, hv, ?_⟩
  have i5 := h.1
  replace h := h.2
  have i6 := h.1
  replace h := h.2
  refine r_iceq (q := 205) (t := 971) DM_law_202 rfl (by decide) ⟨⟨i5, i6⟩, fun cc => ?_, fun cc => ?_⟩
  · replace h := h.1 cc
    exact h
  · replace h := h.2 cc
    refine r_iconst (q := 206) (n := 0) DM_law_205 rfl ?_
    exact r_ret (v := some (.inl 0)) ⟨DM_law_206, Or.inr ⟨rfl, Or.inl rfl⟩⟩ h
set_option maxRecDepth 20000 in
theorem s_law_207 {E : Ex} {μ : Mem} {Q : Option Vl → Mem → Prop} {x3 : Int} (h : (0 ≤ (x3 + 1) ∧ (x3 + 1) < (eS E : Int)) ∧ (0 ≤ (x3 + 2) ∧ (x3 + 2) < (eS E : Int)) ∧ (0 ≤ (x3 + 3) ∧ (x3 + 3) < (eS E : Int)) ∧ Cl E 1 M_X7_set [.inr 0, .inl (eR E 4 ((x3 + 1)).toNat), .inl (eR E 4 ((x3 + 2)).toNat), .inl (eR E 4 ((x3 + 3)).toNat)] μ (fun vv μ1 => ∃ v2, vv = some (.inl v2) ∧ (0 ≤ (x3 + 1) ∧ (x3 + 1) < (eS E : Int)) ∧ (0 ≤ (x3 + 2) ∧ (x3 + 2) < (eS E : Int)) ∧ (0 ≤ (x3 + 3) ∧ (x3 + 3) < (eS E : Int)) ∧ Cl E 2 M_X8_set [.inr 83, .inl (eR E 4 ((x3 + 1)).toNat), .inl (eR E 4 ((x3 + 2)).toNat), .inl (eR E 4 ((x3 + 3)).toNat)] μ1 (fun vv μ3 => ∃ v4, vv = some (.inl v4) ∧ inR v2 ∧ inR v4 ∧ (v2 = v4 → Gg E 23 M_law 971 [some (.inr 104), some (.inr 0), some (.inr 83), some (.inl x3)] [] μ3 Q) ∧ (¬ v2 = v4 → Q (some (.inl (bi false))) μ3)))) : Gg E 23 M_law 207 [some (.inr 104), some (.inr 0), some (.inr 83), some (.inl x3)] [] μ Q := by
  refine r_aloadn (q := 208) DM_law_207 rfl rfl ?_
  refine r_aloadn (q := 209) DM_law_208 rfl rfl ?_
  refine r_iloadn (q := 210) DM_law_209 rfl rfl ?_
  refine r_iconst (q := 211) (n := 1) DM_law_210 rfl ?_
  refine r_iadd (q := 212) DM_law_211 rfl ?_
  refine v_tald (q := 213) (t := 4) (N := eS E) DM_law_212 rfl (by decide) rfl ⟨h.1, ?_⟩
  replace h := h.2
  refine r_aloadn (q := 214) DM_law_213 rfl rfl ?_
  refine r_iloadn (q := 215) DM_law_214 rfl rfl ?_
  refine r_iconst (q := 216) (n := 2) DM_law_215 rfl ?_
  refine r_iadd (q := 217) DM_law_216 rfl ?_
  refine v_tald (q := 218) (t := 4) (N := eS E) DM_law_217 rfl (by decide) rfl ⟨h.1, ?_⟩
  replace h := h.2
  refine r_aloadn (q := 219) DM_law_218 rfl rfl ?_
  refine r_iloadn (q := 220) DM_law_219 rfl rfl ?_
  refine r_iconst (q := 221) (n := 3) DM_law_220 rfl ?_
  refine r_iadd (q := 222) DM_law_221 rfl ?_
  refine v_tald (q := 223) (t := 4) (N := eS E) DM_law_222 rfl (by decide) rfl ⟨h.1, ?_⟩
  replace h := h.2
  refine r_callVi [.inl (eR E 4 ((x3 + 1)).toNat), .inl (eR E 4 ((x3 + 2)).toNat), .inl (eR E 4 ((x3 + 3)).toNat)] (q := 226) DM_law_223 rfl kM_X7_set lRL_18 sh_0 rfl rfl (by decide) (Nat.le_of_ble_eq_true rfl) rfl (Cl.imp h (fun vv μ1 h => ?_))
  obtain ⟨v2, hv, h⟩ := h
  refine ⟨v2, hv, ?_⟩
  refine r_aloadn (q := 227) DM_law_226 rfl rfl ?_
  refine r_aloadn (q := 228) DM_law_227 rfl rfl ?_
  refine r_iloadn (q := 229) DM_law_228 rfl rfl ?_
  refine r_iconst (q := 230) (n := 1) DM_law_229 rfl ?_
  refine r_iadd (q := 231) DM_law_230 rfl ?_
  refine v_tald (q := 232) (t := 4) (N := eS E) DM_law_231 rfl (by decide) rfl ⟨h.1, ?_⟩
  replace h := h.2
  refine r_aloadn (q := 233) DM_law_232 rfl rfl ?_
  refine r_iloadn (q := 234) DM_law_233 rfl rfl ?_
  refine r_iconst (q := 235) (n := 2) DM_law_234 rfl ?_
  refine r_iadd (q := 236) DM_law_235 rfl ?_
  refine v_tald (q := 237) (t := 4) (N := eS E) DM_law_236 rfl (by decide) rfl ⟨h.1, ?_⟩
  replace h := h.2
  refine r_aloadn (q := 238) DM_law_237 rfl rfl ?_
  refine r_iloadn (q := 239) DM_law_238 rfl rfl ?_
  refine r_iconst (q := 240) (n := 3) DM_law_239 rfl ?_
  refine r_iadd (q := 241) DM_law_240 rfl ?_
  refine v_tald (q := 242) (t := 4) (N := eS E) DM_law_241 rfl (by decide) rfl ⟨h.1, ?_⟩
  replace h := h.2
  refine r_callVi [.inl (eR E 4 ((x3 + 1)).toNat), .inl (eR E 4 ((x3 + 2)).toNat), .inl (eR E 4 ((x3 + 3)).toNat)] (q := 245) DM_law_242 rfl kM_X8_set lRL_21 sh_83 rfl rfl (by decide) (Nat.le_of_ble_eq_true rfl) rfl (Cl.imp h (fun vv μ3 h => ?_))
  obtain ⟨v4, hv, h⟩ := h
  refine ⟨v4, hv, ?_⟩
  have i5 := h.1
  replace h := h.2
  have i6 := h.1
  replace h := h.2
  refine r_iceq (q := 248) (t := 971) DM_law_245 rfl (by decide) ⟨⟨i5, i6⟩, fun cc => ?_, fun cc => ?_⟩
  · replace h := h.1 cc
    exact h
  · replace h := h.2 cc
    refine r_iconst (q := 249) (n := 0) DM_law_248 rfl ?_
    exact r_ret (v := some (.inl 0)) ⟨DM_law_249, Or.inr ⟨rfl, Or.inl rfl⟩⟩ h
set_option maxRecDepth 20000 in
theorem s_law_250 {E : Ex} {μ : Mem} {Q : Option Vl → Mem → Prop} {x3 : Int} (h : (0 ≤ (x3 + 1) ∧ (x3 + 1) < (eS E : Int)) ∧ (0 ≤ (x3 + 2) ∧ (x3 + 2) < (eS E : Int)) ∧ (0 ≤ (x3 + 3) ∧ (x3 + 3) < (eS E : Int)) ∧ (0 ≤ (x3 + 4) ∧ (x3 + 4) < (eS E : Int)) ∧ (0 ≤ (x3 + 5) ∧ (x3 + 5) < (eS E : Int)) ∧ Cl E 1 M_X7_copy [.inr 0, .inl (eR E 4 ((x3 + 1)).toNat), .inl (eR E 4 ((x3 + 2)).toNat), .inl (eR E 4 ((x3 + 3)).toNat), .inl (eR E 4 ((x3 + 4)).toNat), .inl (eR E 4 ((x3 + 5)).toNat)] μ (fun vv μ1 => ∃ v2, vv = some (.inl v2) ∧ (0 ≤ (x3 + 1) ∧ (x3 + 1) < (eS E : Int)) ∧ (0 ≤ (x3 + 2) ∧ (x3 + 2) < (eS E : Int)) ∧ (0 ≤ (x3 + 3) ∧ (x3 + 3) < (eS E : Int)) ∧ (0 ≤ (x3 + 4) ∧ (x3 + 4) < (eS E : Int)) ∧ (0 ≤ (x3 + 5) ∧ (x3 + 5) < (eS E : Int)) ∧ Cl E 2 M_X8_copy [.inr 83, .inl (eR E 4 ((x3 + 1)).toNat), .inl (eR E 4 ((x3 + 2)).toNat), .inl (eR E 4 ((x3 + 3)).toNat), .inl (eR E 4 ((x3 + 4)).toNat), .inl (eR E 4 ((x3 + 5)).toNat)] μ1 (fun vv μ3 => ∃ v4, vv = some (.inl v4) ∧ inR v2 ∧ inR v4 ∧ (v2 = v4 → Gg E 23 M_law 971 [some (.inr 104), some (.inr 0), some (.inr 83), some (.inl x3)] [] μ3 Q) ∧ (¬ v2 = v4 → Q (some (.inl (bi false))) μ3)))) : Gg E 23 M_law 250 [some (.inr 104), some (.inr 0), some (.inr 83), some (.inl x3)] [] μ Q := by
  refine r_aloadn (q := 251) DM_law_250 rfl rfl ?_
  refine r_aloadn (q := 252) DM_law_251 rfl rfl ?_
  refine r_iloadn (q := 253) DM_law_252 rfl rfl ?_
  refine r_iconst (q := 254) (n := 1) DM_law_253 rfl ?_
  refine r_iadd (q := 255) DM_law_254 rfl ?_
  refine v_tald (q := 256) (t := 4) (N := eS E) DM_law_255 rfl (by decide) rfl ⟨h.1, ?_⟩
  replace h := h.2
  refine r_aloadn (q := 257) DM_law_256 rfl rfl ?_
  refine r_iloadn (q := 258) DM_law_257 rfl rfl ?_
  refine r_iconst (q := 259) (n := 2) DM_law_258 rfl ?_
  refine r_iadd (q := 260) DM_law_259 rfl ?_
  refine v_tald (q := 261) (t := 4) (N := eS E) DM_law_260 rfl (by decide) rfl ⟨h.1, ?_⟩
  replace h := h.2
  refine r_aloadn (q := 262) DM_law_261 rfl rfl ?_
  refine r_iloadn (q := 263) DM_law_262 rfl rfl ?_
  refine r_iconst (q := 264) (n := 3) DM_law_263 rfl ?_
  refine r_iadd (q := 265) DM_law_264 rfl ?_
  refine v_tald (q := 266) (t := 4) (N := eS E) DM_law_265 rfl (by decide) rfl ⟨h.1, ?_⟩
  replace h := h.2
  refine r_aloadn (q := 267) DM_law_266 rfl rfl ?_
  refine r_iloadn (q := 268) DM_law_267 rfl rfl ?_
  refine r_iconst (q := 269) (n := 4) DM_law_268 rfl ?_
  refine r_iadd (q := 270) DM_law_269 rfl ?_
  refine v_tald (q := 271) (t := 4) (N := eS E) DM_law_270 rfl (by decide) rfl ⟨h.1, ?_⟩
  replace h := h.2
  refine r_aloadn (q := 272) DM_law_271 rfl rfl ?_
  refine r_iloadn (q := 273) DM_law_272 rfl rfl ?_
  refine r_iconst (q := 274) (n := 5) DM_law_273 rfl ?_
  refine r_iadd (q := 275) DM_law_274 rfl ?_
  refine v_tald (q := 276) (t := 4) (N := eS E) DM_law_275 rfl (by decide) rfl ⟨h.1, ?_⟩
  replace h := h.2
  refine r_callVi [.inl (eR E 4 ((x3 + 1)).toNat), .inl (eR E 4 ((x3 + 2)).toNat), .inl (eR E 4 ((x3 + 3)).toNat), .inl (eR E 4 ((x3 + 4)).toNat), .inl (eR E 4 ((x3 + 5)).toNat)] (q := 279) DM_law_276 rfl kM_X7_copy lRL_22 sh_0 rfl rfl (by decide) (Nat.le_of_ble_eq_true rfl) rfl (Cl.imp h (fun vv μ1 h => ?_))
  obtain ⟨v2, hv, h⟩ := h
  refine ⟨v2, hv, ?_⟩
  refine r_aloadn (q := 280) DM_law_279 rfl rfl ?_
  refine r_aloadn (q := 281) DM_law_280 rfl rfl ?_
  refine r_iloadn (q := 282) DM_law_281 rfl rfl ?_
  refine r_iconst (q := 283) (n := 1) DM_law_282 rfl ?_
  refine r_iadd (q := 284) DM_law_283 rfl ?_
  refine v_tald (q := 285) (t := 4) (N := eS E) DM_law_284 rfl (by decide) rfl ⟨h.1, ?_⟩
  replace h := h.2
  refine r_aloadn (q := 286) DM_law_285 rfl rfl ?_
  refine r_iloadn (q := 287) DM_law_286 rfl rfl ?_
  refine r_iconst (q := 288) (n := 2) DM_law_287 rfl ?_
  refine r_iadd (q := 289) DM_law_288 rfl ?_
  refine v_tald (q := 290) (t := 4) (N := eS E) DM_law_289 rfl (by decide) rfl ⟨h.1, ?_⟩
  replace h := h.2
  refine r_aloadn (q := 291) DM_law_290 rfl rfl ?_
  refine r_iloadn (q := 292) DM_law_291 rfl rfl ?_
  refine r_iconst (q := 293) (n := 3) DM_law_292 rfl ?_
  refine r_iadd (q := 294) DM_law_293 rfl ?_
  refine v_tald (q := 295) (t := 4) (N := eS E) DM_law_294 rfl (by decide) rfl ⟨h.1, ?_⟩
  replace h := h.2
  refine r_aloadn (q := 296) DM_law_295 rfl rfl ?_
  refine r_iloadn (q := 297) DM_law_296 rfl rfl ?_
  refine r_iconst (q := 298) (n := 4) DM_law_297 rfl ?_
  refine r_iadd (q := 299) DM_law_298 rfl ?_
  refine v_tald (q := 300) (t := 4) (N := eS E) DM_law_299 rfl (by decide) rfl ⟨h.1, ?_⟩
  replace h := h.2
  refine r_aloadn (q := 301) DM_law_300 rfl rfl ?_
  refine r_iloadn (q := 302) DM_law_301 rfl rfl ?_
  refine r_iconst (q := 303) (n := 5) DM_law_302 rfl ?_
  refine r_iadd (q := 304) DM_law_303 rfl ?_
  refine v_tald (q := 305) (t := 4) (N := eS E) DM_law_304 rfl (by decide) rfl ⟨h.1, ?_⟩
  replace h := h.2
  refine r_callVi [.inl (eR E 4 ((x3 + 1)).toNat), .inl (eR E 4 ((x3 + 2)).toNat), .inl (eR E 4 ((x3 + 3)).toNat), .inl (eR E 4 ((x3 + 4)).toNat), .inl (eR E 4 ((x3 + 5)).toNat)] (q := 308) DM_law_305 rfl kM_X8_copy lRL_26 sh_83 rfl rfl (by decide) (Nat.le_of_ble_eq_true rfl) rfl (Cl.imp h (fun vv μ3 h => ?_))
  obtain ⟨v4, hv, h⟩ := h
  refine ⟨v4, hv, ?_⟩
  have i5 := h.1
  replace h := h.2
  have i6 := h.1
  replace h := h.2
  refine r_iceq (q := 311) (t := 971) DM_law_308 rfl (by decide) ⟨⟨i5, i6⟩, fun cc => ?_, fun cc => ?_⟩
  · replace h := h.1 cc
    exact h
  · replace h := h.2 cc
    refine r_iconst (q := 312) (n := 0) DM_law_311 rfl ?_
    exact r_ret (v := some (.inl 0)) ⟨DM_law_312, Or.inr ⟨rfl, Or.inl rfl⟩⟩ h
set_option maxRecDepth 20000 in
theorem s_law_313 {E : Ex} {μ : Mem} {Q : Option Vl → Mem → Prop} {x3 : Int} (h : (0 ≤ (x3 + 1) ∧ (x3 + 1) < (eS E : Int)) ∧ Cl E 1 M_X7_drop [.inr 0, .inl (eR E 4 ((x3 + 1)).toNat)] μ (fun vv μ1 => ∃ v2, vv = some (.inl v2) ∧ (0 ≤ (x3 + 1) ∧ (x3 + 1) < (eS E : Int)) ∧ Cl E 2 M_X8_drop [.inr 83, .inl (eR E 4 ((x3 + 1)).toNat)] μ1 (fun vv μ3 => ∃ v4, vv = some (.inl v4) ∧ inR v2 ∧ inR v4 ∧ (v2 = v4 → Gg E 23 M_law 971 [some (.inr 104), some (.inr 0), some (.inr 83), some (.inl x3)] [] μ3 Q) ∧ (¬ v2 = v4 → Q (some (.inl (bi false))) μ3)))) : Gg E 23 M_law 313 [some (.inr 104), some (.inr 0), some (.inr 83), some (.inl x3)] [] μ Q := by
  refine r_aloadn (q := 314) DM_law_313 rfl rfl ?_
  refine r_aloadn (q := 315) DM_law_314 rfl rfl ?_
  refine r_iloadn (q := 316) DM_law_315 rfl rfl ?_
  refine r_iconst (q := 317) (n := 1) DM_law_316 rfl ?_
  refine r_iadd (q := 318) DM_law_317 rfl ?_
  refine v_tald (q := 319) (t := 4) (N := eS E) DM_law_318 rfl (by decide) rfl ⟨h.1, ?_⟩
  replace h := h.2
  refine r_callVi [.inl (eR E 4 ((x3 + 1)).toNat)] (q := 322) DM_law_319 rfl kM_X7_drop lRL_27 sh_0 rfl rfl (by decide) (Nat.le_of_ble_eq_true rfl) rfl (Cl.imp h (fun vv μ1 h => ?_))
  obtain ⟨v2, hv, h⟩ := h
  refine ⟨v2, hv, ?_⟩
  refine r_aloadn (q := 323) DM_law_322 rfl rfl ?_
  refine r_aloadn (q := 324) DM_law_323 rfl rfl ?_
  refine r_iloadn (q := 325) DM_law_324 rfl rfl ?_
  refine r_iconst (q := 326) (n := 1) DM_law_325 rfl ?_
  refine r_iadd (q := 327) DM_law_326 rfl ?_
  refine v_tald (q := 328) (t := 4) (N := eS E) DM_law_327 rfl (by decide) rfl ⟨h.1, ?_⟩
  replace h := h.2
  refine r_callVi [.inl (eR E 4 ((x3 + 1)).toNat)] (q := 331) DM_law_328 rfl kM_X8_drop lRL_31 sh_83 rfl rfl (by decide) (Nat.le_of_ble_eq_true rfl) rfl (Cl.imp h (fun vv μ3 h => ?_))
  obtain ⟨v4, hv, h⟩ := h
  refine ⟨v4, hv, ?_⟩
  have i5 := h.1
  replace h := h.2
  have i6 := h.1
  replace h := h.2
  refine r_iceq (q := 334) (t := 971) DM_law_331 rfl (by decide) ⟨⟨i5, i6⟩, fun cc => ?_, fun cc => ?_⟩
  · replace h := h.1 cc
    exact h
  · replace h := h.2 cc
    refine r_iconst (q := 335) (n := 0) DM_law_334 rfl ?_
    exact r_ret (v := some (.inl 0)) ⟨DM_law_335, Or.inr ⟨rfl, Or.inl rfl⟩⟩ h
set_option maxRecDepth 20000 in
theorem s_law_336 {E : Ex} {μ : Mem} {Q : Option Vl → Mem → Prop} {x3 : Int} (h : (0 ≤ (x3 + 1) ∧ (x3 + 1) < (eS E : Int)) ∧ Cl E 1 M_X7_feed [.inr 0, .inl (eR E 4 ((x3 + 1)).toNat)] μ (fun vv μ1 => ∃ v2, vv = some (.inl v2) ∧ (0 ≤ (x3 + 1) ∧ (x3 + 1) < (eS E : Int)) ∧ Cl E 1 M_X8_feed [.inr 83, .inl (eR E 4 ((x3 + 1)).toNat)] μ1 (fun vv μ3 => ∃ v4, vv = some (.inl v4) ∧ inR v2 ∧ inR v4 ∧ (v2 = v4 → Gg E 23 M_law 971 [some (.inr 104), some (.inr 0), some (.inr 83), some (.inl x3)] [] μ3 Q) ∧ (¬ v2 = v4 → Q (some (.inl (bi false))) μ3)))) : Gg E 23 M_law 336 [some (.inr 104), some (.inr 0), some (.inr 83), some (.inl x3)] [] μ Q := by
  refine r_aloadn (q := 337) DM_law_336 rfl rfl ?_
  refine r_aloadn (q := 338) DM_law_337 rfl rfl ?_
  refine r_iloadn (q := 339) DM_law_338 rfl rfl ?_
  refine r_iconst (q := 340) (n := 1) DM_law_339 rfl ?_
  refine r_iadd (q := 341) DM_law_340 rfl ?_
  refine v_tald (q := 342) (t := 4) (N := eS E) DM_law_341 rfl (by decide) rfl ⟨h.1, ?_⟩
  replace h := h.2
  refine r_callVi [.inl (eR E 4 ((x3 + 1)).toNat)] (q := 345) DM_law_342 rfl kM_X7_feed lRL_32 sh_0 rfl rfl (by decide) (Nat.le_of_ble_eq_true rfl) rfl (Cl.imp h (fun vv μ1 h => ?_))
  obtain ⟨v2, hv, h⟩ := h
  refine ⟨v2, hv, ?_⟩
  refine r_aloadn (q := 346) DM_law_345 rfl rfl ?_
  refine r_aloadn (q := 347) DM_law_346 rfl rfl ?_
  refine r_iloadn (q := 348) DM_law_347 rfl rfl ?_
  refine r_iconst (q := 349) (n := 1) DM_law_348 rfl ?_
  refine r_iadd (q := 350) DM_law_349 rfl ?_
  refine v_tald (q := 351) (t := 4) (N := eS E) DM_law_350 rfl (by decide) rfl ⟨h.1, ?_⟩
  replace h := h.2
  refine r_callVi [.inl (eR E 4 ((x3 + 1)).toNat)] (q := 354) DM_law_351 rfl kM_X8_feed lRL_35 sh_83 rfl rfl (by decide) (Nat.le_of_ble_eq_true rfl) rfl (Cl.imp h (fun vv μ3 h => ?_))
  obtain ⟨v4, hv, h⟩ := h
  refine ⟨v4, hv, ?_⟩
  have i5 := h.1
  replace h := h.2
  have i6 := h.1
  replace h := h.2
  refine r_iceq (q := 357) (t := 971) DM_law_354 rfl (by decide) ⟨⟨i5, i6⟩, fun cc => ?_, fun cc => ?_⟩
  · replace h := h.1 cc
    exact h
  · replace h := h.2 cc
    refine r_iconst (q := 358) (n := 0) DM_law_357 rfl ?_
    exact r_ret (v := some (.inl 0)) ⟨DM_law_358, Or.inr ⟨rfl, Or.inl rfl⟩⟩ h
set_option maxRecDepth 20000 in
theorem s_law_359 {E : Ex} {μ : Mem} {Q : Option Vl → Mem → Prop} {x3 : Int} (h : Cl E 6 M_X7_court [.inr 0] μ (fun vv μ1 => ∃ v2, vv = some (.inl v2) ∧ Cl E 5 M_X8_court [.inr 83] μ1 (fun vv μ3 => ∃ v4, vv = some (.inl v4) ∧ inR v2 ∧ inR v4 ∧ (v2 = v4 → Gg E 23 M_law 971 [some (.inr 104), some (.inr 0), some (.inr 83), some (.inl x3)] [] μ3 Q) ∧ (¬ v2 = v4 → Q (some (.inl (bi false))) μ3)))) : Gg E 23 M_law 359 [some (.inr 104), some (.inr 0), some (.inr 83), some (.inl x3)] [] μ Q := by
  refine r_aloadn (q := 360) DM_law_359 rfl rfl ?_
  refine r_callVi [] (q := 363) DM_law_360 rfl kM_X7_court lRL_36 sh_0 rfl rfl (by decide) (Nat.le_of_ble_eq_true rfl) rfl (Cl.imp h (fun vv μ1 h => ?_))
  obtain ⟨v2, hv, h⟩ := h
  refine ⟨v2, hv, ?_⟩
  refine r_aloadn (q := 364) DM_law_363 rfl rfl ?_
  refine r_callVi [] (q := 367) DM_law_364 rfl kM_X8_court lRL_40 sh_83 rfl rfl (by decide) (Nat.le_of_ble_eq_true rfl) rfl (Cl.imp h (fun vv μ3 h => ?_))
  obtain ⟨v4, hv, h⟩ := h
  refine ⟨v4, hv, ?_⟩
  have i5 := h.1
  replace h := h.2
  have i6 := h.1
  replace h := h.2
  refine r_iceq (q := 370) (t := 971) DM_law_367 rfl (by decide) ⟨⟨i5, i6⟩, fun cc => ?_, fun cc => ?_⟩
  · replace h := h.1 cc
    exact h
  · replace h := h.2 cc
    refine r_iconst (q := 371) (n := 0) DM_law_370 rfl ?_
    exact r_ret (v := some (.inl 0)) ⟨DM_law_371, Or.inr ⟨rfl, Or.inl rfl⟩⟩ h
set_option maxRecDepth 20000 in
theorem s_law_372 {E : Ex} {μ : Mem} {Q : Option Vl → Mem → Prop} {x3 : Int} (h : Cl E 0 M_X7_fault [.inr 0] μ (fun vv μ1 => ∃ v2, vv = some (.inl v2) ∧ Cl E 0 M_X8_fault [.inr 83] μ1 (fun vv μ3 => ∃ v4, vv = some (.inl v4) ∧ inR v2 ∧ inR v4 ∧ (v2 = v4 → Gg E 23 M_law 971 [some (.inr 104), some (.inr 0), some (.inr 83), some (.inl x3)] [] μ3 Q) ∧ (¬ v2 = v4 → Q (some (.inl (bi false))) μ3)))) : Gg E 23 M_law 372 [some (.inr 104), some (.inr 0), some (.inr 83), some (.inl x3)] [] μ Q := by
  refine r_aloadn (q := 373) DM_law_372 rfl rfl ?_
  refine r_callVi [] (q := 376) DM_law_373 rfl kM_X7_fault lRL_41 sh_0 rfl rfl (by decide) (Nat.le_of_ble_eq_true rfl) rfl (Cl.imp h (fun vv μ1 h => ?_))
  obtain ⟨v2, hv, h⟩ := h
  refine ⟨v2, hv, ?_⟩
  refine r_aloadn (q := 377) DM_law_376 rfl rfl ?_
  refine r_callVi [] (q := 380) DM_law_377 rfl kM_X8_fault lRL_44 sh_83 rfl rfl (by decide) (Nat.le_of_ble_eq_true rfl) rfl (Cl.imp h (fun vv μ3 h => ?_))
  obtain ⟨v4, hv, h⟩ := h
  refine ⟨v4, hv, ?_⟩
  have i5 := h.1
  replace h := h.2
  have i6 := h.1
  replace h := h.2
  refine r_iceq (q := 383) (t := 971) DM_law_380 rfl (by decide) ⟨⟨i5, i6⟩, fun cc => ?_, fun cc => ?_⟩
  · replace h := h.1 cc
    exact h
  · replace h := h.2 cc
    refine r_iconst (q := 384) (n := 0) DM_law_383 rfl ?_
    exact r_ret (v := some (.inl 0)) ⟨DM_law_384, Or.inr ⟨rfl, Or.inl rfl⟩⟩ h
set_option maxRecDepth 20000 in
theorem s_law_385 {E : Ex} {μ : Mem} {Q : Option Vl → Mem → Prop} {x3 : Int} (h : (0 ≤ (x3 + 1) ∧ (x3 + 1) < (eS E : Int)) ∧ Cl E 5 M_X7_days [.inr 0, .inl (eR E 4 ((x3 + 1)).toNat)] μ (fun vv μ1 => ∃ v2, vv = some (.inl v2) ∧ (0 ≤ (x3 + 1) ∧ (x3 + 1) < (eS E : Int)) ∧ Cl E 5 M_X8_days [.inr 83, .inl (eR E 4 ((x3 + 1)).toNat)] μ1 (fun vv μ3 => ∃ v4, vv = some (.inl v4) ∧ inR v2 ∧ inR v4 ∧ (v2 = v4 → Gg E 23 M_law 971 [some (.inr 104), some (.inr 0), some (.inr 83), some (.inl x3)] [] μ3 Q) ∧ (¬ v2 = v4 → Q (some (.inl (bi false))) μ3)))) : Gg E 23 M_law 385 [some (.inr 104), some (.inr 0), some (.inr 83), some (.inl x3)] [] μ Q := by
  refine r_aloadn (q := 386) DM_law_385 rfl rfl ?_
  refine r_aloadn (q := 387) DM_law_386 rfl rfl ?_
  refine r_iloadn (q := 388) DM_law_387 rfl rfl ?_
  refine r_iconst (q := 389) (n := 1) DM_law_388 rfl ?_
  refine r_iadd (q := 390) DM_law_389 rfl ?_
  refine v_tald (q := 391) (t := 4) (N := eS E) DM_law_390 rfl (by decide) rfl ⟨h.1, ?_⟩
  replace h := h.2
  refine r_callVi [.inl (eR E 4 ((x3 + 1)).toNat)] (q := 394) DM_law_391 rfl kM_X7_days lRL_45 sh_0 rfl rfl (by decide) (Nat.le_of_ble_eq_true rfl) rfl (Cl.imp h (fun vv μ1 h => ?_))
  obtain ⟨v2, hv, h⟩ := h
  refine ⟨v2, hv, ?_⟩
  refine r_aloadn (q := 395) DM_law_394 rfl rfl ?_
  refine r_aloadn (q := 396) DM_law_395 rfl rfl ?_
  refine r_iloadn (q := 397) DM_law_396 rfl rfl ?_
  refine r_iconst (q := 398) (n := 1) DM_law_397 rfl ?_
  refine r_iadd (q := 399) DM_law_398 rfl ?_
  refine v_tald (q := 400) (t := 4) (N := eS E) DM_law_399 rfl (by decide) rfl ⟨h.1, ?_⟩
  replace h := h.2
  refine r_callVi [.inl (eR E 4 ((x3 + 1)).toNat)] (q := 403) DM_law_400 rfl kM_X8_days lRL_48 sh_83 rfl rfl (by decide) (Nat.le_of_ble_eq_true rfl) rfl (Cl.imp h (fun vv μ3 h => ?_))
  obtain ⟨v4, hv, h⟩ := h
  refine ⟨v4, hv, ?_⟩
  have i5 := h.1
  replace h := h.2
  have i6 := h.1
  replace h := h.2
  refine r_iceq (q := 406) (t := 971) DM_law_403 rfl (by decide) ⟨⟨i5, i6⟩, fun cc => ?_, fun cc => ?_⟩
  · replace h := h.1 cc
    exact h
  · replace h := h.2 cc
    refine r_iconst (q := 407) (n := 0) DM_law_406 rfl ?_
    exact r_ret (v := some (.inl 0)) ⟨DM_law_407, Or.inr ⟨rfl, Or.inl rfl⟩⟩ h
set_option maxRecDepth 20000 in
theorem s_law_408 {E : Ex} {μ : Mem} {Q : Option Vl → Mem → Prop} {x3 : Int} (h : (0 ≤ (x3 + 1) ∧ (x3 + 1) < (eS E : Int)) ∧ (0 ≤ (x3 + 2) ∧ (x3 + 2) < (eS E : Int)) ∧ (0 ≤ (x3 + 3) ∧ (x3 + 3) < (eS E : Int)) ∧ Cl E 3 M_X7_forge [.inr 0, .inl (eR E 4 ((x3 + 1)).toNat), .inl (eR E 4 ((x3 + 2)).toNat), .inl (eR E 4 ((x3 + 3)).toNat)] μ (fun vv μ1 => ∃ v2, vv = some (.inl v2) ∧ (0 ≤ (x3 + 1) ∧ (x3 + 1) < (eS E : Int)) ∧ (0 ≤ (x3 + 2) ∧ (x3 + 2) < (eS E : Int)) ∧ (0 ≤ (x3 + 3) ∧ (x3 + 3) < (eS E : Int)) ∧ Cl E 3 M_X8_forge [.inr 83, .inl (eR E 4 ((x3 + 1)).toNat), .inl (eR E 4 ((x3 + 2)).toNat), .inl (eR E 4 ((x3 + 3)).toNat)] μ1 (fun vv μ3 => ∃ v4, vv = some (.inl v4) ∧ inR v2 ∧ inR v4 ∧ (v2 = v4 → Gg E 23 M_law 971 [some (.inr 104), some (.inr 0), some (.inr 83), some (.inl x3)] [] μ3 Q) ∧ (¬ v2 = v4 → Q (some (.inl (bi false))) μ3)))) : Gg E 23 M_law 408 [some (.inr 104), some (.inr 0), some (.inr 83), some (.inl x3)] [] μ Q := by
  refine r_aloadn (q := 409) DM_law_408 rfl rfl ?_
  refine r_aloadn (q := 410) DM_law_409 rfl rfl ?_
  refine r_iloadn (q := 411) DM_law_410 rfl rfl ?_
  refine r_iconst (q := 412) (n := 1) DM_law_411 rfl ?_
  refine r_iadd (q := 413) DM_law_412 rfl ?_
  refine v_tald (q := 414) (t := 4) (N := eS E) DM_law_413 rfl (by decide) rfl ⟨h.1, ?_⟩
  replace h := h.2
  refine r_aloadn (q := 415) DM_law_414 rfl rfl ?_
  refine r_iloadn (q := 416) DM_law_415 rfl rfl ?_
  refine r_iconst (q := 417) (n := 2) DM_law_416 rfl ?_
  refine r_iadd (q := 418) DM_law_417 rfl ?_
  refine v_tald (q := 419) (t := 4) (N := eS E) DM_law_418 rfl (by decide) rfl ⟨h.1, ?_⟩
  replace h := h.2
  refine r_aloadn (q := 420) DM_law_419 rfl rfl ?_
  refine r_iloadn (q := 421) DM_law_420 rfl rfl ?_
  refine r_iconst (q := 422) (n := 3) DM_law_421 rfl ?_
  refine r_iadd (q := 423) DM_law_422 rfl ?_
  refine v_tald (q := 424) (t := 4) (N := eS E) DM_law_423 rfl (by decide) rfl ⟨h.1, ?_⟩
  replace h := h.2
  refine r_callVi [.inl (eR E 4 ((x3 + 1)).toNat), .inl (eR E 4 ((x3 + 2)).toNat), .inl (eR E 4 ((x3 + 3)).toNat)] (q := 427) DM_law_424 rfl kM_X7_forge lRL_49 sh_0 rfl rfl (by decide) (Nat.le_of_ble_eq_true rfl) rfl (Cl.imp h (fun vv μ1 h => ?_))
  obtain ⟨v2, hv, h⟩ := h
  refine ⟨v2, hv, ?_⟩
  refine r_aloadn (q := 428) DM_law_427 rfl rfl ?_
  refine r_aloadn (q := 429) DM_law_428 rfl rfl ?_
  refine r_iloadn (q := 430) DM_law_429 rfl rfl ?_
  refine r_iconst (q := 431) (n := 1) DM_law_430 rfl ?_
  refine r_iadd (q := 432) DM_law_431 rfl ?_
  refine v_tald (q := 433) (t := 4) (N := eS E) DM_law_432 rfl (by decide) rfl ⟨h.1, ?_⟩
  replace h := h.2
  refine r_aloadn (q := 434) DM_law_433 rfl rfl ?_
  refine r_iloadn (q := 435) DM_law_434 rfl rfl ?_
  refine r_iconst (q := 436) (n := 2) DM_law_435 rfl ?_
  refine r_iadd (q := 437) DM_law_436 rfl ?_
  refine v_tald (q := 438) (t := 4) (N := eS E) DM_law_437 rfl (by decide) rfl ⟨h.1, ?_⟩
  replace h := h.2
  refine r_aloadn (q := 439) DM_law_438 rfl rfl ?_
  refine r_iloadn (q := 440) DM_law_439 rfl rfl ?_
  refine r_iconst (q := 441) (n := 3) DM_law_440 rfl ?_
  refine r_iadd (q := 442) DM_law_441 rfl ?_
  refine v_tald (q := 443) (t := 4) (N := eS E) DM_law_442 rfl (by decide) rfl ⟨h.1, ?_⟩
  replace h := h.2
  refine r_callVi [.inl (eR E 4 ((x3 + 1)).toNat), .inl (eR E 4 ((x3 + 2)).toNat), .inl (eR E 4 ((x3 + 3)).toNat)] (q := 446) DM_law_443 rfl kM_X8_forge lRL_52 sh_83 rfl rfl (by decide) (Nat.le_of_ble_eq_true rfl) rfl (Cl.imp h (fun vv μ3 h => ?_))
  obtain ⟨v4, hv, h⟩ := h
  refine ⟨v4, hv, ?_⟩
  have i5 := h.1
  replace h := h.2
  have i6 := h.1
  replace h := h.2
  refine r_iceq (q := 449) (t := 971) DM_law_446 rfl (by decide) ⟨⟨i5, i6⟩, fun cc => ?_, fun cc => ?_⟩
  · replace h := h.1 cc
    exact h
  · replace h := h.2 cc
    refine r_iconst (q := 450) (n := 0) DM_law_449 rfl ?_
    exact r_ret (v := some (.inl 0)) ⟨DM_law_450, Or.inr ⟨rfl, Or.inl rfl⟩⟩ h
set_option maxRecDepth 20000 in
theorem s_law_451 {E : Ex} {μ : Mem} {Q : Option Vl → Mem → Prop} {x3 : Int} (h : (0 ≤ (x3 + 1) ∧ (x3 + 1) < (eS E : Int)) ∧ (0 ≤ (x3 + 2) ∧ (x3 + 2) < (eS E : Int)) ∧ Cl E 3 M_X7_lose [.inr 0, .inl (eR E 4 ((x3 + 1)).toNat), .inl (eR E 4 ((x3 + 2)).toNat)] μ (fun vv μ1 => ∃ v2, vv = some (.inl v2) ∧ (0 ≤ (x3 + 1) ∧ (x3 + 1) < (eS E : Int)) ∧ (0 ≤ (x3 + 2) ∧ (x3 + 2) < (eS E : Int)) ∧ Cl E 2 M_X8_lose [.inr 83, .inl (eR E 4 ((x3 + 1)).toNat), .inl (eR E 4 ((x3 + 2)).toNat)] μ1 (fun vv μ3 => ∃ v4, vv = some (.inl v4) ∧ inR v2 ∧ inR v4 ∧ (v2 = v4 → Gg E 23 M_law 971 [some (.inr 104), some (.inr 0), some (.inr 83), some (.inl x3)] [] μ3 Q) ∧ (¬ v2 = v4 → Q (some (.inl (bi false))) μ3)))) : Gg E 23 M_law 451 [some (.inr 104), some (.inr 0), some (.inr 83), some (.inl x3)] [] μ Q := by
  refine r_aloadn (q := 452) DM_law_451 rfl rfl ?_
  refine r_aloadn (q := 453) DM_law_452 rfl rfl ?_
  refine r_iloadn (q := 454) DM_law_453 rfl rfl ?_
  refine r_iconst (q := 455) (n := 1) DM_law_454 rfl ?_
  refine r_iadd (q := 456) DM_law_455 rfl ?_
  refine v_tald (q := 457) (t := 4) (N := eS E) DM_law_456 rfl (by decide) rfl ⟨h.1, ?_⟩
  replace h := h.2
  refine r_aloadn (q := 458) DM_law_457 rfl rfl ?_
  refine r_iloadn (q := 459) DM_law_458 rfl rfl ?_
  refine r_iconst (q := 460) (n := 2) DM_law_459 rfl ?_
  refine r_iadd (q := 461) DM_law_460 rfl ?_
  refine v_tald (q := 462) (t := 4) (N := eS E) DM_law_461 rfl (by decide) rfl ⟨h.1, ?_⟩
  replace h := h.2
  refine r_callVi [.inl (eR E 4 ((x3 + 1)).toNat), .inl (eR E 4 ((x3 + 2)).toNat)] (q := 465) DM_law_462 rfl kM_X7_lose lRL_53 sh_0 rfl rfl (by decide) (Nat.le_of_ble_eq_true rfl) rfl (Cl.imp h (fun vv μ1 h => ?_))
  obtain ⟨v2, hv, h⟩ := h
  refine ⟨v2, hv, ?_⟩
  refine r_aloadn (q := 466) DM_law_465 rfl rfl ?_
  refine r_aloadn (q := 467) DM_law_466 rfl rfl ?_
  refine r_iloadn (q := 468) DM_law_467 rfl rfl ?_
  refine r_iconst (q := 469) (n := 1) DM_law_468 rfl ?_
  refine r_iadd (q := 470) DM_law_469 rfl ?_
  refine v_tald (q := 471) (t := 4) (N := eS E) DM_law_470 rfl (by decide) rfl ⟨h.1, ?_⟩
  replace h := h.2
  refine r_aloadn (q := 472) DM_law_471 rfl rfl ?_
  refine r_iloadn (q := 473) DM_law_472 rfl rfl ?_
  refine r_iconst (q := 474) (n := 2) DM_law_473 rfl ?_
  refine r_iadd (q := 475) DM_law_474 rfl ?_
  refine v_tald (q := 476) (t := 4) (N := eS E) DM_law_475 rfl (by decide) rfl ⟨h.1, ?_⟩
  replace h := h.2
  refine r_callVi [.inl (eR E 4 ((x3 + 1)).toNat), .inl (eR E 4 ((x3 + 2)).toNat)] (q := 479) DM_law_476 rfl kM_X8_lose lRL_57 sh_83 rfl rfl (by decide) (Nat.le_of_ble_eq_true rfl) rfl (Cl.imp h (fun vv μ3 h => ?_))
  obtain ⟨v4, hv, h⟩ := h
  refine ⟨v4, hv, ?_⟩
  have i5 := h.1
  replace h := h.2
  have i6 := h.1
  replace h := h.2
  refine r_iceq (q := 482) (t := 971) DM_law_479 rfl (by decide) ⟨⟨i5, i6⟩, fun cc => ?_, fun cc => ?_⟩
  · replace h := h.1 cc
    exact h
  · replace h := h.2 cc
    refine r_iconst (q := 483) (n := 0) DM_law_482 rfl ?_
    exact r_ret (v := some (.inl 0)) ⟨DM_law_483, Or.inr ⟨rfl, Or.inl rfl⟩⟩ h
set_option maxRecDepth 20000 in
theorem s_law_484 {E : Ex} {μ : Mem} {Q : Option Vl → Mem → Prop} {x3 : Int} (h : Cl E 2 M_X7_undo [.inr 0] μ (fun vv μ1 => ∃ v2, vv = some (.inl v2) ∧ Cl E 1 M_X8_undo [.inr 83] μ1 (fun vv μ3 => ∃ v4, vv = some (.inl v4) ∧ inR v2 ∧ inR v4 ∧ (v2 = v4 → Gg E 23 M_law 971 [some (.inr 104), some (.inr 0), some (.inr 83), some (.inl x3)] [] μ3 Q) ∧ (¬ v2 = v4 → Q (some (.inl (bi false))) μ3)))) : Gg E 23 M_law 484 [some (.inr 104), some (.inr 0), some (.inr 83), some (.inl x3)] [] μ Q := by
  refine r_aloadn (q := 485) DM_law_484 rfl rfl ?_
  refine r_callVi [] (q := 488) DM_law_485 rfl kM_X7_undo lRL_58 sh_0 rfl rfl (by decide) (Nat.le_of_ble_eq_true rfl) rfl (Cl.imp h (fun vv μ1 h => ?_))
  obtain ⟨v2, hv, h⟩ := h
  refine ⟨v2, hv, ?_⟩
  refine r_aloadn (q := 489) DM_law_488 rfl rfl ?_
  refine r_callVi [] (q := 492) DM_law_489 rfl kM_X8_undo lRL_61 sh_83 rfl rfl (by decide) (Nat.le_of_ble_eq_true rfl) rfl (Cl.imp h (fun vv μ3 h => ?_))
  obtain ⟨v4, hv, h⟩ := h
  refine ⟨v4, hv, ?_⟩
  have i5 := h.1
  replace h := h.2
  have i6 := h.1
  replace h := h.2
  refine r_iceq (q := 495) (t := 971) DM_law_492 rfl (by decide) ⟨⟨i5, i6⟩, fun cc => ?_, fun cc => ?_⟩
  · replace h := h.1 cc
    exact h
  · replace h := h.2 cc
    refine r_iconst (q := 496) (n := 0) DM_law_495 rfl ?_
    exact r_ret (v := some (.inl 0)) ⟨DM_law_496, Or.inr ⟨rfl, Or.inl rfl⟩⟩ h
set_option maxRecDepth 20000 in
theorem s_law_497 {E : Ex} {μ : Mem} {Q : Option Vl → Mem → Prop} {x3 : Int} (h : (0 ≤ (x3 + 1) ∧ (x3 + 1) < (eS E : Int)) ∧ (0 ≤ (x3 + 2) ∧ (x3 + 2) < (eS E : Int)) ∧ Cl E 4 M_X7_person [.inr 0, .inl (eR E 4 ((x3 + 1)).toNat), .inl (eR E 4 ((x3 + 2)).toNat)] μ (fun vv μ1 => ∃ v2, vv = some (.inl v2) ∧ (0 ≤ (x3 + 1) ∧ (x3 + 1) < (eS E : Int)) ∧ (0 ≤ (x3 + 2) ∧ (x3 + 2) < (eS E : Int)) ∧ Cl E 4 M_X8_person [.inr 83, .inl (eR E 4 ((x3 + 1)).toNat), .inl (eR E 4 ((x3 + 2)).toNat)] μ1 (fun vv μ3 => ∃ v4, vv = some (.inl v4) ∧ inR v2 ∧ inR v4 ∧ (v2 = v4 → Gg E 23 M_law 971 [some (.inr 104), some (.inr 0), some (.inr 83), some (.inl x3)] [] μ3 Q) ∧ (¬ v2 = v4 → Q (some (.inl (bi false))) μ3)))) : Gg E 23 M_law 497 [some (.inr 104), some (.inr 0), some (.inr 83), some (.inl x3)] [] μ Q := by
  refine r_aloadn (q := 498) DM_law_497 rfl rfl ?_
  refine r_aloadn (q := 499) DM_law_498 rfl rfl ?_
  refine r_iloadn (q := 500) DM_law_499 rfl rfl ?_
  refine r_iconst (q := 501) (n := 1) DM_law_500 rfl ?_
  refine r_iadd (q := 502) DM_law_501 rfl ?_
  refine v_tald (q := 503) (t := 4) (N := eS E) DM_law_502 rfl (by decide) rfl ⟨h.1, ?_⟩
  replace h := h.2
  refine r_aloadn (q := 504) DM_law_503 rfl rfl ?_
  refine r_iloadn (q := 505) DM_law_504 rfl rfl ?_
  refine r_iconst (q := 506) (n := 2) DM_law_505 rfl ?_
  refine r_iadd (q := 507) DM_law_506 rfl ?_
  refine v_tald (q := 508) (t := 4) (N := eS E) DM_law_507 rfl (by decide) rfl ⟨h.1, ?_⟩
  replace h := h.2
  refine r_callVi [.inl (eR E 4 ((x3 + 1)).toNat), .inl (eR E 4 ((x3 + 2)).toNat)] (q := 511) DM_law_508 rfl kM_X7_person lRL_62 sh_0 rfl rfl (by decide) (Nat.le_of_ble_eq_true rfl) rfl (Cl.imp h (fun vv μ1 h => ?_))
  obtain ⟨v2, hv, h⟩ := h
  refine ⟨v2, hv, ?_⟩
  refine r_aloadn (q := 512) DM_law_511 rfl rfl ?_
  refine r_aloadn (q := 513) DM_law_512 rfl rfl ?_
  refine r_iloadn (q := 514) DM_law_513 rfl rfl ?_
  refine r_iconst (q := 515) (n := 1) DM_law_514 rfl ?_
  refine r_iadd (q := 516) DM_law_515 rfl ?_
  refine v_tald (q := 517) (t := 4) (N := eS E) DM_law_516 rfl (by decide) rfl ⟨h.1, ?_⟩
  replace h := h.2
  refine r_aloadn (q := 518) DM_law_517 rfl rfl ?_
  refine r_iloadn (q := 519) DM_law_518 rfl rfl ?_
  refine r_iconst (q := 520) (n := 2) DM_law_519 rfl ?_
  refine r_iadd (q := 521) DM_law_520 rfl ?_
  refine v_tald (q := 522) (t := 4) (N := eS E) DM_law_521 rfl (by decide) rfl ⟨h.1, ?_⟩
  replace h := h.2
  refine r_callVi [.inl (eR E 4 ((x3 + 1)).toNat), .inl (eR E 4 ((x3 + 2)).toNat)] (q := 525) DM_law_522 rfl kM_X8_person lRL_65 sh_83 rfl rfl (by decide) (Nat.le_of_ble_eq_true rfl) rfl (Cl.imp h (fun vv μ3 h => ?_))
  obtain ⟨v4, hv, h⟩ := h
  refine ⟨v4, hv, ?_⟩
  have i5 := h.1
  replace h := h.2
  have i6 := h.1
  replace h := h.2
  refine r_iceq (q := 528) (t := 971) DM_law_525 rfl (by decide) ⟨⟨i5, i6⟩, fun cc => ?_, fun cc => ?_⟩
  · replace h := h.1 cc
    exact h
  · replace h := h.2 cc
    refine r_iconst (q := 529) (n := 0) DM_law_528 rfl ?_
    exact r_ret (v := some (.inl 0)) ⟨DM_law_529, Or.inr ⟨rfl, Or.inl rfl⟩⟩ h
set_option maxRecDepth 20000 in
theorem s_law_530 {E : Ex} {μ : Mem} {Q : Option Vl → Mem → Prop} {x3 : Int} (h : (0 ≤ (x3 + 1) ∧ (x3 + 1) < (eS E : Int)) ∧ (0 ≤ (x3 + 2) ∧ (x3 + 2) < (eS E : Int)) ∧ Cl E 3 M_X7_name [.inr 0, .inl (eR E 4 ((x3 + 1)).toNat), .inl (eR E 4 ((x3 + 2)).toNat)] μ (fun vv μ1 => ∃ v2, vv = some (.inl v2) ∧ (0 ≤ (x3 + 1) ∧ (x3 + 1) < (eS E : Int)) ∧ (0 ≤ (x3 + 2) ∧ (x3 + 2) < (eS E : Int)) ∧ Cl E 3 M_X8_name [.inr 83, .inl (eR E 4 ((x3 + 1)).toNat), .inl (eR E 4 ((x3 + 2)).toNat)] μ1 (fun vv μ3 => ∃ v4, vv = some (.inl v4) ∧ inR v2 ∧ inR v4 ∧ (v2 = v4 → Gg E 23 M_law 971 [some (.inr 104), some (.inr 0), some (.inr 83), some (.inl x3)] [] μ3 Q) ∧ (¬ v2 = v4 → Q (some (.inl (bi false))) μ3)))) : Gg E 23 M_law 530 [some (.inr 104), some (.inr 0), some (.inr 83), some (.inl x3)] [] μ Q := by
  refine r_aloadn (q := 531) DM_law_530 rfl rfl ?_
  refine r_aloadn (q := 532) DM_law_531 rfl rfl ?_
  refine r_iloadn (q := 533) DM_law_532 rfl rfl ?_
  refine r_iconst (q := 534) (n := 1) DM_law_533 rfl ?_
  refine r_iadd (q := 535) DM_law_534 rfl ?_
  refine v_tald (q := 536) (t := 4) (N := eS E) DM_law_535 rfl (by decide) rfl ⟨h.1, ?_⟩
  replace h := h.2
  refine r_aloadn (q := 537) DM_law_536 rfl rfl ?_
  refine r_iloadn (q := 538) DM_law_537 rfl rfl ?_
  refine r_iconst (q := 539) (n := 2) DM_law_538 rfl ?_
  refine r_iadd (q := 540) DM_law_539 rfl ?_
  refine v_tald (q := 541) (t := 4) (N := eS E) DM_law_540 rfl (by decide) rfl ⟨h.1, ?_⟩
  replace h := h.2
  refine r_callVi [.inl (eR E 4 ((x3 + 1)).toNat), .inl (eR E 4 ((x3 + 2)).toNat)] (q := 544) DM_law_541 rfl kM_X7_name lRL_66 sh_0 rfl rfl (by decide) (Nat.le_of_ble_eq_true rfl) rfl (Cl.imp h (fun vv μ1 h => ?_))
  obtain ⟨v2, hv, h⟩ := h
  refine ⟨v2, hv, ?_⟩
  refine r_aloadn (q := 545) DM_law_544 rfl rfl ?_
  refine r_aloadn (q := 546) DM_law_545 rfl rfl ?_
  refine r_iloadn (q := 547) DM_law_546 rfl rfl ?_
  refine r_iconst (q := 548) (n := 1) DM_law_547 rfl ?_
  refine r_iadd (q := 549) DM_law_548 rfl ?_
  refine v_tald (q := 550) (t := 4) (N := eS E) DM_law_549 rfl (by decide) rfl ⟨h.1, ?_⟩
  replace h := h.2
  refine r_aloadn (q := 551) DM_law_550 rfl rfl ?_
  refine r_iloadn (q := 552) DM_law_551 rfl rfl ?_
  refine r_iconst (q := 553) (n := 2) DM_law_552 rfl ?_
  refine r_iadd (q := 554) DM_law_553 rfl ?_
  refine v_tald (q := 555) (t := 4) (N := eS E) DM_law_554 rfl (by decide) rfl ⟨h.1, ?_⟩
  replace h := h.2
  refine r_callVi [.inl (eR E 4 ((x3 + 1)).toNat), .inl (eR E 4 ((x3 + 2)).toNat)] (q := 558) DM_law_555 rfl kM_X8_name lRL_69 sh_83 rfl rfl (by decide) (Nat.le_of_ble_eq_true rfl) rfl (Cl.imp h (fun vv μ3 h => ?_))
  obtain ⟨v4, hv, h⟩ := h
  refine ⟨v4, hv, ?_⟩
  have i5 := h.1
  replace h := h.2
  have i6 := h.1
  replace h := h.2
  refine r_iceq (q := 561) (t := 971) DM_law_558 rfl (by decide) ⟨⟨i5, i6⟩, fun cc => ?_, fun cc => ?_⟩
  · replace h := h.1 cc
    exact h
  · replace h := h.2 cc
    refine r_iconst (q := 562) (n := 0) DM_law_561 rfl ?_
    exact r_ret (v := some (.inl 0)) ⟨DM_law_562, Or.inr ⟨rfl, Or.inl rfl⟩⟩ h
set_option maxRecDepth 20000 in
theorem s_law_563 {E : Ex} {μ : Mem} {Q : Option Vl → Mem → Prop} {x3 : Int} (h : (0 ≤ (x3 + 1) ∧ (x3 + 1) < (eS E : Int)) ∧ Cl E 1 M_X7_order [.inr 0, .inl (eR E 4 ((x3 + 1)).toNat)] μ (fun vv μ1 => ∃ v2, vv = some (.inl v2) ∧ (0 ≤ (x3 + 1) ∧ (x3 + 1) < (eS E : Int)) ∧ Cl E 1 M_X8_order [.inr 83, .inl (eR E 4 ((x3 + 1)).toNat)] μ1 (fun vv μ3 => ∃ v4, vv = some (.inl v4) ∧ inR v2 ∧ inR v4 ∧ (v2 = v4 → Gg E 23 M_law 971 [some (.inr 104), some (.inr 0), some (.inr 83), some (.inl x3)] [] μ3 Q) ∧ (¬ v2 = v4 → Q (some (.inl (bi false))) μ3)))) : Gg E 23 M_law 563 [some (.inr 104), some (.inr 0), some (.inr 83), some (.inl x3)] [] μ Q := by
  refine r_aloadn (q := 564) DM_law_563 rfl rfl ?_
  refine r_aloadn (q := 565) DM_law_564 rfl rfl ?_
  refine r_iloadn (q := 566) DM_law_565 rfl rfl ?_
  refine r_iconst (q := 567) (n := 1) DM_law_566 rfl ?_
  refine r_iadd (q := 568) DM_law_567 rfl ?_
  refine v_tald (q := 569) (t := 4) (N := eS E) DM_law_568 rfl (by decide) rfl ⟨h.1, ?_⟩
  replace h := h.2
  refine r_callVi [.inl (eR E 4 ((x3 + 1)).toNat)] (q := 572) DM_law_569 rfl kM_X7_order lRL_70 sh_0 rfl rfl (by decide) (Nat.le_of_ble_eq_true rfl) rfl (Cl.imp h (fun vv μ1 h => ?_))
  obtain ⟨v2, hv, h⟩ := h
  refine ⟨v2, hv, ?_⟩
  refine r_aloadn (q := 573) DM_law_572 rfl rfl ?_
  refine r_aloadn (q := 574) DM_law_573 rfl rfl ?_
  refine r_iloadn (q := 575) DM_law_574 rfl rfl ?_
  refine r_iconst (q := 576) (n := 1) DM_law_575 rfl ?_
  refine r_iadd (q := 577) DM_law_576 rfl ?_
  refine v_tald (q := 578) (t := 4) (N := eS E) DM_law_577 rfl (by decide) rfl ⟨h.1, ?_⟩
  replace h := h.2
  refine r_callVi [.inl (eR E 4 ((x3 + 1)).toNat)] (q := 581) DM_law_578 rfl kM_X8_order lRL_73 sh_83 rfl rfl (by decide) (Nat.le_of_ble_eq_true rfl) rfl (Cl.imp h (fun vv μ3 h => ?_))
  obtain ⟨v4, hv, h⟩ := h
  refine ⟨v4, hv, ?_⟩
  have i5 := h.1
  replace h := h.2
  have i6 := h.1
  replace h := h.2
  refine r_iceq (q := 584) (t := 971) DM_law_581 rfl (by decide) ⟨⟨i5, i6⟩, fun cc => ?_, fun cc => ?_⟩
  · replace h := h.1 cc
    exact h
  · replace h := h.2 cc
    refine r_iconst (q := 585) (n := 0) DM_law_584 rfl ?_
    exact r_ret (v := some (.inl 0)) ⟨DM_law_585, Or.inr ⟨rfl, Or.inl rfl⟩⟩ h
set_option maxRecDepth 20000 in
theorem s_law_586 {E : Ex} {μ : Mem} {Q : Option Vl → Mem → Prop} {x3 : Int} (h : (0 ≤ (x3 + 1) ∧ (x3 + 1) < (eS E : Int)) ∧ (0 ≤ (x3 + 2) ∧ (x3 + 2) < (eS E : Int)) ∧ Cl E 6 M_X7_when [.inr 0, .inl (eR E 4 ((x3 + 1)).toNat), .inl (eR E 4 ((x3 + 2)).toNat)] μ (fun vv μ1 => ∃ v2, vv = some (.inl v2) ∧ (0 ≤ (x3 + 1) ∧ (x3 + 1) < (eS E : Int)) ∧ (0 ≤ (x3 + 2) ∧ (x3 + 2) < (eS E : Int)) ∧ Cl E 6 M_X8_when [.inr 83, .inl (eR E 4 ((x3 + 1)).toNat), .inl (eR E 4 ((x3 + 2)).toNat)] μ1 (fun vv μ3 => ∃ v4, vv = some (.inl v4) ∧ inR v2 ∧ inR v4 ∧ (v2 = v4 → Gg E 23 M_law 971 [some (.inr 104), some (.inr 0), some (.inr 83), some (.inl x3)] [] μ3 Q) ∧ (¬ v2 = v4 → Q (some (.inl (bi false))) μ3)))) : Gg E 23 M_law 586 [some (.inr 104), some (.inr 0), some (.inr 83), some (.inl x3)] [] μ Q := by
  refine r_aloadn (q := 587) DM_law_586 rfl rfl ?_
  refine r_aloadn (q := 588) DM_law_587 rfl rfl ?_
  refine r_iloadn (q := 589) DM_law_588 rfl rfl ?_
  refine r_iconst (q := 590) (n := 1) DM_law_589 rfl ?_
  refine r_iadd (q := 591) DM_law_590 rfl ?_
  refine v_tald (q := 592) (t := 4) (N := eS E) DM_law_591 rfl (by decide) rfl ⟨h.1, ?_⟩
  replace h := h.2
  refine r_aloadn (q := 593) DM_law_592 rfl rfl ?_
  refine r_iloadn (q := 594) DM_law_593 rfl rfl ?_
  refine r_iconst (q := 595) (n := 2) DM_law_594 rfl ?_
  refine r_iadd (q := 596) DM_law_595 rfl ?_
  refine v_tald (q := 597) (t := 4) (N := eS E) DM_law_596 rfl (by decide) rfl ⟨h.1, ?_⟩
  replace h := h.2
  refine r_callVi [.inl (eR E 4 ((x3 + 1)).toNat), .inl (eR E 4 ((x3 + 2)).toNat)] (q := 600) DM_law_597 rfl kM_X7_when lRL_74 sh_0 rfl rfl (by decide) (Nat.le_of_ble_eq_true rfl) rfl (Cl.imp h (fun vv μ1 h => ?_))
  obtain ⟨v2, hv, h⟩ := h
  refine ⟨v2, hv, ?_⟩
  refine r_aloadn (q := 601) DM_law_600 rfl rfl ?_
  refine r_aloadn (q := 602) DM_law_601 rfl rfl ?_
  refine r_iloadn (q := 603) DM_law_602 rfl rfl ?_
  refine r_iconst (q := 604) (n := 1) DM_law_603 rfl ?_
  refine r_iadd (q := 605) DM_law_604 rfl ?_
  refine v_tald (q := 606) (t := 4) (N := eS E) DM_law_605 rfl (by decide) rfl ⟨h.1, ?_⟩
  replace h := h.2
  refine r_aloadn (q := 607) DM_law_606 rfl rfl ?_
  refine r_iloadn (q := 608) DM_law_607 rfl rfl ?_
  refine r_iconst (q := 609) (n := 2) DM_law_608 rfl ?_
  refine r_iadd (q := 610) DM_law_609 rfl ?_
  refine v_tald (q := 611) (t := 4) (N := eS E) DM_law_610 rfl (by decide) rfl ⟨h.1, ?_⟩
  replace h := h.2
  refine r_callVi [.inl (eR E 4 ((x3 + 1)).toNat), .inl (eR E 4 ((x3 + 2)).toNat)] (q := 614) DM_law_611 rfl kM_X8_when lRL_77 sh_83 rfl rfl (by decide) (Nat.le_of_ble_eq_true rfl) rfl (Cl.imp h (fun vv μ3 h => ?_))
  obtain ⟨v4, hv, h⟩ := h
  refine ⟨v4, hv, ?_⟩
  have i5 := h.1
  replace h := h.2
  have i6 := h.1
  replace h := h.2
  refine r_iceq (q := 617) (t := 971) DM_law_614 rfl (by decide) ⟨⟨i5, i6⟩, fun cc => ?_, fun cc => ?_⟩
  · replace h := h.1 cc
    exact h
  · replace h := h.2 cc
    refine r_iconst (q := 618) (n := 0) DM_law_617 rfl ?_
    exact r_ret (v := some (.inl 0)) ⟨DM_law_618, Or.inr ⟨rfl, Or.inl rfl⟩⟩ h
set_option maxRecDepth 20000 in
theorem s_law_619 {E : Ex} {μ : Mem} {Q : Option Vl → Mem → Prop} {x3 : Int} (h : Cl E 6 M_X7_waited [.inr 0] μ (fun vv μ1 => ∃ v2, vv = some (.inl v2) ∧ Cl E 6 M_X8_waited [.inr 83] μ1 (fun vv μ3 => ∃ v4, vv = some (.inl v4) ∧ inR v2 ∧ inR v4 ∧ (v2 = v4 → Gg E 23 M_law 971 [some (.inr 104), some (.inr 0), some (.inr 83), some (.inl x3)] [] μ3 Q) ∧ (¬ v2 = v4 → Q (some (.inl (bi false))) μ3)))) : Gg E 23 M_law 619 [some (.inr 104), some (.inr 0), some (.inr 83), some (.inl x3)] [] μ Q := by
  refine r_aloadn (q := 620) DM_law_619 rfl rfl ?_
  refine r_callVi [] (q := 623) DM_law_620 rfl kM_X7_waited lRL_78 sh_0 rfl rfl (by decide) (Nat.le_of_ble_eq_true rfl) rfl (Cl.imp h (fun vv μ1 h => ?_))
  obtain ⟨v2, hv, h⟩ := h
  refine ⟨v2, hv, ?_⟩
  refine r_aloadn (q := 624) DM_law_623 rfl rfl ?_
  refine r_callVi [] (q := 627) DM_law_624 rfl kM_X8_waited lRL_81 sh_83 rfl rfl (by decide) (Nat.le_of_ble_eq_true rfl) rfl (Cl.imp h (fun vv μ3 h => ?_))
  obtain ⟨v4, hv, h⟩ := h
  refine ⟨v4, hv, ?_⟩
  have i5 := h.1
  replace h := h.2
  have i6 := h.1
  replace h := h.2
  refine r_iceq (q := 630) (t := 971) DM_law_627 rfl (by decide) ⟨⟨i5, i6⟩, fun cc => ?_, fun cc => ?_⟩
  · replace h := h.1 cc
    exact h
  · replace h := h.2 cc
    refine r_iconst (q := 631) (n := 0) DM_law_630 rfl ?_
    exact r_ret (v := some (.inl 0)) ⟨DM_law_631, Or.inr ⟨rfl, Or.inl rfl⟩⟩ h
set_option maxRecDepth 20000 in
theorem s_law_632 {E : Ex} {μ : Mem} {Q : Option Vl → Mem → Prop} {x3 : Int} (h : (0 ≤ (x3 + 1) ∧ (x3 + 1) < (eS E : Int)) ∧ (0 ≤ (x3 + 2) ∧ (x3 + 2) < (eS E : Int)) ∧ Cl E 22 M_X7_last [.inr 0, .inl (eR E 4 ((x3 + 1)).toNat), .inl (eR E 4 ((x3 + 2)).toNat)] μ (fun vv μ1 => ∃ v2, vv = some (.inl v2) ∧ (0 ≤ (x3 + 1) ∧ (x3 + 1) < (eS E : Int)) ∧ (0 ≤ (x3 + 2) ∧ (x3 + 2) < (eS E : Int)) ∧ Cl E 4 M_X8_last [.inr 83, .inl (eR E 4 ((x3 + 1)).toNat), .inl (eR E 4 ((x3 + 2)).toNat)] μ1 (fun vv μ3 => ∃ v4, vv = some (.inl v4) ∧ inR v2 ∧ inR v4 ∧ (v2 = v4 → Gg E 23 M_law 971 [some (.inr 104), some (.inr 0), some (.inr 83), some (.inl x3)] [] μ3 Q) ∧ (¬ v2 = v4 → Q (some (.inl (bi false))) μ3)))) : Gg E 23 M_law 632 [some (.inr 104), some (.inr 0), some (.inr 83), some (.inl x3)] [] μ Q := by
  refine r_aloadn (q := 633) DM_law_632 rfl rfl ?_
  refine r_aloadn (q := 634) DM_law_633 rfl rfl ?_
  refine r_iloadn (q := 635) DM_law_634 rfl rfl ?_
  refine r_iconst (q := 636) (n := 1) DM_law_635 rfl ?_
  refine r_iadd (q := 637) DM_law_636 rfl ?_
  refine v_tald (q := 638) (t := 4) (N := eS E) DM_law_637 rfl (by decide) rfl ⟨h.1, ?_⟩
  replace h := h.2
  refine r_aloadn (q := 639) DM_law_638 rfl rfl ?_
  refine r_iloadn (q := 640) DM_law_639 rfl rfl ?_
  refine r_iconst (q := 641) (n := 2) DM_law_640 rfl ?_
  refine r_iadd (q := 642) DM_law_641 rfl ?_
  refine v_tald (q := 643) (t := 4) (N := eS E) DM_law_642 rfl (by decide) rfl ⟨h.1, ?_⟩
  replace h := h.2
  refine r_callVi [.inl (eR E 4 ((x3 + 1)).toNat), .inl (eR E 4 ((x3 + 2)).toNat)] (q := 646) DM_law_643 rfl kM_X7_last lRL_82 sh_0 rfl rfl (by decide) (Nat.le_of_ble_eq_true rfl) rfl (Cl.imp h (fun vv μ1 h => ?_))
  obtain ⟨v2, hv, h⟩ := h
  refine ⟨v2, hv, ?_⟩
  refine r_aloadn (q := 647) DM_law_646 rfl rfl ?_
  refine r_aloadn (q := 648) DM_law_647 rfl rfl ?_
  refine r_iloadn (q := 649) DM_law_648 rfl rfl ?_
  refine r_iconst (q := 650) (n := 1) DM_law_649 rfl ?_
  refine r_iadd (q := 651) DM_law_650 rfl ?_
  refine v_tald (q := 652) (t := 4) (N := eS E) DM_law_651 rfl (by decide) rfl ⟨h.1, ?_⟩
  replace h := h.2
  refine r_aloadn (q := 653) DM_law_652 rfl rfl ?_
  refine r_iloadn (q := 654) DM_law_653 rfl rfl ?_
  refine r_iconst (q := 655) (n := 2) DM_law_654 rfl ?_
  refine r_iadd (q := 656) DM_law_655 rfl ?_
  refine v_tald (q := 657) (t := 4) (N := eS E) DM_law_656 rfl (by decide) rfl ⟨h.1, ?_⟩
  replace h := h.2
  refine r_callVi [.inl (eR E 4 ((x3 + 1)).toNat), .inl (eR E 4 ((x3 + 2)).toNat)] (q := 660) DM_law_657 rfl kM_X8_last lRL_85 sh_83 rfl rfl (by decide) (Nat.le_of_ble_eq_true rfl) rfl (Cl.imp h (fun vv μ3 h => ?_))
  obtain ⟨v4, hv, h⟩ := h
  refine ⟨v4, hv, ?_⟩
  have i5 := h.1
  replace h := h.2
  have i6 := h.1
  replace h := h.2
  refine r_iceq (q := 663) (t := 971) DM_law_660 rfl (by decide) ⟨⟨i5, i6⟩, fun cc => ?_, fun cc => ?_⟩
  · replace h := h.1 cc
    exact h
  · replace h := h.2 cc
    refine r_iconst (q := 664) (n := 0) DM_law_663 rfl ?_
    exact r_ret (v := some (.inl 0)) ⟨DM_law_664, Or.inr ⟨rfl, Or.inl rfl⟩⟩ h
set_option maxRecDepth 20000 in
theorem s_law_665 {E : Ex} {μ : Mem} {Q : Option Vl → Mem → Prop} {x3 : Int} (h : (0 ≤ (x3 + 1) ∧ (x3 + 1) < (eS E : Int)) ∧ Cl E 6 M_X7_best [.inr 0, .inl (eR E 4 ((x3 + 1)).toNat)] μ (fun vv μ1 => ∃ v2, vv = some (.inl v2) ∧ (0 ≤ (x3 + 1) ∧ (x3 + 1) < (eS E : Int)) ∧ Cl E 6 M_X8_best [.inr 83, .inl (eR E 4 ((x3 + 1)).toNat)] μ1 (fun vv μ3 => ∃ v4, vv = some (.inl v4) ∧ inR v2 ∧ inR v4 ∧ (v2 = v4 → Gg E 23 M_law 971 [some (.inr 104), some (.inr 0), some (.inr 83), some (.inl x3)] [] μ3 Q) ∧ (¬ v2 = v4 → Q (some (.inl (bi false))) μ3)))) : Gg E 23 M_law 665 [some (.inr 104), some (.inr 0), some (.inr 83), some (.inl x3)] [] μ Q := by
  refine r_aloadn (q := 666) DM_law_665 rfl rfl ?_
  refine r_aloadn (q := 667) DM_law_666 rfl rfl ?_
  refine r_iloadn (q := 668) DM_law_667 rfl rfl ?_
  refine r_iconst (q := 669) (n := 1) DM_law_668 rfl ?_
  refine r_iadd (q := 670) DM_law_669 rfl ?_
  refine v_tald (q := 671) (t := 4) (N := eS E) DM_law_670 rfl (by decide) rfl ⟨h.1, ?_⟩
  replace h := h.2
  refine r_callVi [.inl (eR E 4 ((x3 + 1)).toNat)] (q := 674) DM_law_671 rfl kM_X7_best lRL_86 sh_0 rfl rfl (by decide) (Nat.le_of_ble_eq_true rfl) rfl (Cl.imp h (fun vv μ1 h => ?_))
  obtain ⟨v2, hv, h⟩ := h
  refine ⟨v2, hv, ?_⟩
  refine r_aloadn (q := 675) DM_law_674 rfl rfl ?_
  refine r_aloadn (q := 676) DM_law_675 rfl rfl ?_
  refine r_iloadn (q := 677) DM_law_676 rfl rfl ?_
  refine r_iconst (q := 678) (n := 1) DM_law_677 rfl ?_
  refine r_iadd (q := 679) DM_law_678 rfl ?_
  refine v_tald (q := 680) (t := 4) (N := eS E) DM_law_679 rfl (by decide) rfl ⟨h.1, ?_⟩
  replace h := h.2
  refine r_callVi [.inl (eR E 4 ((x3 + 1)).toNat)] (q := 683) DM_law_680 rfl kM_X8_best lRL_89 sh_83 rfl rfl (by decide) (Nat.le_of_ble_eq_true rfl) rfl (Cl.imp h (fun vv μ3 h => ?_))
  obtain ⟨v4, hv, h⟩ := h
  refine ⟨v4, hv, ?_⟩
  have i5 := h.1
  replace h := h.2
  have i6 := h.1
  replace h := h.2
  refine r_iceq (q := 686) (t := 971) DM_law_683 rfl (by decide) ⟨⟨i5, i6⟩, fun cc => ?_, fun cc => ?_⟩
  · replace h := h.1 cc
    exact h
  · replace h := h.2 cc
    refine r_iconst (q := 687) (n := 0) DM_law_686 rfl ?_
    exact r_ret (v := some (.inl 0)) ⟨DM_law_687, Or.inr ⟨rfl, Or.inl rfl⟩⟩ h
set_option maxRecDepth 20000 in
theorem s_law_688 {E : Ex} {μ : Mem} {Q : Option Vl → Mem → Prop} {x3 : Int} (h : (0 ≤ (x3 + 1) ∧ (x3 + 1) < (eS E : Int)) ∧ Cl E 22 M_X7_warden [.inr 0, .inl (eR E 4 ((x3 + 1)).toNat)] μ (fun vv μ1 => ∃ v2, vv = some (.inl v2) ∧ (0 ≤ (x3 + 1) ∧ (x3 + 1) < (eS E : Int)) ∧ Cl E 7 M_X8_warden [.inr 83, .inl (eR E 4 ((x3 + 1)).toNat)] μ1 (fun vv μ3 => ∃ v4, vv = some (.inl v4) ∧ inR v2 ∧ inR v4 ∧ (v2 = v4 → Gg E 23 M_law 971 [some (.inr 104), some (.inr 0), some (.inr 83), some (.inl x3)] [] μ3 Q) ∧ (¬ v2 = v4 → Q (some (.inl (bi false))) μ3)))) : Gg E 23 M_law 688 [some (.inr 104), some (.inr 0), some (.inr 83), some (.inl x3)] [] μ Q := by
  refine r_aloadn (q := 689) DM_law_688 rfl rfl ?_
  refine r_aloadn (q := 690) DM_law_689 rfl rfl ?_
  refine r_iloadn (q := 691) DM_law_690 rfl rfl ?_
  refine r_iconst (q := 692) (n := 1) DM_law_691 rfl ?_
  refine r_iadd (q := 693) DM_law_692 rfl ?_
  refine v_tald (q := 694) (t := 4) (N := eS E) DM_law_693 rfl (by decide) rfl ⟨h.1, ?_⟩
  replace h := h.2
  refine r_callVi [.inl (eR E 4 ((x3 + 1)).toNat)] (q := 697) DM_law_694 rfl kM_X7_warden lRL_90 sh_0 rfl rfl (by decide) (Nat.le_of_ble_eq_true rfl) rfl (Cl.imp h (fun vv μ1 h => ?_))
  obtain ⟨v2, hv, h⟩ := h
  refine ⟨v2, hv, ?_⟩
  refine r_aloadn (q := 698) DM_law_697 rfl rfl ?_
  refine r_aloadn (q := 699) DM_law_698 rfl rfl ?_
  refine r_iloadn (q := 700) DM_law_699 rfl rfl ?_
  refine r_iconst (q := 701) (n := 1) DM_law_700 rfl ?_
  refine r_iadd (q := 702) DM_law_701 rfl ?_
  refine v_tald (q := 703) (t := 4) (N := eS E) DM_law_702 rfl (by decide) rfl ⟨h.1, ?_⟩
  replace h := h.2
  refine r_callVi [.inl (eR E 4 ((x3 + 1)).toNat)] (q := 706) DM_law_703 rfl kM_X8_warden lRL_93 sh_83 rfl rfl (by decide) (Nat.le_of_ble_eq_true rfl) rfl (Cl.imp h (fun vv μ3 h => ?_))
  obtain ⟨v4, hv, h⟩ := h
  refine ⟨v4, hv, ?_⟩
  have i5 := h.1
  replace h := h.2
  have i6 := h.1
  replace h := h.2
  refine r_iceq (q := 709) (t := 971) DM_law_706 rfl (by decide) ⟨⟨i5, i6⟩, fun cc => ?_, fun cc => ?_⟩
  · replace h := h.1 cc
    exact h
  · replace h := h.2 cc
    refine r_iconst (q := 710) (n := 0) DM_law_709 rfl ?_
    exact r_ret (v := some (.inl 0)) ⟨DM_law_710, Or.inr ⟨rfl, Or.inl rfl⟩⟩ h
set_option maxRecDepth 20000 in
theorem s_law_711 {E : Ex} {μ : Mem} {Q : Option Vl → Mem → Prop} {x3 : Int} (h : (0 ≤ (x3 + 1) ∧ (x3 + 1) < (eS E : Int)) ∧ Cl E 3 M_X7_frees [.inr 0, .inl (eR E 4 ((x3 + 1)).toNat)] μ (fun vv μ1 => ∃ v2, vv = some (.inl v2) ∧ (0 ≤ (x3 + 1) ∧ (x3 + 1) < (eS E : Int)) ∧ Cl E 3 M_X8_frees [.inr 83, .inl (eR E 4 ((x3 + 1)).toNat)] μ1 (fun vv μ3 => ∃ v4, vv = some (.inl v4) ∧ inR v2 ∧ inR v4 ∧ (v2 = v4 → Gg E 23 M_law 971 [some (.inr 104), some (.inr 0), some (.inr 83), some (.inl x3)] [] μ3 Q) ∧ (¬ v2 = v4 → Q (some (.inl (bi false))) μ3)))) : Gg E 23 M_law 711 [some (.inr 104), some (.inr 0), some (.inr 83), some (.inl x3)] [] μ Q := by
  refine r_aloadn (q := 712) DM_law_711 rfl rfl ?_
  refine r_aloadn (q := 713) DM_law_712 rfl rfl ?_
  refine r_iloadn (q := 714) DM_law_713 rfl rfl ?_
  refine r_iconst (q := 715) (n := 1) DM_law_714 rfl ?_
  refine r_iadd (q := 716) DM_law_715 rfl ?_
  refine v_tald (q := 717) (t := 4) (N := eS E) DM_law_716 rfl (by decide) rfl ⟨h.1, ?_⟩
  replace h := h.2
  refine r_callVi [.inl (eR E 4 ((x3 + 1)).toNat)] (q := 720) DM_law_717 rfl kM_X7_frees lRL_94 sh_0 rfl rfl (by decide) (Nat.le_of_ble_eq_true rfl) rfl (Cl.imp h (fun vv μ1 h => ?_))
  obtain ⟨v2, hv, h⟩ := h
  refine ⟨v2, hv, ?_⟩
  refine r_aloadn (q := 721) DM_law_720 rfl rfl ?_
  refine r_aloadn (q := 722) DM_law_721 rfl rfl ?_
  refine r_iloadn (q := 723) DM_law_722 rfl rfl ?_
  refine r_iconst (q := 724) (n := 1) DM_law_723 rfl ?_
  refine r_iadd (q := 725) DM_law_724 rfl ?_
  refine v_tald (q := 726) (t := 4) (N := eS E) DM_law_725 rfl (by decide) rfl ⟨h.1, ?_⟩
  replace h := h.2
  refine r_callVi [.inl (eR E 4 ((x3 + 1)).toNat)] (q := 729) DM_law_726 rfl kM_X8_frees lRL_97 sh_83 rfl rfl (by decide) (Nat.le_of_ble_eq_true rfl) rfl (Cl.imp h (fun vv μ3 h => ?_))
  obtain ⟨v4, hv, h⟩ := h
  refine ⟨v4, hv, ?_⟩
  have i5 := h.1
  replace h := h.2
  have i6 := h.1
  replace h := h.2
  refine r_iceq (q := 732) (t := 971) DM_law_729 rfl (by decide) ⟨⟨i5, i6⟩, fun cc => ?_, fun cc => ?_⟩
  · replace h := h.1 cc
    exact h
  · replace h := h.2 cc
    refine r_iconst (q := 733) (n := 0) DM_law_732 rfl ?_
    exact r_ret (v := some (.inl 0)) ⟨DM_law_733, Or.inr ⟨rfl, Or.inl rfl⟩⟩ h
set_option maxRecDepth 20000 in
theorem s_law_734 {E : Ex} {μ : Mem} {Q : Option Vl → Mem → Prop} {x3 : Int} (h : (0 ≤ (x3 + 1) ∧ (x3 + 1) < (eS E : Int)) ∧ (0 ≤ (x3 + 2) ∧ (x3 + 2) < (eS E : Int)) ∧ (0 ≤ (x3 + 3) ∧ (x3 + 3) < (eS E : Int)) ∧ Cl E 6 M_X7_ledger [.inr 0, .inl (eR E 4 ((x3 + 1)).toNat), .inl (eR E 4 ((x3 + 2)).toNat), .inl (eR E 4 ((x3 + 3)).toNat)] μ (fun vv μ1 => ∃ v2, vv = some (.inl v2) ∧ (0 ≤ (x3 + 1) ∧ (x3 + 1) < (eS E : Int)) ∧ (0 ≤ (x3 + 2) ∧ (x3 + 2) < (eS E : Int)) ∧ (0 ≤ (x3 + 3) ∧ (x3 + 3) < (eS E : Int)) ∧ Cl E 5 M_X8_ledger [.inr 83, .inl (eR E 4 ((x3 + 1)).toNat), .inl (eR E 4 ((x3 + 2)).toNat), .inl (eR E 4 ((x3 + 3)).toNat)] μ1 (fun vv μ3 => ∃ v4, vv = some (.inl v4) ∧ inR v2 ∧ inR v4 ∧ (v2 = v4 → Gg E 23 M_law 971 [some (.inr 104), some (.inr 0), some (.inr 83), some (.inl x3)] [] μ3 Q) ∧ (¬ v2 = v4 → Q (some (.inl (bi false))) μ3)))) : Gg E 23 M_law 734 [some (.inr 104), some (.inr 0), some (.inr 83), some (.inl x3)] [] μ Q := by
  refine r_aloadn (q := 735) DM_law_734 rfl rfl ?_
  refine r_aloadn (q := 736) DM_law_735 rfl rfl ?_
  refine r_iloadn (q := 737) DM_law_736 rfl rfl ?_
  refine r_iconst (q := 738) (n := 1) DM_law_737 rfl ?_
  refine r_iadd (q := 739) DM_law_738 rfl ?_
  refine v_tald (q := 740) (t := 4) (N := eS E) DM_law_739 rfl (by decide) rfl ⟨h.1, ?_⟩
  replace h := h.2
  refine r_aloadn (q := 741) DM_law_740 rfl rfl ?_
  refine r_iloadn (q := 742) DM_law_741 rfl rfl ?_
  refine r_iconst (q := 743) (n := 2) DM_law_742 rfl ?_
  refine r_iadd (q := 744) DM_law_743 rfl ?_
  refine v_tald (q := 745) (t := 4) (N := eS E) DM_law_744 rfl (by decide) rfl ⟨h.1, ?_⟩
  replace h := h.2
  refine r_aloadn (q := 746) DM_law_745 rfl rfl ?_
  refine r_iloadn (q := 747) DM_law_746 rfl rfl ?_
  refine r_iconst (q := 748) (n := 3) DM_law_747 rfl ?_
  refine r_iadd (q := 749) DM_law_748 rfl ?_
  refine v_tald (q := 750) (t := 4) (N := eS E) DM_law_749 rfl (by decide) rfl ⟨h.1, ?_⟩
  replace h := h.2
  refine r_callVi [.inl (eR E 4 ((x3 + 1)).toNat), .inl (eR E 4 ((x3 + 2)).toNat), .inl (eR E 4 ((x3 + 3)).toNat)] (q := 753) DM_law_750 rfl kM_X7_ledger lRL_98 sh_0 rfl rfl (by decide) (Nat.le_of_ble_eq_true rfl) rfl (Cl.imp h (fun vv μ1 h => ?_))
  obtain ⟨v2, hv, h⟩ := h
  refine ⟨v2, hv, ?_⟩
  refine r_aloadn (q := 754) DM_law_753 rfl rfl ?_
  refine r_aloadn (q := 755) DM_law_754 rfl rfl ?_
  refine r_iloadn (q := 756) DM_law_755 rfl rfl ?_
  refine r_iconst (q := 757) (n := 1) DM_law_756 rfl ?_
  refine r_iadd (q := 758) DM_law_757 rfl ?_
  refine v_tald (q := 759) (t := 4) (N := eS E) DM_law_758 rfl (by decide) rfl ⟨h.1, ?_⟩
  replace h := h.2
  refine r_aloadn (q := 760) DM_law_759 rfl rfl ?_
  refine r_iloadn (q := 761) DM_law_760 rfl rfl ?_
  refine r_iconst (q := 762) (n := 2) DM_law_761 rfl ?_
  refine r_iadd (q := 763) DM_law_762 rfl ?_
  refine v_tald (q := 764) (t := 4) (N := eS E) DM_law_763 rfl (by decide) rfl ⟨h.1, ?_⟩
  replace h := h.2
  refine r_aloadn (q := 765) DM_law_764 rfl rfl ?_
  refine r_iloadn (q := 766) DM_law_765 rfl rfl ?_
  refine r_iconst (q := 767) (n := 3) DM_law_766 rfl ?_
  refine r_iadd (q := 768) DM_law_767 rfl ?_
  refine v_tald (q := 769) (t := 4) (N := eS E) DM_law_768 rfl (by decide) rfl ⟨h.1, ?_⟩
  replace h := h.2
  refine r_callVi [.inl (eR E 4 ((x3 + 1)).toNat), .inl (eR E 4 ((x3 + 2)).toNat), .inl (eR E 4 ((x3 + 3)).toNat)] (q := 772) DM_law_769 rfl kM_X8_ledger lRL_101 sh_83 rfl rfl (by decide) (Nat.le_of_ble_eq_true rfl) rfl (Cl.imp h (fun vv μ3 h => ?_))
  obtain ⟨v4, hv, h⟩ := h
  refine ⟨v4, hv, ?_⟩
  have i5 := h.1
  replace h := h.2
  have i6 := h.1
  replace h := h.2
  refine r_iceq (q := 775) (t := 971) DM_law_772 rfl (by decide) ⟨⟨i5, i6⟩, fun cc => ?_, fun cc => ?_⟩
  · replace h := h.1 cc
    exact h
  · replace h := h.2 cc
    refine r_iconst (q := 776) (n := 0) DM_law_775 rfl ?_
    exact r_ret (v := some (.inl 0)) ⟨DM_law_776, Or.inr ⟨rfl, Or.inl rfl⟩⟩ h
set_option maxRecDepth 20000 in
theorem s_law_777 {E : Ex} {μ : Mem} {Q : Option Vl → Mem → Prop} {x3 : Int} (h : (0 ≤ (x3 + 1) ∧ (x3 + 1) < (eS E : Int)) ∧ Cl E 2 M_X7_image [.inr 0, .inl (eR E 4 ((x3 + 1)).toNat)] μ (fun vv μ1 => ∃ v2, vv = some (.inl v2) ∧ (0 ≤ (x3 + 1) ∧ (x3 + 1) < (eS E : Int)) ∧ Cl E 1 M_X8_image [.inr 83, .inl (eR E 4 ((x3 + 1)).toNat)] μ1 (fun vv μ3 => ∃ v4, vv = some (.inl v4) ∧ inR v2 ∧ inR v4 ∧ (v2 = v4 → Gg E 23 M_law 971 [some (.inr 104), some (.inr 0), some (.inr 83), some (.inl x3)] [] μ3 Q) ∧ (¬ v2 = v4 → Q (some (.inl (bi false))) μ3)))) : Gg E 23 M_law 777 [some (.inr 104), some (.inr 0), some (.inr 83), some (.inl x3)] [] μ Q := by
  refine r_aloadn (q := 778) DM_law_777 rfl rfl ?_
  refine r_aloadn (q := 779) DM_law_778 rfl rfl ?_
  refine r_iloadn (q := 780) DM_law_779 rfl rfl ?_
  refine r_iconst (q := 781) (n := 1) DM_law_780 rfl ?_
  refine r_iadd (q := 782) DM_law_781 rfl ?_
  refine v_tald (q := 783) (t := 4) (N := eS E) DM_law_782 rfl (by decide) rfl ⟨h.1, ?_⟩
  replace h := h.2
  refine r_callVi [.inl (eR E 4 ((x3 + 1)).toNat)] (q := 786) DM_law_783 rfl kM_X7_image lRL_102 sh_0 rfl rfl (by decide) (Nat.le_of_ble_eq_true rfl) rfl (Cl.imp h (fun vv μ1 h => ?_))
  obtain ⟨v2, hv, h⟩ := h
  refine ⟨v2, hv, ?_⟩
  refine r_aloadn (q := 787) DM_law_786 rfl rfl ?_
  refine r_aloadn (q := 788) DM_law_787 rfl rfl ?_
  refine r_iloadn (q := 789) DM_law_788 rfl rfl ?_
  refine r_iconst (q := 790) (n := 1) DM_law_789 rfl ?_
  refine r_iadd (q := 791) DM_law_790 rfl ?_
  refine v_tald (q := 792) (t := 4) (N := eS E) DM_law_791 rfl (by decide) rfl ⟨h.1, ?_⟩
  replace h := h.2
  refine r_callVi [.inl (eR E 4 ((x3 + 1)).toNat)] (q := 795) DM_law_792 rfl kM_X8_image lRL_105 sh_83 rfl rfl (by decide) (Nat.le_of_ble_eq_true rfl) rfl (Cl.imp h (fun vv μ3 h => ?_))
  obtain ⟨v4, hv, h⟩ := h
  refine ⟨v4, hv, ?_⟩
  have i5 := h.1
  replace h := h.2
  have i6 := h.1
  replace h := h.2
  refine r_iceq (q := 798) (t := 971) DM_law_795 rfl (by decide) ⟨⟨i5, i6⟩, fun cc => ?_, fun cc => ?_⟩
  · replace h := h.1 cc
    exact h
  · replace h := h.2 cc
    refine r_iconst (q := 799) (n := 0) DM_law_798 rfl ?_
    exact r_ret (v := some (.inl 0)) ⟨DM_law_799, Or.inr ⟨rfl, Or.inl rfl⟩⟩ h
set_option maxRecDepth 20000 in
theorem s_law_800 {E : Ex} {μ : Mem} {Q : Option Vl → Mem → Prop} {x3 : Int} (h : (0 ≤ (x3 + 1) ∧ (x3 + 1) < (eS E : Int)) ∧ Cl E 2 M_X7_restore [.inr 0, .inl (eR E 4 ((x3 + 1)).toNat)] μ (fun vv μ1 => ∃ v2, vv = some (.inl v2) ∧ (0 ≤ (x3 + 1) ∧ (x3 + 1) < (eS E : Int)) ∧ Cl E 1 M_X8_restore [.inr 83, .inl (eR E 4 ((x3 + 1)).toNat)] μ1 (fun vv μ3 => ∃ v4, vv = some (.inl v4) ∧ inR v2 ∧ inR v4 ∧ (v2 = v4 → Gg E 23 M_law 971 [some (.inr 104), some (.inr 0), some (.inr 83), some (.inl x3)] [] μ3 Q) ∧ (¬ v2 = v4 → Q (some (.inl (bi false))) μ3)))) : Gg E 23 M_law 800 [some (.inr 104), some (.inr 0), some (.inr 83), some (.inl x3)] [] μ Q := by
  refine r_aloadn (q := 801) DM_law_800 rfl rfl ?_
  refine r_aloadn (q := 802) DM_law_801 rfl rfl ?_
  refine r_iloadn (q := 803) DM_law_802 rfl rfl ?_
  refine r_iconst (q := 804) (n := 1) DM_law_803 rfl ?_
  refine r_iadd (q := 805) DM_law_804 rfl ?_
  refine v_tald (q := 806) (t := 4) (N := eS E) DM_law_805 rfl (by decide) rfl ⟨h.1, ?_⟩
  replace h := h.2
  refine r_callVi [.inl (eR E 4 ((x3 + 1)).toNat)] (q := 809) DM_law_806 rfl kM_X7_restore lRL_106 sh_0 rfl rfl (by decide) (Nat.le_of_ble_eq_true rfl) rfl (Cl.imp h (fun vv μ1 h => ?_))
  obtain ⟨v2, hv, h⟩ := h
  refine ⟨v2, hv, ?_⟩
  refine r_aloadn (q := 810) DM_law_809 rfl rfl ?_
  refine r_aloadn (q := 811) DM_law_810 rfl rfl ?_
  refine r_iloadn (q := 812) DM_law_811 rfl rfl ?_
  refine r_iconst (q := 813) (n := 1) DM_law_812 rfl ?_
  refine r_iadd (q := 814) DM_law_813 rfl ?_
  refine v_tald (q := 815) (t := 4) (N := eS E) DM_law_814 rfl (by decide) rfl ⟨h.1, ?_⟩
  replace h := h.2
  refine r_callVi [.inl (eR E 4 ((x3 + 1)).toNat)] (q := 818) DM_law_815 rfl kM_X8_restore lRL_109 sh_83 rfl rfl (by decide) (Nat.le_of_ble_eq_true rfl) rfl (Cl.imp h (fun vv μ3 h => ?_))
  obtain ⟨v4, hv, h⟩ := h
  refine ⟨v4, hv, ?_⟩
  have i5 := h.1
  replace h := h.2
  have i6 := h.1
  replace h := h.2
  refine r_iceq (q := 821) (t := 971) DM_law_818 rfl (by decide) ⟨⟨i5, i6⟩, fun cc => ?_, fun cc => ?_⟩
  · replace h := h.1 cc
    exact h
  · replace h := h.2 cc
    refine r_iconst (q := 822) (n := 0) DM_law_821 rfl ?_
    exact r_ret (v := some (.inl 0)) ⟨DM_law_822, Or.inr ⟨rfl, Or.inl rfl⟩⟩ h
set_option maxRecDepth 20000 in
theorem s_law_823 {E : Ex} {μ : Mem} {Q : Option Vl → Mem → Prop} {x3 : Int} (h : (0 ≤ (x3 + 1) ∧ (x3 + 1) < (eS E : Int)) ∧ Cl E 2 M_X7_kind [.inr 0, .inl (eR E 4 ((x3 + 1)).toNat)] μ (fun vv μ1 => ∃ v2, vv = some (.inl v2) ∧ (0 ≤ (x3 + 1) ∧ (x3 + 1) < (eS E : Int)) ∧ Cl E 2 M_X8_kind [.inr 83, .inl (eR E 4 ((x3 + 1)).toNat)] μ1 (fun vv μ3 => ∃ v4, vv = some (.inl v4) ∧ inR v2 ∧ inR v4 ∧ (v2 = v4 → Gg E 23 M_law 971 [some (.inr 104), some (.inr 0), some (.inr 83), some (.inl x3)] [] μ3 Q) ∧ (¬ v2 = v4 → Q (some (.inl (bi false))) μ3)))) : Gg E 23 M_law 823 [some (.inr 104), some (.inr 0), some (.inr 83), some (.inl x3)] [] μ Q := by
  refine r_aloadn (q := 824) DM_law_823 rfl rfl ?_
  refine r_aloadn (q := 825) DM_law_824 rfl rfl ?_
  refine r_iloadn (q := 826) DM_law_825 rfl rfl ?_
  refine r_iconst (q := 827) (n := 1) DM_law_826 rfl ?_
  refine r_iadd (q := 828) DM_law_827 rfl ?_
  refine v_tald (q := 829) (t := 4) (N := eS E) DM_law_828 rfl (by decide) rfl ⟨h.1, ?_⟩
  replace h := h.2
  refine r_callVi [.inl (eR E 4 ((x3 + 1)).toNat)] (q := 832) DM_law_829 rfl kM_X7_kind lRL_110 sh_0 rfl rfl (by decide) (Nat.le_of_ble_eq_true rfl) rfl (Cl.imp h (fun vv μ1 h => ?_))
  obtain ⟨v2, hv, h⟩ := h
  refine ⟨v2, hv, ?_⟩
  refine r_aloadn (q := 833) DM_law_832 rfl rfl ?_
  refine r_aloadn (q := 834) DM_law_833 rfl rfl ?_
  refine r_iloadn (q := 835) DM_law_834 rfl rfl ?_
  refine r_iconst (q := 836) (n := 1) DM_law_835 rfl ?_
  refine r_iadd (q := 837) DM_law_836 rfl ?_
  refine v_tald (q := 838) (t := 4) (N := eS E) DM_law_837 rfl (by decide) rfl ⟨h.1, ?_⟩
  replace h := h.2
  refine r_callVi [.inl (eR E 4 ((x3 + 1)).toNat)] (q := 841) DM_law_838 rfl kM_X8_kind lRL_113 sh_83 rfl rfl (by decide) (Nat.le_of_ble_eq_true rfl) rfl (Cl.imp h (fun vv μ3 h => ?_))
  obtain ⟨v4, hv, h⟩ := h
  refine ⟨v4, hv, ?_⟩
  have i5 := h.1
  replace h := h.2
  have i6 := h.1
  replace h := h.2
  refine r_iceq (q := 844) (t := 971) DM_law_841 rfl (by decide) ⟨⟨i5, i6⟩, fun cc => ?_, fun cc => ?_⟩
  · replace h := h.1 cc
    exact h
  · replace h := h.2 cc
    refine r_iconst (q := 845) (n := 0) DM_law_844 rfl ?_
    exact r_ret (v := some (.inl 0)) ⟨DM_law_845, Or.inr ⟨rfl, Or.inl rfl⟩⟩ h
set_option maxRecDepth 20000 in
theorem s_law_846 {E : Ex} {μ : Mem} {Q : Option Vl → Mem → Prop} {x3 : Int} (h : (0 ≤ (x3 + 1) ∧ (x3 + 1) < (eS E : Int)) ∧ (0 ≤ (x3 + 2) ∧ (x3 + 2) < (eS E : Int)) ∧ Cl E 2 M_X7_as [.inr 0, .inl (eR E 4 ((x3 + 1)).toNat), .inl (eR E 4 ((x3 + 2)).toNat)] μ (fun vv μ1 => ∃ v2, vv = some (.inl v2) ∧ (0 ≤ (x3 + 1) ∧ (x3 + 1) < (eS E : Int)) ∧ (0 ≤ (x3 + 2) ∧ (x3 + 2) < (eS E : Int)) ∧ Cl E 2 M_X8_as [.inr 83, .inl (eR E 4 ((x3 + 1)).toNat), .inl (eR E 4 ((x3 + 2)).toNat)] μ1 (fun vv μ3 => ∃ v4, vv = some (.inl v4) ∧ inR v2 ∧ inR v4 ∧ (v2 = v4 → Gg E 23 M_law 971 [some (.inr 104), some (.inr 0), some (.inr 83), some (.inl x3)] [] μ3 Q) ∧ (¬ v2 = v4 → Q (some (.inl (bi false))) μ3)))) : Gg E 23 M_law 846 [some (.inr 104), some (.inr 0), some (.inr 83), some (.inl x3)] [] μ Q := by
  refine r_aloadn (q := 847) DM_law_846 rfl rfl ?_
  refine r_aloadn (q := 848) DM_law_847 rfl rfl ?_
  refine r_iloadn (q := 849) DM_law_848 rfl rfl ?_
  refine r_iconst (q := 850) (n := 1) DM_law_849 rfl ?_
  refine r_iadd (q := 851) DM_law_850 rfl ?_
  refine v_tald (q := 852) (t := 4) (N := eS E) DM_law_851 rfl (by decide) rfl ⟨h.1, ?_⟩
  replace h := h.2
  refine r_aloadn (q := 853) DM_law_852 rfl rfl ?_
  refine r_iloadn (q := 854) DM_law_853 rfl rfl ?_
  refine r_iconst (q := 855) (n := 2) DM_law_854 rfl ?_
  refine r_iadd (q := 856) DM_law_855 rfl ?_
  refine v_tald (q := 857) (t := 4) (N := eS E) DM_law_856 rfl (by decide) rfl ⟨h.1, ?_⟩
  replace h := h.2
  refine r_callVi [.inl (eR E 4 ((x3 + 1)).toNat), .inl (eR E 4 ((x3 + 2)).toNat)] (q := 860) DM_law_857 rfl kM_X7_as lRL_114 sh_0 rfl rfl (by decide) (Nat.le_of_ble_eq_true rfl) rfl (Cl.imp h (fun vv μ1 h => ?_))
  obtain ⟨v2, hv, h⟩ := h
  refine ⟨v2, hv, ?_⟩
  refine r_aloadn (q := 861) DM_law_860 rfl rfl ?_
  refine r_aloadn (q := 862) DM_law_861 rfl rfl ?_
  refine r_iloadn (q := 863) DM_law_862 rfl rfl ?_
  refine r_iconst (q := 864) (n := 1) DM_law_863 rfl ?_
  refine r_iadd (q := 865) DM_law_864 rfl ?_
  refine v_tald (q := 866) (t := 4) (N := eS E) DM_law_865 rfl (by decide) rfl ⟨h.1, ?_⟩
  replace h := h.2
  refine r_aloadn (q := 867) DM_law_866 rfl rfl ?_
  refine r_iloadn (q := 868) DM_law_867 rfl rfl ?_
  refine r_iconst (q := 869) (n := 2) DM_law_868 rfl ?_
  refine r_iadd (q := 870) DM_law_869 rfl ?_
  refine v_tald (q := 871) (t := 4) (N := eS E) DM_law_870 rfl (by decide) rfl ⟨h.1, ?_⟩
  replace h := h.2
  refine r_callVi [.inl (eR E 4 ((x3 + 1)).toNat), .inl (eR E 4 ((x3 + 2)).toNat)] (q := 874) DM_law_871 rfl kM_X8_as lRL_117 sh_83 rfl rfl (by decide) (Nat.le_of_ble_eq_true rfl) rfl (Cl.imp h (fun vv μ3 h => ?_))
  obtain ⟨v4, hv, h⟩ := h
  refine ⟨v4, hv, ?_⟩
  have i5 := h.1
  replace h := h.2
  have i6 := h.1
  replace h := h.2
  refine r_iceq (q := 877) (t := 971) DM_law_874 rfl (by decide) ⟨⟨i5, i6⟩, fun cc => ?_, fun cc => ?_⟩
  · replace h := h.1 cc
    exact h
  · replace h := h.2 cc
    refine r_iconst (q := 878) (n := 0) DM_law_877 rfl ?_
    exact r_ret (v := some (.inl 0)) ⟨DM_law_878, Or.inr ⟨rfl, Or.inl rfl⟩⟩ h
set_option maxRecDepth 20000 in
theorem s_law_879 {E : Ex} {μ : Mem} {Q : Option Vl → Mem → Prop} {x3 : Int} (h : (0 ≤ (x3 + 1) ∧ (x3 + 1) < (eS E : Int)) ∧ (0 ≤ (x3 + 2) ∧ (x3 + 2) < (eS E : Int)) ∧ Cl E 22 M_X7_ask [.inr 0, .inl (eR E 4 ((x3 + 1)).toNat), .inl (eR E 4 ((x3 + 2)).toNat)] μ (fun vv μ1 => ∃ v2, vv = some (.inl v2) ∧ (0 ≤ (x3 + 1) ∧ (x3 + 1) < (eS E : Int)) ∧ (0 ≤ (x3 + 2) ∧ (x3 + 2) < (eS E : Int)) ∧ Cl E 3 M_X8_ask [.inr 83, .inl (eR E 4 ((x3 + 1)).toNat), .inl (eR E 4 ((x3 + 2)).toNat)] μ1 (fun vv μ3 => ∃ v4, vv = some (.inl v4) ∧ inR v2 ∧ inR v4 ∧ (v2 = v4 → Gg E 23 M_law 971 [some (.inr 104), some (.inr 0), some (.inr 83), some (.inl x3)] [] μ3 Q) ∧ (¬ v2 = v4 → Q (some (.inl (bi false))) μ3)))) : Gg E 23 M_law 879 [some (.inr 104), some (.inr 0), some (.inr 83), some (.inl x3)] [] μ Q := by
  refine r_aloadn (q := 880) DM_law_879 rfl rfl ?_
  refine r_aloadn (q := 881) DM_law_880 rfl rfl ?_
  refine r_iloadn (q := 882) DM_law_881 rfl rfl ?_
  refine r_iconst (q := 883) (n := 1) DM_law_882 rfl ?_
  refine r_iadd (q := 884) DM_law_883 rfl ?_
  refine v_tald (q := 885) (t := 4) (N := eS E) DM_law_884 rfl (by decide) rfl ⟨h.1, ?_⟩
  replace h := h.2
  refine r_aloadn (q := 886) DM_law_885 rfl rfl ?_
  refine r_iloadn (q := 887) DM_law_886 rfl rfl ?_
  refine r_iconst (q := 888) (n := 2) DM_law_887 rfl ?_
  refine r_iadd (q := 889) DM_law_888 rfl ?_
  refine v_tald (q := 890) (t := 4) (N := eS E) DM_law_889 rfl (by decide) rfl ⟨h.1, ?_⟩
  replace h := h.2
  refine r_callVi [.inl (eR E 4 ((x3 + 1)).toNat), .inl (eR E 4 ((x3 + 2)).toNat)] (q := 893) DM_law_890 rfl kM_X7_ask lRL_118 sh_0 rfl rfl (by decide) (Nat.le_of_ble_eq_true rfl) rfl (Cl.imp h (fun vv μ1 h => ?_))
  obtain ⟨v2, hv, h⟩ := h
  refine ⟨v2, hv, ?_⟩
  refine r_aloadn (q := 894) DM_law_893 rfl rfl ?_
  refine r_aloadn (q := 895) DM_law_894 rfl rfl ?_
  refine r_iloadn (q := 896) DM_law_895 rfl rfl ?_
  refine r_iconst (q := 897) (n := 1) DM_law_896 rfl ?_
  refine r_iadd (q := 898) DM_law_897 rfl ?_
  refine v_tald (q := 899) (t := 4) (N := eS E) DM_law_898 rfl (by decide) rfl ⟨h.1, ?_⟩
  replace h := h.2
  refine r_aloadn (q := 900) DM_law_899 rfl rfl ?_
  refine r_iloadn (q := 901) DM_law_900 rfl rfl ?_
  refine r_iconst (q := 902) (n := 2) DM_law_901 rfl ?_
  refine r_iadd (q := 903) DM_law_902 rfl ?_
  refine v_tald (q := 904) (t := 4) (N := eS E) DM_law_903 rfl (by decide) rfl ⟨h.1, ?_⟩
  replace h := h.2
  refine r_callVi [.inl (eR E 4 ((x3 + 1)).toNat), .inl (eR E 4 ((x3 + 2)).toNat)] (q := 907) DM_law_904 rfl kM_X8_ask lRL_121 sh_83 rfl rfl (by decide) (Nat.le_of_ble_eq_true rfl) rfl (Cl.imp h (fun vv μ3 h => ?_))
  obtain ⟨v4, hv, h⟩ := h
  refine ⟨v4, hv, ?_⟩
  have i5 := h.1
  replace h := h.2
  have i6 := h.1
  replace h := h.2
  refine r_iceq (q := 910) (t := 971) DM_law_907 rfl (by decide) ⟨⟨i5, i6⟩, fun cc => ?_, fun cc => ?_⟩
  · replace h := h.1 cc
    exact h
  · replace h := h.2 cc
    refine r_iconst (q := 911) (n := 0) DM_law_910 rfl ?_
    exact r_ret (v := some (.inl 0)) ⟨DM_law_911, Or.inr ⟨rfl, Or.inl rfl⟩⟩ h
set_option maxRecDepth 20000 in
theorem s_law_912 {E : Ex} {μ : Mem} {Q : Option Vl → Mem → Prop} {x3 : Int} (h : (0 ≤ (x3 + 1) ∧ (x3 + 1) < (eS E : Int)) ∧ Cl E 1 M_X7_trace [.inr 0, .inl (eR E 4 ((x3 + 1)).toNat)] μ (fun vv μ1 => ∃ v2, vv = some (.inl v2) ∧ (0 ≤ (x3 + 1) ∧ (x3 + 1) < (eS E : Int)) ∧ Cl E 1 M_X8_trace [.inr 83, .inl (eR E 4 ((x3 + 1)).toNat)] μ1 (fun vv μ3 => ∃ v4, vv = some (.inl v4) ∧ inR v2 ∧ inR v4 ∧ (v2 = v4 → Gg E 23 M_law 971 [some (.inr 104), some (.inr 0), some (.inr 83), some (.inl x3)] [] μ3 Q) ∧ (¬ v2 = v4 → Q (some (.inl (bi false))) μ3)))) : Gg E 23 M_law 912 [some (.inr 104), some (.inr 0), some (.inr 83), some (.inl x3)] [] μ Q := by
  refine r_aloadn (q := 913) DM_law_912 rfl rfl ?_
  refine r_aloadn (q := 914) DM_law_913 rfl rfl ?_
  refine r_iloadn (q := 915) DM_law_914 rfl rfl ?_
  refine r_iconst (q := 916) (n := 1) DM_law_915 rfl ?_
  refine r_iadd (q := 917) DM_law_916 rfl ?_
  refine v_tald (q := 918) (t := 4) (N := eS E) DM_law_917 rfl (by decide) rfl ⟨h.1, ?_⟩
  replace h := h.2
  refine r_callVi [.inl (eR E 4 ((x3 + 1)).toNat)] (q := 921) DM_law_918 rfl kM_X7_trace lRL_122 sh_0 rfl rfl (by decide) (Nat.le_of_ble_eq_true rfl) rfl (Cl.imp h (fun vv μ1 h => ?_))
  obtain ⟨v2, hv, h⟩ := h
  refine ⟨v2, hv, ?_⟩
  refine r_aloadn (q := 922) DM_law_921 rfl rfl ?_
  refine r_aloadn (q := 923) DM_law_922 rfl rfl ?_
  refine r_iloadn (q := 924) DM_law_923 rfl rfl ?_
  refine r_iconst (q := 925) (n := 1) DM_law_924 rfl ?_
  refine r_iadd (q := 926) DM_law_925 rfl ?_
  refine v_tald (q := 927) (t := 4) (N := eS E) DM_law_926 rfl (by decide) rfl ⟨h.1, ?_⟩
  replace h := h.2
  refine r_callVi [.inl (eR E 4 ((x3 + 1)).toNat)] (q := 930) DM_law_927 rfl kM_X8_trace lRL_125 sh_83 rfl rfl (by decide) (Nat.le_of_ble_eq_true rfl) rfl (Cl.imp h (fun vv μ3 h => ?_))
  obtain ⟨v4, hv, h⟩ := h
  refine ⟨v4, hv, ?_⟩
  have i5 := h.1
  replace h := h.2
  have i6 := h.1
  replace h := h.2
  refine r_iceq (q := 933) (t := 971) DM_law_930 rfl (by decide) ⟨⟨i5, i6⟩, fun cc => ?_, fun cc => ?_⟩
  · replace h := h.1 cc
    exact h
  · replace h := h.2 cc
    refine r_iconst (q := 934) (n := 0) DM_law_933 rfl ?_
    exact r_ret (v := some (.inl 0)) ⟨DM_law_934, Or.inr ⟨rfl, Or.inl rfl⟩⟩ h
set_option maxRecDepth 20000 in
theorem s_law_935 {E : Ex} {μ : Mem} {Q : Option Vl → Mem → Prop} {x3 : Int} (h : (0 ≤ (x3 + 1) ∧ (x3 + 1) < (eS E : Int)) ∧ Cl E 4 M_X7_count [.inr 0, .inl (eR E 4 ((x3 + 1)).toNat)] μ (fun vv μ1 => ∃ v2, vv = some (.inl v2) ∧ (0 ≤ (x3 + 1) ∧ (x3 + 1) < (eS E : Int)) ∧ Cl E 2 M_X8_count [.inr 83, .inl (eR E 4 ((x3 + 1)).toNat)] μ1 (fun vv μ3 => ∃ v4, vv = some (.inl v4) ∧ inR v2 ∧ inR v4 ∧ (v2 = v4 → Gg E 23 M_law 971 [some (.inr 104), some (.inr 0), some (.inr 83), some (.inl x3)] [] μ3 Q) ∧ (¬ v2 = v4 → Q (some (.inl (bi false))) μ3)))) : Gg E 23 M_law 935 [some (.inr 104), some (.inr 0), some (.inr 83), some (.inl x3)] [] μ Q := by
  refine r_aloadn (q := 936) DM_law_935 rfl rfl ?_
  refine r_aloadn (q := 937) DM_law_936 rfl rfl ?_
  refine r_iloadn (q := 938) DM_law_937 rfl rfl ?_
  refine r_iconst (q := 939) (n := 1) DM_law_938 rfl ?_
  refine r_iadd (q := 940) DM_law_939 rfl ?_
  refine v_tald (q := 941) (t := 4) (N := eS E) DM_law_940 rfl (by decide) rfl ⟨h.1, ?_⟩
  replace h := h.2
  refine r_callVi [.inl (eR E 4 ((x3 + 1)).toNat)] (q := 944) DM_law_941 rfl kM_X7_count lRL_126 sh_0 rfl rfl (by decide) (Nat.le_of_ble_eq_true rfl) rfl (Cl.imp h (fun vv μ1 h => ?_))
  obtain ⟨v2, hv, h⟩ := h
  refine ⟨v2, hv, ?_⟩
  refine r_aloadn (q := 945) DM_law_944 rfl rfl ?_
  refine r_aloadn (q := 946) DM_law_945 rfl rfl ?_
  refine r_iloadn (q := 947) DM_law_946 rfl rfl ?_
  refine r_iconst (q := 948) (n := 1) DM_law_947 rfl ?_
  refine r_iadd (q := 949) DM_law_948 rfl ?_
  refine v_tald (q := 950) (t := 4) (N := eS E) DM_law_949 rfl (by decide) rfl ⟨h.1, ?_⟩
  replace h := h.2
  refine r_callVi [.inl (eR E 4 ((x3 + 1)).toNat)] (q := 953) DM_law_950 rfl kM_X8_count lRL_129 sh_83 rfl rfl (by decide) (Nat.le_of_ble_eq_true rfl) rfl (Cl.imp h (fun vv μ3 h => ?_))
  obtain ⟨v4, hv, h⟩ := h
  refine ⟨v4, hv, ?_⟩
  have i5 := h.1
  replace h := h.2
  have i6 := h.1
  replace h := h.2
  refine r_iceq (q := 956) (t := 971) DM_law_953 rfl (by decide) ⟨⟨i5, i6⟩, fun cc => ?_, fun cc => ?_⟩
  · replace h := h.1 cc
    exact h
  · replace h := h.2 cc
    refine r_iconst (q := 957) (n := 0) DM_law_956 rfl ?_
    exact r_ret (v := some (.inl 0)) ⟨DM_law_957, Or.inr ⟨rfl, Or.inl rfl⟩⟩ h
set_option maxRecDepth 20000 in
theorem s_law_958 {E : Ex} {μ : Mem} {Q : Option Vl → Mem → Prop} {x3 : Int} (h : Cl E 0 M_X7_status [.inr 0] μ (fun vv μ1 => ∃ v2, vv = some (.inl v2) ∧ Cl E 0 M_X8_status [.inr 83] μ1 (fun vv μ3 => ∃ v4, vv = some (.inl v4) ∧ inR v2 ∧ inR v4 ∧ (v2 = v4 → Gg E 23 M_law 971 [some (.inr 104), some (.inr 0), some (.inr 83), some (.inl x3)] [] μ3 Q) ∧ (¬ v2 = v4 → Q (some (.inl (bi false))) μ3)))) : Gg E 23 M_law 958 [some (.inr 104), some (.inr 0), some (.inr 83), some (.inl x3)] [] μ Q := by
  refine r_aloadn (q := 959) DM_law_958 rfl rfl ?_
  refine r_callVi [] (q := 962) DM_law_959 rfl kM_X7_status lRL_130 sh_0 rfl rfl (by decide) (Nat.le_of_ble_eq_true rfl) rfl (Cl.imp h (fun vv μ1 h => ?_))
  obtain ⟨v2, hv, h⟩ := h
  refine ⟨v2, hv, ?_⟩
  refine r_aloadn (q := 963) DM_law_962 rfl rfl ?_
  refine r_callVi [] (q := 966) DM_law_963 rfl kM_X8_status lRL_133 sh_83 rfl rfl (by decide) (Nat.le_of_ble_eq_true rfl) rfl (Cl.imp h (fun vv μ3 h => ?_))
  obtain ⟨v4, hv, h⟩ := h
  refine ⟨v4, hv, ?_⟩
  have i5 := h.1
  replace h := h.2
  have i6 := h.1
  replace h := h.2
  refine r_iceq (q := 969) (t := 971) DM_law_966 rfl (by decide) ⟨⟨i5, i6⟩, fun cc => ?_, fun cc => ?_⟩
  · replace h := h.1 cc
    exact h
  · replace h := h.2 cc
    refine r_iconst (q := 970) (n := 0) DM_law_969 rfl ?_
    exact r_ret (v := some (.inl 0)) ⟨DM_law_970, Or.inr ⟨rfl, Or.inl rfl⟩⟩ h
set_option maxRecDepth 20000 in
theorem s_law_971 {E : Ex} {μ : Mem} {Q : Option Vl → Mem → Prop} {x3 : Int} (h : Gg E 23 M_law 18 [some (.inr 104), some (.inr 0), some (.inr 83), some (.inl (x3 + 6))] [] μ Q) : Gg E 23 M_law 971 [some (.inr 104), some (.inr 0), some (.inr 83), some (.inl x3)] [] μ Q := by
  refine v_iinc (q := 974) (ls' := [some (.inr 104), some (.inr 0), some (.inr 83), some (.inl (x3 + 6))]) DM_law_971 rfl rfl (by decide) rfl ?_
  refine r_goto (q := 18) DM_law_974 (by decide) ?_
  exact h
section P91
variable {E : Ex} {μ : Mem} {Q : Option Vl → Mem → Prop} {x3 : Int}
theorem lc_164 (hI : Inv μ) (hRo : RoOk E) (hS : ∀ j, inR (eR E 4 j)) (hx : 0 ≤ x3 ∧ x3 + 6 ≤ (eS E : Int)) (h : ∀ μ3 : Mem, Inv μ3 → Gg E 23 M_law 971 [some (.inr 104), some (.inr 0), some (.inr 83), some (.inl x3)] [] μ3 Q) : Gg E 23 M_law 164 [some (.inr 104), some (.inr 0), some (.inr 83), some (.inl x3)] [] μ Q :=
  s_law_164 ⟨by omega, by omega, by omega, Cl.imp (pr_row hI (hS _) (hS _) (hS _)) (fun v μ1 ⟨r, e, ir, k⟩ => ⟨r, e, by omega, by omega, by omega, Cl.imp k (fun w μ3 ⟨e2, hi⟩ => ⟨r, e2, ir, ir, fun _ => h μ3 hi, fun z => absurd rfl z⟩)⟩)⟩
theorem lc_207 (hI : Inv μ) (hRo : RoOk E) (hS : ∀ j, inR (eR E 4 j)) (hx : 0 ≤ x3 ∧ x3 + 6 ≤ (eS E : Int)) (h : ∀ μ3 : Mem, Inv μ3 → Gg E 23 M_law 971 [some (.inr 104), some (.inr 0), some (.inr 83), some (.inl x3)] [] μ3 Q) : Gg E 23 M_law 207 [some (.inr 104), some (.inr 0), some (.inr 83), some (.inl x3)] [] μ Q :=
  s_law_207 ⟨by omega, by omega, by omega, Cl.imp (pr_set hI (hS _) (hS _) (hS _)) (fun v μ1 ⟨r, e, ir, k⟩ => ⟨r, e, by omega, by omega, by omega, Cl.imp k (fun w μ3 ⟨e2, hi⟩ => ⟨r, e2, ir, ir, fun _ => h μ3 hi, fun z => absurd rfl z⟩)⟩)⟩
theorem lc_250 (hI : Inv μ) (hRo : RoOk E) (hS : ∀ j, inR (eR E 4 j)) (hx : 0 ≤ x3 ∧ x3 + 6 ≤ (eS E : Int)) (h : ∀ μ3 : Mem, Inv μ3 → Gg E 23 M_law 971 [some (.inr 104), some (.inr 0), some (.inr 83), some (.inl x3)] [] μ3 Q) : Gg E 23 M_law 250 [some (.inr 104), some (.inr 0), some (.inr 83), some (.inl x3)] [] μ Q :=
  s_law_250 ⟨by omega, by omega, by omega, by omega, by omega, Cl.imp (pr_copy hI (hS _) (hS _) (hS _) (hS _) (hS _)) (fun v μ1 ⟨r, e, ir, k⟩ => ⟨r, e, by omega, by omega, by omega, by omega, by omega, Cl.imp k (fun w μ3 ⟨e2, hi⟩ => ⟨r, e2, ir, ir, fun _ => h μ3 hi, fun z => absurd rfl z⟩)⟩)⟩
theorem lc_313 (hI : Inv μ) (hRo : RoOk E) (hS : ∀ j, inR (eR E 4 j)) (hx : 0 ≤ x3 ∧ x3 + 6 ≤ (eS E : Int)) (h : ∀ μ3 : Mem, Inv μ3 → Gg E 23 M_law 971 [some (.inr 104), some (.inr 0), some (.inr 83), some (.inl x3)] [] μ3 Q) : Gg E 23 M_law 313 [some (.inr 104), some (.inr 0), some (.inr 83), some (.inl x3)] [] μ Q :=
  s_law_313 ⟨by omega, Cl.imp (pr_drop hI (hS _)) (fun v μ1 ⟨r, e, ir, k⟩ => ⟨r, e, by omega, Cl.imp k (fun w μ3 ⟨e2, hi⟩ => ⟨r, e2, ir, ir, fun _ => h μ3 hi, fun z => absurd rfl z⟩)⟩)⟩
theorem lc_336 (hI : Inv μ) (hRo : RoOk E) (hS : ∀ j, inR (eR E 4 j)) (hx : 0 ≤ x3 ∧ x3 + 6 ≤ (eS E : Int)) (h : ∀ μ3 : Mem, Inv μ3 → Gg E 23 M_law 971 [some (.inr 104), some (.inr 0), some (.inr 83), some (.inl x3)] [] μ3 Q) : Gg E 23 M_law 336 [some (.inr 104), some (.inr 0), some (.inr 83), some (.inl x3)] [] μ Q :=
  s_law_336 ⟨by omega, Cl.imp (pr_feed hI (hS _)) (fun v μ1 ⟨r, e, ir, k⟩ => ⟨r, e, by omega, Cl.imp k (fun w μ3 ⟨e2, hi⟩ => ⟨r, e2, ir, ir, fun _ => h μ3 hi, fun z => absurd rfl z⟩)⟩)⟩
theorem lc_359 (hI : Inv μ) (hRo : RoOk E) (hS : ∀ j, inR (eR E 4 j)) (hx : 0 ≤ x3 ∧ x3 + 6 ≤ (eS E : Int)) (h : ∀ μ3 : Mem, Inv μ3 → Gg E 23 M_law 971 [some (.inr 104), some (.inr 0), some (.inr 83), some (.inl x3)] [] μ3 Q) : Gg E 23 M_law 359 [some (.inr 104), some (.inr 0), some (.inr 83), some (.inl x3)] [] μ Q :=
  s_law_359 (Cl.imp (pr_court hI) (fun v μ1 ⟨r, e, ir, k⟩ => ⟨r, e, Cl.imp k (fun w μ3 ⟨e2, hi⟩ => ⟨r, e2, ir, ir, fun _ => h μ3 hi, fun z => absurd rfl z⟩)⟩))
theorem lc_372 (hI : Inv μ) (hRo : RoOk E) (hS : ∀ j, inR (eR E 4 j)) (hx : 0 ≤ x3 ∧ x3 + 6 ≤ (eS E : Int)) (h : ∀ μ3 : Mem, Inv μ3 → Gg E 23 M_law 971 [some (.inr 104), some (.inr 0), some (.inr 83), some (.inl x3)] [] μ3 Q) : Gg E 23 M_law 372 [some (.inr 104), some (.inr 0), some (.inr 83), some (.inl x3)] [] μ Q :=
  s_law_372 (Cl.imp (pr_fault hI) (fun v μ1 ⟨r, e, ir, k⟩ => ⟨r, e, Cl.imp k (fun w μ3 ⟨e2, hi⟩ => ⟨r, e2, ir, ir, fun _ => h μ3 hi, fun z => absurd rfl z⟩)⟩))
theorem lc_385 (hI : Inv μ) (hRo : RoOk E) (hS : ∀ j, inR (eR E 4 j)) (hx : 0 ≤ x3 ∧ x3 + 6 ≤ (eS E : Int)) (h : ∀ μ3 : Mem, Inv μ3 → Gg E 23 M_law 971 [some (.inr 104), some (.inr 0), some (.inr 83), some (.inl x3)] [] μ3 Q) : Gg E 23 M_law 385 [some (.inr 104), some (.inr 0), some (.inr 83), some (.inl x3)] [] μ Q :=
  s_law_385 ⟨by omega, Cl.imp (pr_days hI hRo (hS _)) (fun v μ1 ⟨r, e, ir, k⟩ => ⟨r, e, by omega, Cl.imp k (fun w μ3 ⟨e2, hi⟩ => ⟨r, e2, ir, ir, fun _ => h μ3 hi, fun z => absurd rfl z⟩)⟩)⟩
theorem lc_408 (hI : Inv μ) (hRo : RoOk E) (hS : ∀ j, inR (eR E 4 j)) (hx : 0 ≤ x3 ∧ x3 + 6 ≤ (eS E : Int)) (h : ∀ μ3 : Mem, Inv μ3 → Gg E 23 M_law 971 [some (.inr 104), some (.inr 0), some (.inr 83), some (.inl x3)] [] μ3 Q) : Gg E 23 M_law 408 [some (.inr 104), some (.inr 0), some (.inr 83), some (.inl x3)] [] μ Q :=
  s_law_408 ⟨by omega, by omega, by omega, Cl.imp (pr_forge hI (hS _) (hS _) (hS _)) (fun v μ1 ⟨r, e, ir, k⟩ => ⟨r, e, by omega, by omega, by omega, Cl.imp k (fun w μ3 ⟨e2, hi⟩ => ⟨r, e2, ir, ir, fun _ => h μ3 hi, fun z => absurd rfl z⟩)⟩)⟩
theorem lc_451 (hI : Inv μ) (hRo : RoOk E) (hS : ∀ j, inR (eR E 4 j)) (hx : 0 ≤ x3 ∧ x3 + 6 ≤ (eS E : Int)) (h : ∀ μ3 : Mem, Inv μ3 → Gg E 23 M_law 971 [some (.inr 104), some (.inr 0), some (.inr 83), some (.inl x3)] [] μ3 Q) : Gg E 23 M_law 451 [some (.inr 104), some (.inr 0), some (.inr 83), some (.inl x3)] [] μ Q :=
  s_law_451 ⟨by omega, by omega, Cl.imp (pr_lose hI (hS _) (hS _)) (fun v μ1 ⟨r, e, ir, k⟩ => ⟨r, e, by omega, by omega, Cl.imp k (fun w μ3 ⟨e2, hi⟩ => ⟨r, e2, ir, ir, fun _ => h μ3 hi, fun z => absurd rfl z⟩)⟩)⟩
theorem lc_484 (hI : Inv μ) (hRo : RoOk E) (hS : ∀ j, inR (eR E 4 j)) (hx : 0 ≤ x3 ∧ x3 + 6 ≤ (eS E : Int)) (h : ∀ μ3 : Mem, Inv μ3 → Gg E 23 M_law 971 [some (.inr 104), some (.inr 0), some (.inr 83), some (.inl x3)] [] μ3 Q) : Gg E 23 M_law 484 [some (.inr 104), some (.inr 0), some (.inr 83), some (.inl x3)] [] μ Q :=
  s_law_484 (Cl.imp (pr_undo hI) (fun v μ1 ⟨r, e, ir, k⟩ => ⟨r, e, Cl.imp k (fun w μ3 ⟨e2, hi⟩ => ⟨r, e2, ir, ir, fun _ => h μ3 hi, fun z => absurd rfl z⟩)⟩))
theorem lc_497 (hI : Inv μ) (hRo : RoOk E) (hS : ∀ j, inR (eR E 4 j)) (hx : 0 ≤ x3 ∧ x3 + 6 ≤ (eS E : Int)) (h : ∀ μ3 : Mem, Inv μ3 → Gg E 23 M_law 971 [some (.inr 104), some (.inr 0), some (.inr 83), some (.inl x3)] [] μ3 Q) : Gg E 23 M_law 497 [some (.inr 104), some (.inr 0), some (.inr 83), some (.inl x3)] [] μ Q :=
  s_law_497 ⟨by omega, by omega, Cl.imp (pr_person hI hRo (hS _) (hS _)) (fun v μ1 ⟨r, e, ir, k⟩ => ⟨r, e, by omega, by omega, Cl.imp k (fun w μ3 ⟨e2, hi⟩ => ⟨r, e2, ir, ir, fun _ => h μ3 hi, fun z => absurd rfl z⟩)⟩)⟩
theorem lc_530 (hI : Inv μ) (hRo : RoOk E) (hS : ∀ j, inR (eR E 4 j)) (hx : 0 ≤ x3 ∧ x3 + 6 ≤ (eS E : Int)) (h : ∀ μ3 : Mem, Inv μ3 → Gg E 23 M_law 971 [some (.inr 104), some (.inr 0), some (.inr 83), some (.inl x3)] [] μ3 Q) : Gg E 23 M_law 530 [some (.inr 104), some (.inr 0), some (.inr 83), some (.inl x3)] [] μ Q :=
  s_law_530 ⟨by omega, by omega, Cl.imp (pr_name hI (hS _) (hS _)) (fun v μ1 ⟨r, e, ir, k⟩ => ⟨r, e, by omega, by omega, Cl.imp k (fun w μ3 ⟨e2, hi⟩ => ⟨r, e2, ir, ir, fun _ => h μ3 hi, fun z => absurd rfl z⟩)⟩)⟩
theorem lc_563 (hI : Inv μ) (hRo : RoOk E) (hS : ∀ j, inR (eR E 4 j)) (hx : 0 ≤ x3 ∧ x3 + 6 ≤ (eS E : Int)) (h : ∀ μ3 : Mem, Inv μ3 → Gg E 23 M_law 971 [some (.inr 104), some (.inr 0), some (.inr 83), some (.inl x3)] [] μ3 Q) : Gg E 23 M_law 563 [some (.inr 104), some (.inr 0), some (.inr 83), some (.inl x3)] [] μ Q :=
  s_law_563 ⟨by omega, Cl.imp (pr_order hI (hS _)) (fun v μ1 ⟨r, e, ir, k⟩ => ⟨r, e, by omega, Cl.imp k (fun w μ3 ⟨e2, hi⟩ => ⟨r, e2, ir, ir, fun _ => h μ3 hi, fun z => absurd rfl z⟩)⟩)⟩
theorem lc_586 (hI : Inv μ) (hRo : RoOk E) (hS : ∀ j, inR (eR E 4 j)) (hx : 0 ≤ x3 ∧ x3 + 6 ≤ (eS E : Int)) (h : ∀ μ3 : Mem, Inv μ3 → Gg E 23 M_law 971 [some (.inr 104), some (.inr 0), some (.inr 83), some (.inl x3)] [] μ3 Q) : Gg E 23 M_law 586 [some (.inr 104), some (.inr 0), some (.inr 83), some (.inl x3)] [] μ Q :=
  s_law_586 ⟨by omega, by omega, Cl.imp (pr_when hI hRo (hS _) (hS _)) (fun v μ1 ⟨r, e, ir, k⟩ => ⟨r, e, by omega, by omega, Cl.imp k (fun w μ3 ⟨e2, hi⟩ => ⟨r, e2, ir, ir, fun _ => h μ3 hi, fun z => absurd rfl z⟩)⟩)⟩
theorem lc_619 (hI : Inv μ) (hRo : RoOk E) (hS : ∀ j, inR (eR E 4 j)) (hx : 0 ≤ x3 ∧ x3 + 6 ≤ (eS E : Int)) (h : ∀ μ3 : Mem, Inv μ3 → Gg E 23 M_law 971 [some (.inr 104), some (.inr 0), some (.inr 83), some (.inl x3)] [] μ3 Q) : Gg E 23 M_law 619 [some (.inr 104), some (.inr 0), some (.inr 83), some (.inl x3)] [] μ Q :=
  s_law_619 (Cl.imp (pr_waited hI hRo) (fun v μ1 ⟨r, e, ir, k⟩ => ⟨r, e, Cl.imp k (fun w μ3 ⟨e2, hi⟩ => ⟨r, e2, ir, ir, fun _ => h μ3 hi, fun z => absurd rfl z⟩)⟩))
theorem lc_632 (hI : Inv μ) (hRo : RoOk E) (hS : ∀ j, inR (eR E 4 j)) (hx : 0 ≤ x3 ∧ x3 + 6 ≤ (eS E : Int)) (h : ∀ μ3 : Mem, Inv μ3 → Gg E 23 M_law 971 [some (.inr 104), some (.inr 0), some (.inr 83), some (.inl x3)] [] μ3 Q) : Gg E 23 M_law 632 [some (.inr 104), some (.inr 0), some (.inr 83), some (.inl x3)] [] μ Q :=
  s_law_632 ⟨by omega, by omega, Cl.imp (pr_last hI hRo (hS _) (hS _)) (fun v μ1 ⟨r, e, ir, k⟩ => ⟨r, e, by omega, by omega, Cl.imp k (fun w μ3 ⟨e2, hi⟩ => ⟨r, e2, ir, ir, fun _ => h μ3 hi, fun z => absurd rfl z⟩)⟩)⟩
theorem lc_665 (hI : Inv μ) (hRo : RoOk E) (hS : ∀ j, inR (eR E 4 j)) (hx : 0 ≤ x3 ∧ x3 + 6 ≤ (eS E : Int)) (h : ∀ μ3 : Mem, Inv μ3 → Gg E 23 M_law 971 [some (.inr 104), some (.inr 0), some (.inr 83), some (.inl x3)] [] μ3 Q) : Gg E 23 M_law 665 [some (.inr 104), some (.inr 0), some (.inr 83), some (.inl x3)] [] μ Q :=
  s_law_665 ⟨by omega, Cl.imp (pr_best hI hRo (hS _)) (fun v μ1 ⟨r, e, ir, k⟩ => ⟨r, e, by omega, Cl.imp k (fun w μ3 ⟨e2, hi⟩ => ⟨r, e2, ir, ir, fun _ => h μ3 hi, fun z => absurd rfl z⟩)⟩)⟩
theorem lc_688 (hI : Inv μ) (hRo : RoOk E) (hS : ∀ j, inR (eR E 4 j)) (hx : 0 ≤ x3 ∧ x3 + 6 ≤ (eS E : Int)) (h : ∀ μ3 : Mem, Inv μ3 → Gg E 23 M_law 971 [some (.inr 104), some (.inr 0), some (.inr 83), some (.inl x3)] [] μ3 Q) : Gg E 23 M_law 688 [some (.inr 104), some (.inr 0), some (.inr 83), some (.inl x3)] [] μ Q :=
  s_law_688 ⟨by omega, Cl.imp (pr_warden hI hRo (hS _)) (fun v μ1 ⟨r, e, ir, k⟩ => ⟨r, e, by omega, Cl.imp k (fun w μ3 ⟨e2, hi⟩ => ⟨r, e2, ir, ir, fun _ => h μ3 hi, fun z => absurd rfl z⟩)⟩)⟩
theorem lc_711 (hI : Inv μ) (hRo : RoOk E) (hS : ∀ j, inR (eR E 4 j)) (hx : 0 ≤ x3 ∧ x3 + 6 ≤ (eS E : Int)) (h : ∀ μ3 : Mem, Inv μ3 → Gg E 23 M_law 971 [some (.inr 104), some (.inr 0), some (.inr 83), some (.inl x3)] [] μ3 Q) : Gg E 23 M_law 711 [some (.inr 104), some (.inr 0), some (.inr 83), some (.inl x3)] [] μ Q :=
  s_law_711 ⟨by omega, Cl.imp (pr_frees hI (hS _)) (fun v μ1 ⟨r, e, ir, k⟩ => ⟨r, e, by omega, Cl.imp k (fun w μ3 ⟨e2, hi⟩ => ⟨r, e2, ir, ir, fun _ => h μ3 hi, fun z => absurd rfl z⟩)⟩)⟩
theorem lc_734 (hI : Inv μ) (hRo : RoOk E) (hS : ∀ j, inR (eR E 4 j)) (hx : 0 ≤ x3 ∧ x3 + 6 ≤ (eS E : Int)) (h : ∀ μ3 : Mem, Inv μ3 → Gg E 23 M_law 971 [some (.inr 104), some (.inr 0), some (.inr 83), some (.inl x3)] [] μ3 Q) : Gg E 23 M_law 734 [some (.inr 104), some (.inr 0), some (.inr 83), some (.inl x3)] [] μ Q :=
  s_law_734 ⟨by omega, by omega, by omega, Cl.imp (pr_ledger hI hRo (hS _) (hS _) (hS _)) (fun v μ1 ⟨r, e, ir, k⟩ => ⟨r, e, by omega, by omega, by omega, Cl.imp k (fun w μ3 ⟨e2, hi⟩ => ⟨r, e2, ir, ir, fun _ => h μ3 hi, fun z => absurd rfl z⟩)⟩)⟩
theorem lc_777 (hI : Inv μ) (hRo : RoOk E) (hS : ∀ j, inR (eR E 4 j)) (hx : 0 ≤ x3 ∧ x3 + 6 ≤ (eS E : Int)) (h : ∀ μ3 : Mem, Inv μ3 → Gg E 23 M_law 971 [some (.inr 104), some (.inr 0), some (.inr 83), some (.inl x3)] [] μ3 Q) : Gg E 23 M_law 777 [some (.inr 104), some (.inr 0), some (.inr 83), some (.inl x3)] [] μ Q :=
  s_law_777 ⟨by omega, Cl.imp (pr_image hI (hS _)) (fun v μ1 ⟨r, e, ir, k⟩ => ⟨r, e, by omega, Cl.imp k (fun w μ3 ⟨e2, hi⟩ => ⟨r, e2, ir, ir, fun _ => h μ3 hi, fun z => absurd rfl z⟩)⟩)⟩
theorem lc_800 (hI : Inv μ) (hRo : RoOk E) (hS : ∀ j, inR (eR E 4 j)) (hx : 0 ≤ x3 ∧ x3 + 6 ≤ (eS E : Int)) (h : ∀ μ3 : Mem, Inv μ3 → Gg E 23 M_law 971 [some (.inr 104), some (.inr 0), some (.inr 83), some (.inl x3)] [] μ3 Q) : Gg E 23 M_law 800 [some (.inr 104), some (.inr 0), some (.inr 83), some (.inl x3)] [] μ Q :=
  s_law_800 ⟨by omega, Cl.imp (pr_restore hI (hS _)) (fun v μ1 ⟨r, e, ir, k⟩ => ⟨r, e, by omega, Cl.imp k (fun w μ3 ⟨e2, hi⟩ => ⟨r, e2, ir, ir, fun _ => h μ3 hi, fun z => absurd rfl z⟩)⟩)⟩
theorem lc_823 (hI : Inv μ) (hRo : RoOk E) (hS : ∀ j, inR (eR E 4 j)) (hx : 0 ≤ x3 ∧ x3 + 6 ≤ (eS E : Int)) (h : ∀ μ3 : Mem, Inv μ3 → Gg E 23 M_law 971 [some (.inr 104), some (.inr 0), some (.inr 83), some (.inl x3)] [] μ3 Q) : Gg E 23 M_law 823 [some (.inr 104), some (.inr 0), some (.inr 83), some (.inl x3)] [] μ Q :=
  s_law_823 ⟨by omega, Cl.imp (pr_kind hI (hS _)) (fun v μ1 ⟨r, e, ir, k⟩ => ⟨r, e, by omega, Cl.imp k (fun w μ3 ⟨e2, hi⟩ => ⟨r, e2, ir, ir, fun _ => h μ3 hi, fun z => absurd rfl z⟩)⟩)⟩
theorem lc_846 (hI : Inv μ) (hRo : RoOk E) (hS : ∀ j, inR (eR E 4 j)) (hx : 0 ≤ x3 ∧ x3 + 6 ≤ (eS E : Int)) (h : ∀ μ3 : Mem, Inv μ3 → Gg E 23 M_law 971 [some (.inr 104), some (.inr 0), some (.inr 83), some (.inl x3)] [] μ3 Q) : Gg E 23 M_law 846 [some (.inr 104), some (.inr 0), some (.inr 83), some (.inl x3)] [] μ Q :=
  s_law_846 ⟨by omega, by omega, Cl.imp (pr_as hI hRo (hS _) (hS _)) (fun v μ1 ⟨r, e, ir, k⟩ => ⟨r, e, by omega, by omega, Cl.imp k (fun w μ3 ⟨e2, hi⟩ => ⟨r, e2, ir, ir, fun _ => h μ3 hi, fun z => absurd rfl z⟩)⟩)⟩
theorem lc_879 (hI : Inv μ) (hRo : RoOk E) (hS : ∀ j, inR (eR E 4 j)) (hx : 0 ≤ x3 ∧ x3 + 6 ≤ (eS E : Int)) (h : ∀ μ3 : Mem, Inv μ3 → Gg E 23 M_law 971 [some (.inr 104), some (.inr 0), some (.inr 83), some (.inl x3)] [] μ3 Q) : Gg E 23 M_law 879 [some (.inr 104), some (.inr 0), some (.inr 83), some (.inl x3)] [] μ Q :=
  s_law_879 ⟨by omega, by omega, Cl.imp (pr_ask hI hRo (hS _) (hS _)) (fun v μ1 ⟨r, e, ir, k⟩ => ⟨r, e, by omega, by omega, Cl.imp k (fun w μ3 ⟨e2, hi⟩ => ⟨r, e2, ir, ir, fun _ => h μ3 hi, fun z => absurd rfl z⟩)⟩)⟩
theorem lc_912 (hI : Inv μ) (hRo : RoOk E) (hS : ∀ j, inR (eR E 4 j)) (hx : 0 ≤ x3 ∧ x3 + 6 ≤ (eS E : Int)) (h : ∀ μ3 : Mem, Inv μ3 → Gg E 23 M_law 971 [some (.inr 104), some (.inr 0), some (.inr 83), some (.inl x3)] [] μ3 Q) : Gg E 23 M_law 912 [some (.inr 104), some (.inr 0), some (.inr 83), some (.inl x3)] [] μ Q :=
  s_law_912 ⟨by omega, Cl.imp (pr_trace hI (hS _)) (fun v μ1 ⟨r, e, ir, k⟩ => ⟨r, e, by omega, Cl.imp k (fun w μ3 ⟨e2, hi⟩ => ⟨r, e2, ir, ir, fun _ => h μ3 hi, fun z => absurd rfl z⟩)⟩)⟩
theorem lc_935 (hI : Inv μ) (hRo : RoOk E) (hS : ∀ j, inR (eR E 4 j)) (hx : 0 ≤ x3 ∧ x3 + 6 ≤ (eS E : Int)) (h : ∀ μ3 : Mem, Inv μ3 → Gg E 23 M_law 971 [some (.inr 104), some (.inr 0), some (.inr 83), some (.inl x3)] [] μ3 Q) : Gg E 23 M_law 935 [some (.inr 104), some (.inr 0), some (.inr 83), some (.inl x3)] [] μ Q :=
  s_law_935 ⟨by omega, Cl.imp (pr_count hI (hS _)) (fun v μ1 ⟨r, e, ir, k⟩ => ⟨r, e, by omega, Cl.imp k (fun w μ3 ⟨e2, hi⟩ => ⟨r, e2, ir, ir, fun _ => h μ3 hi, fun z => absurd rfl z⟩)⟩)⟩
theorem lc_958 (hI : Inv μ) (hRo : RoOk E) (hS : ∀ j, inR (eR E 4 j)) (hx : 0 ≤ x3 ∧ x3 + 6 ≤ (eS E : Int)) (h : ∀ μ3 : Mem, Inv μ3 → Gg E 23 M_law 971 [some (.inr 104), some (.inr 0), some (.inr 83), some (.inl x3)] [] μ3 Q) : Gg E 23 M_law 958 [some (.inr 104), some (.inr 0), some (.inr 83), some (.inl x3)] [] μ Q :=
  s_law_958 (Cl.imp (pr_status hI) (fun v μ1 ⟨r, e, ir, k⟩ => ⟨r, e, Cl.imp k (fun w μ3 ⟨e2, hi⟩ => ⟨r, e2, ir, ir, fun _ => h μ3 hi, fun z => absurd rfl z⟩)⟩))
theorem lw_loop (hRo : RoOk E) (hS : ∀ j, inR (eR E 4 j)) (hL : eS E ≤ 384) (h : ∀ μ1 : Mem, Q (some (.inl (bi true))) μ1) : ∀ (r : Nat) (i : Int), 0 ≤ i → (eS E : Int) - i < 6 * r → i ≤ 390 → ∀ μ : Mem, Inv μ → Gg E 23 M_law 18 [some (.inr 104), some (.inr 0), some (.inr 83), some (.inl i)] [] μ Q := by
  intro r
  induction r with
  | zero =>
    intro i i0 hi i9 μ hI
    exact s_law_18 ⟨by omega, by omega, fun _ => h μ, fun z => absurd (by omega) z⟩
  | succ r ih =>
    intro i i0 hi i9 μ hI
    have nx : 0 ≤ i ∧ i + 6 ≤ (eS E : Int) → ∀ μ3 : Mem, Inv μ3 → Gg E 23 M_law 971 [some (.inr 104), some (.inr 0), some (.inr 83), some (.inl i)] [] μ3 Q := fun hx μ3 h3 => s_law_971 (ih (i + 6) (by omega) (by omega) (by omega) μ3 h3)
    refine s_law_18 ⟨by omega, by omega, fun _ => h μ, fun z => ?_⟩
    have hx : 0 ≤ i ∧ i + 6 ≤ (eS E : Int) := by omega
    refine ⟨by omega, inR_of _, fun _ => nx hx μ hI, fun _ => lc_164 hI hRo hS hx (nx hx), fun _ => lc_207 hI hRo hS hx (nx hx), fun _ => lc_250 hI hRo hS hx (nx hx), fun _ => lc_313 hI hRo hS hx (nx hx), fun _ => lc_336 hI hRo hS hx (nx hx), fun _ => lc_359 hI hRo hS hx (nx hx), fun _ => lc_372 hI hRo hS hx (nx hx), fun _ => lc_385 hI hRo hS hx (nx hx), fun _ => lc_408 hI hRo hS hx (nx hx), fun _ => lc_451 hI hRo hS hx (nx hx), fun _ => lc_484 hI hRo hS hx (nx hx), fun _ => lc_497 hI hRo hS hx (nx hx), fun _ => lc_530 hI hRo hS hx (nx hx), fun _ => lc_563 hI hRo hS hx (nx hx), fun _ => lc_586 hI hRo hS hx (nx hx), fun _ => lc_619 hI hRo hS hx (nx hx), fun _ => lc_632 hI hRo hS hx (nx hx), fun _ => lc_665 hI hRo hS hx (nx hx), fun _ => lc_688 hI hRo hS hx (nx hx), fun _ => lc_711 hI hRo hS hx (nx hx), fun _ => lc_734 hI hRo hS hx (nx hx), fun _ => lc_777 hI hRo hS hx (nx hx), fun _ => lc_800 hI hRo hS hx (nx hx), fun _ => lc_823 hI hRo hS hx (nx hx), fun _ => lc_846 hI hRo hS hx (nx hx), fun _ => lc_879 hI hRo hS hx (nx hx), fun _ => lc_912 hI hRo hS hx (nx hx), fun _ => lc_935 hI hRo hS hx (nx hx), fun _ => lc_958 hI hRo hS hx (nx hx), trivial⟩
end P91
