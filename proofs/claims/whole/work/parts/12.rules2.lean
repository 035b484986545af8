/-! Fields, arrays, tables, switches, calls, ends. -/
/-- entry idx of the class own is field j of class number ci -/
def Fk (own : String) (idx ci j : Nat) : Prop := ∃ (C : String) (T : u_T) (N : Nat), vwCl[ci]? = some (C, T, N) ∧ j < N ∧ (∀ w ∈ u_ws C T N, w ∈ TB) ∧ Cond.fieldLink own idx (T j).1 (T j).2.1 (T j).2.2.1 ∈ TB
def Fp (own : String) (idx ci j : Nat) (ty : FieldType) : Prop := ∃ (C : String) (T : u_T) (N : Nat) (ty0 : Nat → FieldType), vwCl[ci]? = some (C, T, N) ∧ j < N ∧ (∀ w ∈ u_ws C T N, w ∈ TB) ∧ Cond.fieldLink own idx (T j).1 (T j).2.1 (T j).2.2.1 ∈ TB ∧ (∀ k, k < N → parseFieldDescriptor (T k).2.2.1 = some (ty0 k)) ∧ (∀ a, a < N → ∀ b, b < N → a ≠ b → (T a).2.1 ≠ (T b).2.1) ∧ (T j).2.2.2 = false ∧ parseFieldDescriptor (T j).2.2.1 = some ty
theorem ent_obj {E : Ex} {μ : Mem} {k ci n : Nat} {rs : List Nat} (h : shp k = (ci + 4, n, rs)) : ent E μ k = .inr (ci, fl E μ k 0 rs) := by
  unfold ent; rw [h]
theorem ent_int {E : Ex} {μ : Mem} {k n : Nat} {rs : List Nat} (h : shp k = (0, n, rs)) : ent E μ k = .inl (eK E 0, n, .inl (fun j => Int32.ofInt (μ k (j : Nat)))) := by
  unfold ent; rw [h]
theorem ent_bool {E : Ex} {μ : Mem} {k n : Nat} {rs : List Nat} (h : shp k = (1, n, rs)) : ent E μ k = .inl (eK E 1, n, .inl (fun j => Int32.ofInt (μ k (j : Nat)))) := by
  unfold ent; rw [h]
theorem ent_row {E : Ex} {μ : Mem} {k n : Nat} {rs : List Nat} (h : shp k = (2, n, rs)) : ent E μ k = .inl (eK E 2, n, .inr (.inr (.inr (.inr (fun j => (rs[j]?).map (eA E)))))) := by
  unfold ent; rw [h]
theorem ent_court {E : Ex} {μ : Mem} {k n : Nat} {rs : List Nat} (h : shp k = (3, n, rs)) : ent E μ k = .inl (eK E 3, n, .inr (.inr (.inr (.inr (fun j => (rs[j]?).map (eA E)))))) := by
  unfold ent; rw [h]
theorem ofI_nat {i : Int} (h : 0 ≤ i) : ((i.toNat : Nat) : Int) = i := Int.toNat_of_nonneg h
section Rules2
variable {E : Ex} {d : Nat} {y : Mth} {pc q : Nat} {ls : List (Option Vl)} {st : List Vl} {μ : Mem} {Q : Option Vl → Mem → Prop}
theorem r_getI {idx k ci j n : Nat} {rs : List Nat} (hd : decode (mC y) pc = .ok (.getfield idx, 3)) (hq : pc + 3 = q) (hf : Fk (mO y) idx ci j) (hs : shp k = (ci + 4, n, rs)) (hj : rs[j]? = some 0) (kk : Gg E d y q ls (.inl (μ k j) :: st) μ Q) : Gg E d y pc ls (.inr k :: st) μ Q := by
  intro p e R s m args below meth c H locs cells slots lsA QQ C hP hS hl hr
  obtain ⟨hE, hx, hb, hml, hown, hts, hR, hc, hSt⟩ := id C
  subst hq
  have hk := shp_lt hs (Or.inl (by omega))
  obtain ⟨CC, T, N, hcl, hjN, hin, hlk⟩ := hf
  have := kk p e R s m args below meth c H locs cells slots lsA QQ C hP hS hl hr
  refine va_get (ci := ci) (v := .int (Int32.ofInt (μ k j))) hx hb hts hin hown hSt.1 hP k ((wl_at hk).trans (by rw [ent_obj hs])) hcl j hjN (hts _ hlk) (fun _ h => h) ?_ hd this
  rw [fl_at rs 0 j 0 hj, if_pos rfl, Nat.zero_add]
theorem r_getR {idx k ci j n r : Nat} {rs : List Nat} (hd : decode (mC y) pc = .ok (.getfield idx, 3)) (hq : pc + 3 = q) (hf : Fk (mO y) idx ci j) (hs : shp k = (ci + 4, n, rs)) (hj : rs[j]? = some (r + 1)) (kk : Gg E d y q ls (.inr r :: st) μ Q) : Gg E d y pc ls (.inr k :: st) μ Q := by
  intro p e R s m args below meth c H locs cells slots lsA QQ C hP hS hl hr
  obtain ⟨hE, hx, hb, hml, hown, hts, hR, hc, hSt⟩ := id C
  subst hq
  have hk := shp_lt hs (Or.inl (by omega))
  obtain ⟨CC, T, N, hcl, hjN, hin, hlk⟩ := hf
  have := kk p e R s m args below meth c H locs cells slots lsA QQ C hP hS hl hr
  refine va_get (ci := ci) (v := .ref (eA E r)) hx hb hts hin hown hSt.1 hP k ((wl_at hk).trans (by rw [ent_obj hs])) hcl j hjN (hts _ hlk) (fun _ h => h) ?_ hd this
  rw [fl_at rs 0 j (r + 1) hj, if_neg (by omega), Nat.add_sub_cancel]
theorem nar_ok {ty : FieldType} {x : Int} (h : ty = .int ∨ (ty = .boolean ∧ (x = 0 ∨ x = 1))) : narrow ty (.int (Int32.ofInt x)) = .int (Int32.ofInt x) ∧ fits ty (.int (Int32.ofInt x)) = true := by
  rcases h with rfl | ⟨rfl, rfl | rfl⟩
  · exact ⟨vp_nar_int _, rfl⟩
  · exact ⟨by decide +kernel, by decide +kernel⟩
  · exact ⟨by decide +kernel, by decide +kernel⟩
theorem r_put {idx k ci j n : Nat} {rs : List Nat} {ty : FieldType} {x : Int} (hd : decode (mC y) pc = .ok (.putfield idx, 3)) (hq : pc + 3 = q) (hf : Fp (mO y) idx ci j ty) (hs : shp k = (ci + 4, n, rs)) (hj : rs[j]? = some 0) (hv : ty = .int ∨ (ty = .boolean ∧ (x = 0 ∨ x = 1))) (kk : Gg E d y q ls st (up μ k j x) Q) : Gg E d y pc ls (.inl x :: .inr k :: st) μ Q := by
  intro p e R s m args below meth c H locs cells slots lsA QQ C hP hS hl hr
  obtain ⟨hE, hx, hb, hml, hown, hts, hR, hc, hSt⟩ := id C
  subst hq
  have hk := shp_lt hs (Or.inl (by omega))
  obtain ⟨CC, T, N, ty0, hcl, hjN, hin, hlk, hty, hnm, hfin, hpt⟩ := hf
  obtain ⟨hn1, hn2⟩ := nar_ok hv
  refine va_put (ci := ci) (v := .int (Int32.ofInt x)) hx hb hts hin ty0 hty hnm hown hSt.1 hP (wl_D hE) hS k ((wl_at hk).trans (by rw [ent_obj hs])) hcl j hjN (hts _ hlk) (fun _ h => h) hfin hpt hn1 hn2 (by rw [fl_len]; exact (List.getElem?_eq_some_iff.mp hj).1) hd (fun H1 locs1 hP1 hD1 hS1 => ?_)
  refine kk p e R s m args below meth c H1 locs1 cells slots lsA QQ C ?_ hS1 hl hr
  rw [wl_set (i := (j : Int)) (v := x) hk (by rw [ent_obj hs, fl_set rs 0 j hj, Nat.zero_add])] at hP1
  exact hP1
theorem r_iald {k n : Nat} {rs : List Nat} {i : Int} (hd : decode (mC y) pc = .ok (.iaload, 1)) (hq : pc + 1 = q) (hs : shp k = (0, n, rs)) (hn : n < 2147483648) (h : (0 ≤ i ∧ i < n) ∧ Gg E d y q ls (.inl (μ k i) :: st) μ Q) : Gg E d y pc ls (.inl i :: .inr k :: st) μ Q := by
  intro p e R s m args below meth c H locs cells slots lsA QQ C hP hS hl hr
  obtain ⟨hE, hx, hb, hml, hown, hts, hR, hc, hSt⟩ := id C
  subst hq
  obtain ⟨⟨h1, h2⟩, kk⟩ := h
  have hk := shp_lt hs (Or.inr (by omega))
  have := kk p e R s m args below meth c H locs cells slots lsA QQ C hP hS hl hr
  refine va_iald (cA := eK E 0) (n := n) (f := fun j => Int32.ofInt (μ k (j : Nat))) hx hb hSt.1 hP k 0 ((wl_at hk).trans (by rw [ent_int hs])) rfl (inR_vp hn h1 h2) hd ?_
  show W p (eLn E) e R s m args below meth c H locs cells slots QQ (F0 m (pc + 1) lsA (.int (Int32.ofInt (μ k (((Int32.ofInt i).toNatClampNeg : Nat) : Int))) :: st.map (tv E)))
  rw [inR_clamp (by unfold inR; omega), ofI_nat h1]
  exact this
theorem r_zald {k n : Nat} {rs : List Nat} {i : Int} (hd : decode (mC y) pc = .ok (.baload, 1)) (hq : pc + 1 = q) (hs : shp k = (1, n, rs)) (hn : n < 2147483648) (h : (0 ≤ i ∧ i < n) ∧ Gg E d y q ls (.inl (μ k i) :: st) μ Q) : Gg E d y pc ls (.inl i :: .inr k :: st) μ Q := by
  intro p e R s m args below meth c H locs cells slots lsA QQ C hP hS hl hr
  obtain ⟨hE, hx, hb, hml, hown, hts, hR, hc, hSt⟩ := id C
  subst hq
  obtain ⟨⟨h1, h2⟩, kk⟩ := h
  have hk := shp_lt hs (Or.inr (by omega))
  have := kk p e R s m args below meth c H locs cells slots lsA QQ C hP hS hl hr
  refine va_zald (cA := eK E 1) (n := n) (f := fun j => Int32.ofInt (μ k (j : Nat))) hx hb hSt.1 hP k 1 ((wl_at hk).trans (by rw [ent_bool hs])) rfl (inR_vp hn h1 h2) hd ?_
  show W p (eLn E) e R s m args below meth c H locs cells slots QQ (F0 m (pc + 1) lsA (.int (Int32.ofInt (μ k (((Int32.ofInt i).toNatClampNeg : Nat) : Int))) :: st.map (tv E)))
  rw [inR_clamp (by unfold inR; omega), ofI_nat h1]
  exact this
theorem upd_up {μ : Mem} {k : Nat} {i x : Int} (h1 : 0 ≤ i) (h2 : i < 2147483648) : upd (fun j => Int32.ofInt (μ k (j : Nat))) (Int32.ofInt i).toNatClampNeg (Int32.ofInt x) = fun j => Int32.ofInt (up μ k i x k (j : Nat)) := by
  rw [inR_clamp (by unfold inR; omega)]
  funext j
  unfold upd up
  by_cases hj : j = i.toNat
  · subst hj
    rw [if_pos rfl, ofI_nat h1, if_pos ⟨rfl, rfl⟩]
  · rw [if_neg hj, if_neg]
    rintro ⟨-, h⟩
    omega
theorem r_iast {k n : Nat} {rs : List Nat} {i x : Int} (hd : decode (mC y) pc = .ok (.iastore, 1)) (hq : pc + 1 = q) (hs : shp k = (0, n, rs)) (hn : n < 2147483648) (h : (0 ≤ i ∧ i < n) ∧ Gg E d y q ls st (up μ k i x) Q) : Gg E d y pc ls (.inl x :: .inl i :: .inr k :: st) μ Q := by
  intro p e R s m args below meth c H locs cells slots lsA QQ C hP hS hl hr
  obtain ⟨hE, hx, hb, hml, hown, hts, hR, hc, hSt⟩ := id C
  subst hq
  obtain ⟨⟨h1, h2⟩, kk⟩ := h
  have hk := shp_lt hs (Or.inr (by omega))
  refine va_iast (cA := eK E 0) (n := n) (f := fun j => Int32.ofInt (μ k (j : Nat))) hx hb hSt.1 hP (wl_D hE) hS k 0 ((wl_at hk).trans (by rw [ent_int hs])) rfl (inR_vp hn h1 h2) hd (fun H1 locs1 hP1 hD1 hS1 => ?_)
  refine kk p e R s m args below meth c H1 locs1 cells slots lsA QQ C ?_ hS1 hl hr
  rw [wl_set (i := i) (v := x) hk (by rw [ent_int hs, upd_up h1 (by omega)])] at hP1
  exact hP1
theorem r_zast {k n : Nat} {rs : List Nat} {i x : Int} (hd : decode (mC y) pc = .ok (.bastore, 1)) (hq : pc + 1 = q) (hs : shp k = (1, n, rs)) (hn : n < 2147483648) (hv : x = 0 ∨ x = 1) (h : (0 ≤ i ∧ i < n) ∧ Gg E d y q ls st (up μ k i x) Q) : Gg E d y pc ls (.inl x :: .inl i :: .inr k :: st) μ Q := by
  intro p e R s m args below meth c H locs cells slots lsA QQ C hP hS hl hr
  obtain ⟨hE, hx, hb, hml, hown, hts, hR, hc, hSt⟩ := id C
  subst hq
  obtain ⟨⟨h1, h2⟩, kk⟩ := h
  have hk := shp_lt hs (Or.inr (by omega))
  have hnv : vp_nar .boolean (Int32.ofInt x) = Int32.ofInt x := by rcases hv with rfl | rfl <;> decide +kernel
  refine va_zast (cA := eK E 1) (n := n) (f := fun j => Int32.ofInt (μ k (j : Nat))) hx hb hSt.1 hP (wl_D hE) hS k 1 ((wl_at hk).trans (by rw [ent_bool hs])) rfl (inR_vp hn h1 h2) hd (fun H1 locs1 hP1 hD1 hS1 => ?_)
  refine kk p e R s m args below meth c H1 locs1 cells slots lsA QQ C ?_ hS1 hl hr
  rw [hnv, wl_set (i := i) (v := x) hk (by rw [ent_bool hs, upd_up h1 (by omega)])] at hP1
  exact hP1
theorem r_aaldR {k n r : Nat} {rs : List Nat} {i : Int} (hd : decode (mC y) pc = .ok (.aaload, 1)) (hq : pc + 1 = q) (hs : shp k = (2, n, rs)) (hn : n < 2147483648) (h : ((0 ≤ i ∧ i < n) ∧ rs[i.toNat]? = some r) ∧ Gg E d y q ls (.inr r :: st) μ Q) : Gg E d y pc ls (.inl i :: .inr k :: st) μ Q := by
  intro p e R s m args below meth c H locs cells slots lsA QQ C hP hS hl hr
  obtain ⟨hE, hx, hb, hml, hown, hts, hR, hc, hSt⟩ := id C
  subst hq
  obtain ⟨⟨⟨h1, h2⟩, h3⟩, kk⟩ := h
  have hk := shp_lt hs (Or.inr (by omega))
  have := kk p e R s m args below meth c H locs cells slots lsA QQ C hP hS hl hr
  refine va_aldq (cA := eK E 2) (n := n) (f := fun j => (rs[j]?).map (eA E)) hx hb hSt.1 hP k 2 ((wl_at hk).trans (by rw [ent_row hs])) rfl (inR_vp hn h1 h2) hd ?_
  show W p (eLn E) e R s m args below meth c H locs cells slots QQ (F0 m (pc + 1) lsA (va_rf ((rs[(Int32.ofInt i).toNatClampNeg]?).map (eA E)) :: st.map (tv E)))
  rw [inR_clamp (by unfold inR; omega), h3]
  exact this
theorem r_aaldC {k n r : Nat} {rs : List Nat} {i : Int} (hd : decode (mC y) pc = .ok (.aaload, 1)) (hq : pc + 1 = q) (hs : shp k = (3, n, rs)) (hn : n < 2147483648) (h : ((0 ≤ i ∧ i < n) ∧ rs[i.toNat]? = some r) ∧ Gg E d y q ls (.inr r :: st) μ Q) : Gg E d y pc ls (.inl i :: .inr k :: st) μ Q := by
  intro p e R s m args below meth c H locs cells slots lsA QQ C hP hS hl hr
  obtain ⟨hE, hx, hb, hml, hown, hts, hR, hc, hSt⟩ := id C
  subst hq
  obtain ⟨⟨⟨h1, h2⟩, h3⟩, kk⟩ := h
  have hk := shp_lt hs (Or.inr (by omega))
  have := kk p e R s m args below meth c H locs cells slots lsA QQ C hP hS hl hr
  refine va_aldq (cA := eK E 3) (n := n) (f := fun j => (rs[j]?).map (eA E)) hx hb hSt.1 hP k 3 ((wl_at hk).trans (by rw [ent_court hs])) rfl (inR_vp hn h1 h2) hd ?_
  show W p (eLn E) e R s m args below meth c H locs cells slots QQ (F0 m (pc + 1) lsA (va_rf ((rs[(Int32.ofInt i).toNatClampNeg]?).map (eA E)) :: st.map (tv E)))
  rw [inR_clamp (by unfold inR; omega), h3]
  exact this
/-- the tables that nobody writes: cells 100 to 104 -/
theorem r_tald {t : Nat} {i : Int} (hd : decode (mC y) pc = .ok (.iaload, 1)) (hq : pc + 1 = q) (ht : t < 5) (h : (0 ≤ i ∧ i < roN E t) ∧ Gg E d y q ls (.inl (eR E t i.toNat) :: st) μ Q) : Gg E d y pc ls (.inl i :: .inr (100 + t) :: st) μ Q := by
  intro p e R s m args below meth c H locs cells slots lsA QQ C hP hS hl hr
  obtain ⟨hE, hx, hb, hml, hown, hts, hR, hc, hSt⟩ := id C
  subst hq
  obtain ⟨⟨h1, h2⟩, kk⟩ := h
  have := kk p e R s m args below meth c H locs cells slots lsA QQ C hP hS hl hr
  have hN : roN E t < 2 ^ 31 := by
    unfold roN
    split
    · exact hE.2.2
    · decide
  refine va_ti hx hb (hSt.2.1 t ht) hS (inR_vp hN h1 h2) (v := .int (Int32.ofInt (eR E t i.toNat))) ?_ hd this
  show Value.int (Int32.ofInt (eR E t (Int32.ofInt i).toNatClampNeg)) = _
  rw [inR_clamp (by unfold inR; omega)]
theorem r_alen (hd : decode (mC y) pc = .ok (.arraylength, 1)) (hq : pc + 1 = q) (kk : Gg E d y q ls (.inl (eS E) :: st) μ Q) : Gg E d y pc ls (.inr 104 :: st) μ Q := by
  intro p e R s m args below meth c H locs cells slots lsA QQ C hP hS hl hr
  obtain ⟨hE, hx, hb, hml, hown, hts, hR, hc, hSt⟩ := id C
  subst hq
  have := kk p e R s m args below meth c H locs cells slots lsA QQ C hP hS hl hr
  exact va_tlen hx hb (hSt.2.1 4 (by decide)) hS (v := Int32.ofInt ((eS E : Nat) : Int)) rfl hd this
theorem r_gets {idx t : Nat} (hd : decode (mC y) pc = .ok (.getstatic idx, 3)) (hq : pc + 3 = q) (ht : t < 4) (hlk : Cond.fieldLink (mO y) idx (sC t) (sN t) "[I" ∈ TB) (kk : Gg E d y q ls (.inr (100 + t) :: st) μ Q) : Gg E d y pc ls st μ Q := by
  intro p e R s m args below meth c H locs cells slots lsA QQ C hP hS hl hr
  obtain ⟨hE, hx, hb, hml, hown, hts, hR, hc, hSt⟩ := id C
  subst hq
  exact va_gets hx hb (hSt.2.2.1 t ht) hS hown (hts _ hlk) (fun _ h => h) hd (kk p e R s m args below meth c H locs cells slots lsA QQ C hP hS hl hr)
theorem r_getsN {idx t : Nat} {host : String} (hd : decode (mC y) pc = .ok (.getstatic idx, 3)) (hq : pc + 3 = q) (ht : t < 4) (hlk : Cond.fieldLinkNest (mO y) idx (sC t) (sN t) "[I" host ∈ lw_tbl) (kk : Gg E d y q ls (.inr (100 + t) :: st) μ Q) : Gg E d y pc ls st μ Q := by
  intro p e R s m args below meth c H locs cells slots lsA QQ C hP hS hl hr
  obtain ⟨hE, hx, hb, hml, hown, hts, hR, hc, hSt⟩ := id C
  subst hq
  exact va_getsN hx hb (hSt.2.2.1 t ht) hS hown (va_Nw.use rfl (hSt.2.2.2 _ _ _ _ _ _ hlk)) (fun _ h => h) hd (kk p e R s m args below meth c H locs cells slots lsA QQ C hP hS hl hr)
theorem r_tab {dflt lo hi : Int} {offs : Array Int} {len : Nat} {x : Int} (hd : decode (mC y) pc = .ok (.tableswitch dflt lo hi offs, len)) (hx0 : inR x) (h1 : lo ≤ x → x ≤ hi → ∃ (off : Int) (t : Nat), offs[(x - lo).toNat]? = some off ∧ (pc : Int) + off = (t : Int) ∧ Gg E d y t ls st μ Q) (h2 : (x < lo ∨ hi < x) → ∃ t : Nat, (pc : Int) + dflt = (t : Int) ∧ Gg E d y t ls st μ Q) : Gg E d y pc ls (.inl x :: st) μ Q := by
  intro p e R s m args below meth c H locs cells slots lsA QQ C hP hS hl hr
  obtain ⟨hE, hx, hb, hml, hown, hts, hR, hc, hSt⟩ := id C
  by_cases hc : x < lo ∨ hi < x
  · obtain ⟨t, a, k⟩ := h2 hc
    exact lv_tableOut hx hb hd (by rw [inR_toInt hx0]; exact hc) a (k p e R s m args below meth c H locs cells slots lsA QQ C hP hS hl hr)
  · obtain ⟨off, t, a, b, k⟩ := h1 (by omega) (by omega)
    exact lv_tableIn hx hb hd (by rw [inR_toInt hx0]; omega) (by rw [inR_toInt hx0]; omega) (by rw [inR_toInt hx0]; exact a) b (k p e R s m args below meth c H locs cells slots lsA QQ C hP hS hl hr)
theorem r_lsw {dflt : Int} {ps : Array (Int × Int)} {len : Nat} {x off : Int} (hd : decode (mC y) pc = .ok (.lookupswitch dflt ps, len)) (hx0 : inR x) (hp : (ps.toList.zip (ps.toList.drop 1)).all (fun (a, next) => a.1 < next.1) = true) (ho : Op.lookupswitch.offset ps.toList dflt x = off) (hq : (pc : Int) + off = (q : Int)) (k : Gg E d y q ls st μ Q) : Gg E d y pc ls (.inl x :: st) μ Q := by
  intro p e R s m args below meth c H locs cells slots lsA QQ C hP hS hl hr
  obtain ⟨hE, hx, hb, hml, hown, hts, hR, hc, hSt⟩ := id C
  exact lv_lookup hx hb hd hp (by rw [inR_toInt hx0]; exact ho) hq (k p e R s m args below meth c H locs cells slots lsA QQ C hP hS hl hr)
theorem r_ret {v : Option Vl} (hv : retOk y pc v) (h : Q v μ) : Gg E d y pc ls v.toList μ Q := by
  intro p e R s m args below meth c H locs cells slots lsA QQ C hP hS hl hr
  exact hr v μ H locs pc lsA h hP hS hv
theorem r_min {idx : Nat} {a b : Int} (hd : decode (mC y) pc = .ok (.invokestatic idx, 3)) (hq : pc + 3 = q) (hlk : Cond.methodLink (mO y) idx Lib.Math.min.name ∈ TB) (hst : Cond.static Lib.Math.min.name ∈ TB) (hin : Cond.initialized "java/lang/Math" ∈ TB) (hco : Cond.code Lib.Math.min.name Lib.Math.min.code 2 (some .int) ∈ TB) (hn : 0 < d) (hsz : st.length ≤ 8) (h : (inR a ∧ inR b) ∧ Gg E d y q ls (.inl (if b < a then b else a) :: st) μ Q) : Gg E d y pc ls (.inl b :: .inl a :: st) μ Q := by
  intro p e R s m args below meth c H locs cells slots lsA QQ C hP hS hl hr
  obtain ⟨hE, hx, hb, hml, hown, hts, hR, hc, hSt⟩ := id C
  subst hq
  obtain ⟨⟨h1, h2⟩, k⟩ := h
  have := k p e R s m args below meth c H locs cells slots lsA QQ C hP hS hl hr
  refine va_mmin hx hb (by rw [hml]; exact hl.1.symm) hown (hts _ hlk) (hts _ hst) (hts _ hin) (hts _ hco) (by have := hR.1; omega) (by rw [tv_sum]; have := hR.2; omega) hc.1 hc.2 hd ?_
  have e1 : (if Int32.ofInt b < Int32.ofInt a then Int32.ofInt b else Int32.ofInt a) = Int32.ofInt (if b < a then b else a) := by
    by_cases hba : b < a
    · rw [if_pos hba, if_pos ((inR_lt h2 h1).mpr hba)]
    · rw [if_neg hba, if_neg (fun z => hba ((inR_lt h2 h1).mp z))]
  rw [e1]
  exact this
end Rules2
