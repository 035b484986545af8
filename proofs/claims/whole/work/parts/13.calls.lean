/-! Calls. -/
def cpm (μ : Mem) (ks : Nat) (sp : Int) (kd : Nat) (dp n : Int) : Mem := fun k i => if k = kd ∧ dp ≤ i ∧ i < dp + n then μ ks (sp + (i - dp)) else μ k i
theorem cpm_ne {μ : Mem} {ks kd k : Nat} {sp dp n : Int} (h : k ≠ kd) : cpm μ ks sp kd dp n k = μ k := by
  funext j
  simp [cpm, h]
theorem wl_put {E : Ex} {μ μ' : Mem} {k : Nat} {x : va_E} (hk : k < 100) (hx : x = ent E μ' k) (ho : ∀ j, j ≠ k → μ' j = μ j) : (wl E μ).set k (eA E k, x) = wl E μ' := by
  subst hx
  refine List.ext_getElem? fun j => ?_
  by_cases hj : j = k
  · subst hj
    rw [List.getElem?_set_self (by simpa [wl] using hk), wl_at hk]
  · rw [List.getElem?_set_ne (Ne.symm hj)]
    by_cases hl : j < 100
    · rw [wl_at hl, wl_at hl, ent_congr (ho j hj)]
    · rw [List.getElem?_eq_none (by simp [wl]; omega), List.getElem?_eq_none (by simp [wl]; omega)]
theorem cpy_cpm {μ : Mem} {ks kd : Nat} {sp dp n : Int} (h1 : 0 ≤ sp) (h2 : 0 ≤ dp) (h3 : 0 ≤ n) : va_cpy (fun j => Int32.ofInt (μ ks (j : Nat))) (fun j => Int32.ofInt (μ kd (j : Nat))) sp.toNat dp.toNat n.toNat = fun j => Int32.ofInt (cpm μ ks sp kd dp n kd (j : Nat)) := by
  funext j
  unfold va_cpy cpm
  by_cases h : dp.toNat ≤ j ∧ j < dp.toNat + n.toNat
  · rw [if_pos h, if_pos ⟨rfl, by omega, by omega⟩]
    have e : ((sp.toNat + (j - dp.toNat) : Nat) : Int) = sp + ((j : Int) - dp) := by omega
    show Int32.ofInt (μ ks ((sp.toNat + (j - dp.toNat) : Nat) : Int)) = _
    rw [e]
  · rw [if_neg h, if_neg]
    rintro ⟨-, a, b⟩
    exact h ⟨by omega, by omega⟩
theorem tb_mem {w : Cond} (h : w ∈ lw_tbl) (hg : goodWord w = true) : w ∈ TB := List.mem_filter.mpr ⟨h, hg⟩
theorem tb_gi {ws : List Cond} (h : ∀ w ∈ ws, w ∈ TB) : GoodIn TB ws := fun w hw => ⟨h w hw, good_of_word (List.mem_filter.mp (h w hw)).2⟩
def Pcn (E : Ex) (as : List Vl) (μ : Mem) : Array Value → State → Prop := va_Pc (as.map (tv E)) (fun U => va_P (eD E) vwCl (wl E μ) U.heap ∧ St E U U.heap)
def Qcn (E : Ex) (Q : Option Vl → Mem → Prop) : Array Value → State → Outcome → State → Prop := fun _ st oc t => (∃ (v : Option Vl) (μ' : Mem), oc = .returned (v.map (tv E)) ∧ Q v μ' ∧ va_P (eD E) vwCl (wl E μ') t.heap) ∧ va_F (fr E) st t
def rmD (d : Nat) : Room := { frames := d, cells := 0, slots := 0, locals := 40 * d + 24 }
theorem St.moved {E : Ex} {s U : State} {H : Heap} {locs : List Loc} (h : St E s s.heap) (hS : va_S (fr E) s.heap H locs) (hW : s.WarmedH U.vm) : St E U H := by
  refine ⟨va_K.moved hW.alike h.1, fun i hi => ((h.2.1 i hi).moved hW.alike).kept hS.2.1, fun i hi => ((h.2.2.1 i hi).moved hW.alike).kept hS.2.1, fun a i b n d h0 hm => va_Nw.warmF hW (h.2.2.2 a i b n d h0 hm)⟩
theorem St.same {E : Ex} {s U : State} {H : Heap} (h : St E s H) (hv : s.vm = U.vm) : St E U H := by
  have hvm : s.vm.Alike U.vm := by rw [← hv]; exact Vm.Alike.refl s.vm
  exact ⟨va_K.moved hvm h.1, fun i hi => (h.2.1 i hi).moved hvm, fun i hi => (h.2.2.1 i hi).moved hvm, fun a i b n d h0 hm => va_Nw.same rfl hv (h.2.2.2 a i b n d h0 hm)⟩
theorem met_of {E : Ex} {d : Nat} {y : Mth} {as : List Vl} {μ : Mem} {Q : Option Vl → Mem → Prop} (hE : Eok E) (hpl : plainName (mN y).cls = true) (hcl : (mN y).cls = mO y) (hlen : as.length ≤ mL y) (k : Cl E d y as μ Q) : Met (eLn E) (mN y) (mW y) (rmD d) (Pcn E as μ) (Qcn E Q) 0 0 (fr E) := by
  refine Met.ofW (cc := mC y) (maxL := mL y) (ret := mR y) hpl rfl ?_
  intro p e s m args below meth c s₁ B hml hv
  obtain ⟨rfl, hP, hSt⟩ := hv
  have hx := B.exec
  have hb := B.bytes
  have hr := B.returns
  have hts := atoms_spec (ws := mW y) B.pre
  have hown : s.vm.findClass (mN y).cls = some m.cls := findClass_of_methodNamed B.named
  rw [hcl] at hown
  have hlocks := B.notSynchronized
  rw [lg_entry_eq]
  refine k p e _ s m _ below meth c s.heap [] 0 0 _ _ ⟨hE, hx, hb, hml, hown, fun w h => hts w (List.mem_cons_of_mem _ h), ⟨Nat.le_refl d, Nat.le_refl _⟩, ⟨Nat.le_refl 0, Nat.le_refl 0⟩, hSt⟩ hP va_S.rf (LcS.entry E hlen) (fun v μ' H' locs' pc' ls' hq hP' hS' hv => ?_)
  match v, hv with
  | none, hv => exact W.vret hx hb (by rw [hr]; exact hv.2) (fun t ht hW => ⟨⟨none, μ', rfl, hq, by rw [ht]; exact hP'⟩, hS'.F ht⟩) hS'.2.2 hv.1
  | some (.inl x), hv =>
    rcases hv.2 with h1 | ⟨h1, h2⟩
    · exact W.iret (v := Int32.ofInt x) hx hb (by rw [hr]; exact h1) (fun t ht hW => ⟨⟨some (.inl x), μ', rfl, hq, by rw [ht]; exact hP'⟩, hS'.F ht⟩) hS'.2.2 hv.1
    · exact W.zret (v := Int32.ofInt x) hx hb (by rw [hr]; exact h1) (nar_ok (Or.inr ⟨rfl, h2⟩)).1 (fun t ht hW => ⟨⟨some (.inl x), μ', rfl, hq, by rw [ht]; exact hP'⟩, hS'.F ht⟩) hS'.2.2 hv.1
  | some (.inr a), hv =>
    obtain ⟨h0, C, h1⟩ := hv
    exact W.aret (v := .ref (eA E a)) hx hb (by rw [hr]; exact h1) (Or.inl ⟨C, rfl⟩) (Or.inr ⟨_, rfl⟩) (fun t ht hW => ⟨⟨some (.inr a), μ', rfl, hq, by rw [ht]; exact hP'⟩, hS'.F ht⟩) hS'.2.2 h0
theorem pcn_blind {E : Ex} {as : List Vl} {μ : Mem} : FrameBlind (Pcn E as μ) := by
  intro a U g mk h
  obtain ⟨h1, h2, h3⟩ := h
  exact ⟨h1, h2, St.same (U := U.calling g mk a) h3 rfl⟩
def Mb (y : Mth) (n : Nat) : Prop := Cond.initialized (mO y) ∈ TB ∧ Cond.code (mN y) (mC y) (mL y) (mR y) ∈ TB ∧ (mN y).cls = mO y ∧ ((mN y).cls ≠ "java/lang/invoke/MethodHandle" ∧ (mN y).cls ≠ "java/lang/invoke/VarHandle" ∧ (parseMethodDescriptor (mN y).desc).map (fun d => d.parameters.length) = some n) ∧ plainName (mN y).cls = true ∧ mL y ≤ 21
def Mv (y : Mth) (n : Nat) : Prop := Mb y n ∧ Cond.instanceMethod (mN y) ∈ TB ∧ Cond.selects (mO y) (mN y) (mN y) ∈ TB ∧ n + 1 ≤ mL y
def Ms (y : Mth) (n : Nat) : Prop := Mb y n ∧ Cond.static (mN y) ∈ TB ∧ n ≤ mL y
section Calls2
variable {E : Ex} {d : Nat} {y : Mth} {pc q : Nat} {ls : List (Option Vl)} {st stk : List Vl} {μ : Mem} {Q : Option Vl → Mem → Prop}
theorem r_goes {p : Program} {e : Env} {R : Room} {s : State} {m : MethodId} {args : Array Value} {below : List Frame} {meth : Method} {c : Code} {H : Heap} {locs : List Loc} {cells slots : Nat} {lsA : Array Slot} {QQ : State → Prop} {av : Array Value} {y' : Mth} {stv : List Value}
    (C : Cx E y d p R s m args c cells slots) (hS : va_S (fr E) s.heap H locs) (hl : LcS E lsA (mL y) ls)
    (hr : ∀ (v : Option Vl) (μ' : Mem) (H' : Heap) (locs' : List Loc) (pc' : Nat) (ls' : Array Slot), Q v μ' → va_P (eD E) vwCl (wl E μ') H' → va_S (fr E) s.heap H' locs' → retOk y pc' v → W p (eLn E) e R s m args below meth c H' locs' cells slots QQ (F0 m pc' ls' (v.toList.map (tv E))))
    (run : va_Run p (eLn E) e R s m args below meth c H locs cells slots 0 0 (F0 m pc lsA stv) (st.map (tv E)) (Qcn E (fun v μ' => Gg E d y (pc + 3) ls (v.toList ++ st) μ' Q) av) (fr E)) :
    W p (eLn E) e R s m args below meth c H locs cells slots QQ (F0 m pc lsA stv) := by
  intro T hT X
  obtain ⟨v, st₀, t, T', L, h0, X', hL, e1, e2, ⟨⟨w, μ', hv, hG, hP1⟩, hz, hk⟩, go⟩ := run T hT X
  cases hv
  rw [h0] at hz hk
  have hS1 : va_S (fr E) s.heap T'.heap (locs ++ L) := by
    refine ⟨Nat.le_trans hS.1 (by rw [e1]; exact hz), fun q h1 h2 => by rw [e1, hk q (Nat.lt_of_lt_of_le h1 hS.1) h2]; exact hS.2.1 q h1 h2, fun q hq => ?_⟩
    rcases List.mem_append.mp hq with h | h
    · exact hS.2.2 q h
    · exact hL q h
  obtain ⟨t2, a1, b1⟩ := hG p e R s m args below meth c T'.heap (locs ++ L) cells slots lsA QQ C (by rw [e1]; exact hP1) hS1 hl hr T' rfl X'
  refine ⟨t2, go t2 ?_, b1⟩
  have : (Option.map (tv E) w).toList ++ st.map (tv E) = (w.toList ++ st).map (tv E) := by cases w <;> simp
  rw [this]
  exact a1
theorem r_callV {idx d' k ci n N nn : Nat} {y' : Mth} {rs : List Nat} {T : u_T} (as : List Vl) (hd : decode (mC y) pc = .ok (.invokevirtual idx, 3)) (hq : pc + 3 = q) (hM : Mv y' nn) (hlk : Cond.methodLink (mO y) idx (mN y') ∈ TB) (hs : shp k = (ci + 4, n, rs)) (hcl : vwCl[ci]? = some (mO y', T, N)) (hn : as.length = nn) (hdd : d' + 1 ≤ d) (hsz : st.length ≤ 8) (hst : stk = as.reverse ++ .inr k :: st)
    (kk : Cl E d' y' (.inr k :: as) μ (fun v μ' => Gg E d y q ls (v.toList ++ st) μ' Q)) : Gg E d y pc ls stk μ Q := by
  intro p e R s m args below meth c H locs cells slots lsA QQ C hP hS hl hr
  obtain ⟨hE, hx, hb, hml, hown, hts, hR, hc, hSt⟩ := id C
  subst hq; subst hst
  obtain ⟨⟨m1, m2, m3, m4, m5, m6⟩, m7, m8, m9⟩ := hM
  have hk := shp_lt hs (Or.inl (by omega))
  have hMet := met_of hE m5 m3 (by rw [List.length_cons, hn]; exact m9) kk
  refine r_goes (st := st) (y' := y') (stv := (as.reverse ++ .inr k :: st).map (tv E)) (av := ((Value.ref (eA E k)) :: as.map (tv E)).toArray) C hS hl hr ?_
  refine va_runV (As := as.map (tv E)) (rest := st.map (tv E)) ⟨hx, hb, hml, hown, hts⟩ hMet (cwV nn hts (tb_gi ?_) rfl rfl rfl ⟨m3, m4⟩ ⟨?_, ?_⟩) ⟨pcn_blind, va_recv hSt.1 hP hcl ((wl_at hk).trans (by rw [ent_obj hs])), fun U hU hW => ⟨rfl, by rw [hU]; exact hP, ?_⟩⟩ rfl (by rw [List.length_map]; exact hn) hl.1 ?_ (lv_room ?_) hd ⟨by rw [Nat.add_zero]; exact hc.1, by rw [Nat.add_zero]; exact hc.2⟩
  · intro w hw
    rcases List.mem_append.mp hw with h | h
    · simp only [List.mem_cons, List.not_mem_nil, or_false] at h
      rcases h with rfl | rfl | rfl | rfl
      · exact hlk
      · exact m7
      · exact m8
      · exact m1
    · rcases List.mem_cons.mp h with rfl | h
      · exact m2
      · exact h
  · show d' + 1 ≤ R.frames
    exact Nat.le_trans hdd hR.1
  · show 8 + (mL y' + 11) + (40 * d' + 24) ≤ R.locals
    have := hR.2
    omega
  · rw [hU]
    exact St.moved hSt hS hW
  · simp [F0, tv, List.map_append, List.map_reverse]
  · rw [tv_sum]; exact hsz
theorem r_callS {idx d' nn : Nat} {y' : Mth} (as : List Vl) (hd : decode (mC y) pc = .ok (.invokestatic idx, 3)) (hq : pc + 3 = q) (hM : Ms y' nn) (hlk : Cond.methodLink (mO y) idx (mN y') ∈ TB) (hn : as.length = nn) (hdd : d' + 1 ≤ d) (hsz : st.length ≤ 8) (hst : stk = as.reverse ++ st)
    (kk : Cl E d' y' as μ (fun v μ' => Gg E d y q ls (v.toList ++ st) μ' Q)) : Gg E d y pc ls stk μ Q := by
  intro p e R s m args below meth c H locs cells slots lsA QQ C hP hS hl hr
  obtain ⟨hE, hx, hb, hml, hown, hts, hR, hc, hSt⟩ := id C
  subst hq; subst hst
  obtain ⟨⟨m1, m2, m3, m4, m5, m6⟩, m7, m9⟩ := hM
  have hMet := met_of hE m5 m3 (by rw [hn]; exact m9) kk
  refine r_goes (st := st) (y' := y') (stv := (as.reverse ++ st).map (tv E)) (av := (as.map (tv E)).toArray) C hS hl hr ?_
  refine va_runS (As := as.map (tv E)) (rest := st.map (tv E)) ⟨hx, hb, hml, hown, hts⟩ hMet (va_cwS nn hts (tb_gi ?_) rfl rfl rfl m4 ⟨?_, ?_⟩) ⟨pcn_blind, fun U hU hW => ⟨rfl, by rw [hU]; exact hP, ?_⟩⟩ rfl (by rw [List.length_map]; exact hn) hl.1 ?_ (lv_room ?_) hd ⟨by rw [Nat.add_zero]; exact hc.1, by rw [Nat.add_zero]; exact hc.2⟩
  · intro w hw
    rcases List.mem_append.mp hw with h | h
    · simp only [List.mem_cons, List.not_mem_nil, or_false] at h
      rcases h with rfl | rfl | rfl
      · exact hlk
      · exact m7
      · rw [m3]; exact m1
    · rcases List.mem_cons.mp h with rfl | h
      · exact m2
      · exact h
  · show d' + 1 ≤ R.frames
    exact Nat.le_trans hdd hR.1
  · show 8 + (mL y' + 11) + (40 * d' + 24) ≤ R.locals
    have := hR.2
    omega
  · rw [hU]
    exact St.moved hSt hS hW
  · simp [F0, List.map_append, List.map_reverse]
  · rw [tv_sum]; exact hsz
theorem r_acpy {idx ks kd n0 n1 : Nat} {rs0 rs1 : List Nat} {sp dp n : Int} (hd : decode (mC y) pc = .ok (.invokestatic idx, 3)) (hq : pc + 3 = q) (hlk : Cond.methodLink (mO y) idx arraycopyName ∈ TB) (hnat : Cond.native arraycopyName ∈ TB) (hst : Cond.static arraycopyName ∈ TB) (hin : Cond.initialized "java/lang/System" ∈ TB) (hs0 : shp ks = (0, n0, rs0)) (hs1 : shp kd = (0, n1, rs1)) (hn0 : 0 < n0 ∧ n0 < 2147483648) (hn1 : 0 < n1 ∧ n1 < 2147483648) (hn : 0 < d) (hsz : st.length ≤ 8)
    (h : (0 ≤ sp ∧ 0 ≤ dp ∧ 0 ≤ n ∧ sp + n ≤ n0 ∧ dp + n ≤ n1) ∧ Gg E d y q ls st (cpm μ ks sp kd dp n) Q) : Gg E d y pc ls (.inl n :: .inl dp :: .inr kd :: .inl sp :: .inr ks :: st) μ Q := by
  intro p e R s m args below meth c H locs cells slots lsA QQ C hP hS hl hr
  obtain ⟨hE, hx, hb, hml, hown, hts, hR, hc, hSt⟩ := id C
  subst hq
  obtain ⟨⟨h1, h2, h3, h4, h5⟩, kk⟩ := h
  have hk0 := shp_lt hs0 (Or.inr hn0.1)
  have hk1 := shp_lt hs1 (Or.inr hn1.1)
  have i1 : inR sp := by unfold inR; omega
  have i2 : inR dp := by unfold inR; omega
  have i3 : inR n := by unfold inR; omega
  refine va_copyi (ty := .int) (f := fun j => Int32.ofInt (μ ks (j : Nat))) (g := fun j => Int32.ofInt (μ kd (j : Nat))) hx hb (by rw [hml]; exact hl.1.symm) hown (hts _ hlk) (hts _ hnat) (hts _ hst) (hts _ hin) hSt.1 hP (wl_D hE) hS ks kd 0 0 ((wl_at hk0).trans (by rw [ent_int hs0])) ((wl_at hk1).trans (by rw [ent_int hs1])) rfl rfl rfl (by rw [inR_lt0 i1]; omega) (by rw [inR_lt0 i2]; omega) (by rw [inR_lt0 i3]; omega) (by rw [inR_clamp i1, inR_clamp i3]; omega) (by rw [inR_clamp i2, inR_clamp i3]; omega) (fun _ _ => rfl) (by have := hR.1; omega) ?_ hd (fun H1 locs1 hP1 hD1 hS1 => ?_)
  · rw [tv_sum]
    have e1 : nativeFrameWords "java/lang/System" "arraycopy" 5 + 11 ≤ 48 := by decide +kernel
    have := hR.2
    omega
  · refine kk p e R s m args below meth c H1 locs1 cells slots lsA QQ C ?_ hS1 hl hr
    rw [wl_put (μ' := cpm μ ks sp kd dp n) hk1 (by rw [ent_int hs1, inR_clamp i1, inR_clamp i2, inR_clamp i3, cpy_cpm h1 h2 h3]) (fun j hj => cpm_ne hj)] at hP1
    exact hP1
end Calls2
