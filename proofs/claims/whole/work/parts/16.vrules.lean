/-! Shapes of the cells; the rules once more, with names for what is new. -/
def coS (c : Nat) : Prop := shp c = (2 + 4, 16, [0, 0, 0, 0, 0, 0, c + 2, c + 3, c + 4, c + 5, c + 6, c + 7, c + 8, c + 9, c + 10, 0]) ∧ shp (c + 1) = (0, 8, []) ∧ shp (c + 2) = (0, 8, []) ∧ shp (c + 3) = (0, 6, []) ∧ shp (c + 4) = (0, 6, []) ∧ shp (c + 5) = (0, 24, []) ∧ shp (c + 6) = (0, 6, []) ∧ shp (c + 7) = (0, 6, []) ∧ shp (c + 8) = (0, 6, []) ∧ shp (c + 9) = (0, 6, [])
theorem co0 {c : Nat} (h : coS c) : shp c = (2 + 4, 16, [0, 0, 0, 0, 0, 0, c + 2, c + 3, c + 4, c + 5, c + 6, c + 7, c + 8, c + 9, c + 10, 0]) := h.1
theorem co1 {c : Nat} (h : coS c) : shp (c + 1) = (0, 8, []) := h.2.1
theorem co2 {c : Nat} (h : coS c) : shp (c + 2) = (0, 8, []) := h.2.2.1
theorem co3 {c : Nat} (h : coS c) : shp (c + 3) = (0, 6, []) := h.2.2.2.1
theorem co4 {c : Nat} (h : coS c) : shp (c + 4) = (0, 6, []) := h.2.2.2.2.1
theorem co5 {c : Nat} (h : coS c) : shp (c + 5) = (0, 24, []) := h.2.2.2.2.2.1
theorem co6 {c : Nat} (h : coS c) : shp (c + 6) = (0, 6, []) := h.2.2.2.2.2.2.1
theorem co7 {c : Nat} (h : coS c) : shp (c + 7) = (0, 6, []) := h.2.2.2.2.2.2.2.1
theorem co8 {c : Nat} (h : coS c) : shp (c + 8) = (0, 6, []) := h.2.2.2.2.2.2.2.2.1
theorem co9 {c : Nat} (h : coS c) : shp (c + 9) = (0, 6, []) := h.2.2.2.2.2.2.2.2.2
theorem cK_4 : coS 4 := by unfold coS; decide +kernel
theorem cK_14 : coS 14 := by unfold coS; decide +kernel
theorem cK_31 : coS 31 := by unfold coS; decide +kernel
theorem cK_63 : coS 63 := by unfold coS; decide +kernel
theorem cK_73 : coS 73 := by unfold coS; decide +kernel
def roS (r : Nat) : Prop := shp r = (6 + 4, 3, [r + 2, 0, 0]) ∧ shp (r + 1) = (0, 40, [])
theorem ro0 {r : Nat} (h : roS r) : shp r = (6 + 4, 3, [r + 2, 0, 0]) := h.1
theorem ro1 {r : Nat} (h : roS r) : shp (r + 1) = (0, 40, []) := h.2
def rw (i : Int) : Nat := 47 + 2 * i.toNat
def im (i : Int) : Nat := 63 + 10 * i.toNat
theorem ro_rw {i : Int} (h1 : 0 ≤ i) (h2 : i < 8) : roS (rw i) := by
  have : ∀ n, n < 8 → roS (47 + 2 * n) := by unfold roS; decide +kernel
  exact this i.toNat (by omega)
theorem co_im {i : Int} (h1 : 0 ≤ i) (h2 : i < 2) : coS (im i) := by
  rcases (show i = 0 ∨ i = 1 by omega) with rfl | rfl
  · exact cK_63
  · exact cK_73
theorem sh_0 : shp 0 = (7 + 4, 11, [2, 3, 5, 15, 25, 26, 31, 42, 46, 0, 0]) := by decide +kernel
theorem sh_1 : shp 1 = (2, 8, [47, 49, 51, 53, 55, 57, 59, 61]) := by decide +kernel
theorem sh_2 : shp 2 = (4 + 4, 8, [4, 0, 0, 0, 0, 0, 0, 0]) := by decide +kernel
theorem sh_3 : shp 3 = (0, 120, []) := by decide +kernel
theorem sh_24 : shp 24 = (3, 2, [63, 73]) := by decide +kernel
theorem sh_25 : shp 25 = (0 + 4, 6, [27, 28, 29, 30, 0, 0]) := by decide +kernel
theorem sh_26 : shp 26 = (0, 24, []) := by decide +kernel
theorem sh_27 : shp 27 = (0, 24, []) := by decide +kernel
theorem sh_28 : shp 28 = (0, 24, []) := by decide +kernel
theorem sh_29 : shp 29 = (0, 24, []) := by decide +kernel
theorem sh_30 : shp 30 = (5 + 4, 1, [32]) := by decide +kernel
theorem sh_41 : shp 41 = (3 + 4, 6, [43, 0, 0, 44, 45, 0]) := by decide +kernel
theorem sh_42 : shp 42 = (0, 6, []) := by decide +kernel
theorem sh_43 : shp 43 = (0, 6, []) := by decide +kernel
theorem sh_44 : shp 44 = (0, 4, []) := by decide +kernel
theorem sh_45 : shp 45 = (1 + 4, 2, [47, 0]) := by decide +kernel
theorem sh_46 : shp 46 = (0, 16, []) := by decide +kernel
theorem sh_83 : shp 83 = (8 + 4, 27, [85, 86, 87, 88, 0, 89, 0, 0, 0, 0, 0, 0, 0, 90, 91, 92, 93, 0, 94, 95, 96, 0, 97, 0, 98, 99, 100]) := by decide +kernel
theorem sh_84 : shp 84 = (0, 8, []) := by decide +kernel
theorem sh_85 : shp 85 = (0, 8, []) := by decide +kernel
theorem sh_86 : shp 86 = (0, 320, []) := by decide +kernel
theorem sh_87 : shp 87 = (0, 40, []) := by decide +kernel
theorem sh_88 : shp 88 = (0, 120, []) := by decide +kernel
theorem sh_89 : shp 89 = (0, 91, []) := by decide +kernel
theorem sh_90 : shp 90 = (0, 91, []) := by decide +kernel
theorem sh_91 : shp 91 = (0, 91, []) := by decide +kernel
theorem sh_92 : shp 92 = (0, 2184, []) := by decide +kernel
theorem sh_93 : shp 93 = (0, 182, []) := by decide +kernel
theorem sh_94 : shp 94 = (1, 2, []) := by decide +kernel
theorem sh_95 : shp 95 = (0, 16, []) := by decide +kernel
theorem sh_96 : shp 96 = (0, 6, []) := by decide +kernel
theorem sh_97 : shp 97 = (0, 6, []) := by decide +kernel
theorem sh_98 : shp 98 = (0, 6, []) := by decide +kernel
theorem sh_99 : shp 99 = (0, 6, []) := by decide +kernel
section VR
variable {E : Ex} {d : Nat} {y : Mth} {pc q : Nat} {ls ls' : List (Option Vl)} {st stk : List Vl} {μ : Mem} {Q : Option Vl → Mem → Prop}
theorem v_istoren {n : Fin 4} {x : Int} (hd : decode (mC y) pc = .ok (.istore_n n, 1)) (hq : pc + 1 = q) (hn : (n : Nat) < mL y) (hl : ls.set (n : Nat) (some (.inl x)) = ls') (k : Gg E d y q ls' st μ Q) : Gg E d y pc ls (.inl x :: st) μ Q := r_istoren hd hq hn (hl ▸ k)
theorem v_istore {n : Nat} {x : Int} (hd : decode (mC y) pc = .ok (.istore n, 2)) (hq : pc + 2 = q) (hn : n < mL y) (hl : ls.set n (some (.inl x)) = ls') (k : Gg E d y q ls' st μ Q) : Gg E d y pc ls (.inl x :: st) μ Q := r_istore hd hq hn (hl ▸ k)
theorem v_astoren {n : Fin 4} {x : Nat} (hd : decode (mC y) pc = .ok (.astore_n n, 1)) (hq : pc + 1 = q) (hn : (n : Nat) < mL y) (hl : ls.set (n : Nat) (some (.inr x)) = ls') (k : Gg E d y q ls' st μ Q) : Gg E d y pc ls (.inr x :: st) μ Q := r_astoren hd hq hn (hl ▸ k)
theorem v_astore {n : Nat} {x : Nat} (hd : decode (mC y) pc = .ok (.astore n, 2)) (hq : pc + 2 = q) (hn : n < mL y) (hl : ls.set n (some (.inr x)) = ls') (k : Gg E d y q ls' st μ Q) : Gg E d y pc ls (.inr x :: st) μ Q := r_astore hd hq hn (hl ▸ k)
theorem v_iinc {n : Nat} {w x : Int} (hd : decode (mC y) pc = .ok (.iinc n w, 3)) (hq : pc + 3 = q) (hx0 : ls[n]? = some (some (.inl x))) (hn : n < mL y) (hl : ls.set n (some (.inl (x + w))) = ls') (k : Gg E d y q ls' st μ Q) : Gg E d y pc ls st μ Q := r_iinc hd hq hx0 hn (hl ▸ k)
theorem v_getI {idx k ci j n : Nat} {ji : Int} {rs : List Nat} (hd : decode (mC y) pc = .ok (.getfield idx, 3)) (hq : pc + 3 = q) (hf : Fk (mO y) idx ci j) (hs : shp k = (ci + 4, n, rs)) (hj : rs[j]? = some 0) (hji : ((j : Nat) : Int) = ji) (kk : Gg E d y q ls (.inl (μ k ji) :: st) μ Q) : Gg E d y pc ls (.inr k :: st) μ Q := r_getI hd hq hf hs hj (hji ▸ kk)
theorem v_put {idx k ci j n : Nat} {ji : Int} {rs : List Nat} {ty : FieldType} {x : Int} (hd : decode (mC y) pc = .ok (.putfield idx, 3)) (hq : pc + 3 = q) (hf : Fp (mO y) idx ci j ty) (hs : shp k = (ci + 4, n, rs)) (hj : rs[j]? = some 0) (hji : ((j : Nat) : Int) = ji) (hv : ty = .int ∨ (ty = .boolean ∧ (x = 0 ∨ x = 1))) (kk : ∀ μ1 : Mem, μ1 = up μ k ji x → Gg E d y q ls st μ1 Q) : Gg E d y pc ls (.inl x :: .inr k :: st) μ Q := r_put hd hq hf hs hj hv (hji ▸ kk _ rfl)
theorem v_iast {k n : Nat} {rs : List Nat} {i x : Int} (hd : decode (mC y) pc = .ok (.iastore, 1)) (hq : pc + 1 = q) (hs : shp k = (0, n, rs)) (hn : n < 2147483648) (h : (0 ≤ i ∧ i < n) ∧ ∀ μ1 : Mem, μ1 = up μ k i x → Gg E d y q ls st μ1 Q) : Gg E d y pc ls (.inl x :: .inl i :: .inr k :: st) μ Q := r_iast hd hq hs hn ⟨h.1, h.2 _ rfl⟩
theorem v_zast {k n : Nat} {rs : List Nat} {i x : Int} (hd : decode (mC y) pc = .ok (.bastore, 1)) (hq : pc + 1 = q) (hs : shp k = (1, n, rs)) (hn : n < 2147483648) (hv : x = 0 ∨ x = 1) (h : (0 ≤ i ∧ i < n) ∧ ∀ μ1 : Mem, μ1 = up μ k i x → Gg E d y q ls st μ1 Q) : Gg E d y pc ls (.inl x :: .inl i :: .inr k :: st) μ Q := r_zast hd hq hs hn hv ⟨h.1, h.2 _ rfl⟩
theorem v_aaR {i : Int} (hd : decode (mC y) pc = .ok (.aaload, 1)) (hq : pc + 1 = q) (h : (0 ≤ i ∧ i < 8) ∧ (roS (rw i) → Gg E d y q ls (.inr (rw i) :: st) μ Q)) : Gg E d y pc ls (.inl i :: .inr 1 :: st) μ Q := by
  refine r_aaldR (r := rw i) hd hq sh_1 (by decide) ⟨⟨⟨h.1.1, by have := h.1.2; omega⟩, ?_⟩, h.2 (ro_rw h.1.1 h.1.2)⟩
  have : ∀ n, n < 8 → [47, 49, 51, 53, 55, 57, 59, 61][n]? = some (47 + 2 * n) := by decide
  exact this i.toNat (by omega)
theorem v_aaI {i : Int} (hd : decode (mC y) pc = .ok (.aaload, 1)) (hq : pc + 1 = q) (h : (0 ≤ i ∧ i < 2) ∧ (coS (im i) → Gg E d y q ls (.inr (im i) :: st) μ Q)) : Gg E d y pc ls (.inl i :: .inr 24 :: st) μ Q := by
  refine r_aaldC (r := im i) hd hq sh_24 (by decide) ⟨⟨⟨h.1.1, by have := h.1.2; omega⟩, ?_⟩, h.2 (co_im h.1.1 h.1.2)⟩
  have : ∀ n, n < 2 → [63, 73][n]? = some (63 + 10 * n) := by decide
  exact this i.toNat (by omega)
theorem v_tald {t N : Nat} {i : Int} (hd : decode (mC y) pc = .ok (.iaload, 1)) (hq : pc + 1 = q) (ht : t < 5) (hN : roN E t = N) (h : (0 ≤ i ∧ i < N) ∧ Gg E d y q ls (.inl (eR E t i.toNat) :: st) μ Q) : Gg E d y pc ls (.inl i :: .inr (100 + t) :: st) μ Q := r_tald hd hq ht (hN.symm ▸ h)
theorem v_acpy {idx ks kd n0 n1 : Nat} {rs0 rs1 : List Nat} {sp dp n : Int} (hd : decode (mC y) pc = .ok (.invokestatic idx, 3)) (hq : pc + 3 = q) (hlk : Cond.methodLink (mO y) idx arraycopyName ∈ TB) (hnat : Cond.native arraycopyName ∈ TB) (hst : Cond.static arraycopyName ∈ TB) (hin : Cond.initialized "java/lang/System" ∈ TB) (hs0 : shp ks = (0, n0, rs0)) (hs1 : shp kd = (0, n1, rs1)) (hn0 : 0 < n0 ∧ n0 < 2147483648) (hn1 : 0 < n1 ∧ n1 < 2147483648) (hn : 0 < d) (hsz : st.length ≤ 8)
    (h : (0 ≤ sp ∧ 0 ≤ dp ∧ 0 ≤ n ∧ sp + n ≤ n0 ∧ dp + n ≤ n1) ∧ ∀ μ1 : Mem, μ1 = cpm μ ks sp kd dp n → Gg E d y q ls st μ1 Q) : Gg E d y pc ls (.inl n :: .inl dp :: .inr kd :: .inl sp :: .inr ks :: st) μ Q := r_acpy hd hq hlk hnat hst hin hs0 hs1 hn0 hn1 hn hsz ⟨h.1, h.2 _ rfl⟩
variable {idx d' k ci n N nn : Nat} {y' : Mth} {rs : List Nat} {T : u_T}
theorem r_callVi (as : List Vl) (hd : decode (mC y) pc = .ok (.invokevirtual idx, 3)) (hq : pc + 3 = q) (hM : Mv y' nn) (hlk : Cond.methodLink (mO y) idx (mN y') ∈ TB) (hs : shp k = (ci + 4, n, rs)) (hcl : vwCl[ci]? = some (mO y', T, N)) (hn : as.length = nn) (hdd : d' + 1 ≤ d) (hsz : st.length ≤ 8) (hst : stk = as.reverse ++ .inr k :: st)
    (kk : Cl E d' y' (.inr k :: as) μ (fun v μ' => ∃ x, v = some (.inl x) ∧ Gg E d y q ls (.inl x :: st) μ' Q)) : Gg E d y pc ls stk μ Q := r_callV as hd hq hM hlk hs hcl hn hdd hsz hst (kk.imp (by rintro v μ' ⟨x, rfl, h⟩; exact h))
theorem r_callVv (as : List Vl) (hd : decode (mC y) pc = .ok (.invokevirtual idx, 3)) (hq : pc + 3 = q) (hM : Mv y' nn) (hlk : Cond.methodLink (mO y) idx (mN y') ∈ TB) (hs : shp k = (ci + 4, n, rs)) (hcl : vwCl[ci]? = some (mO y', T, N)) (hn : as.length = nn) (hdd : d' + 1 ≤ d) (hsz : st.length ≤ 8) (hst : stk = as.reverse ++ .inr k :: st)
    (kk : Cl E d' y' (.inr k :: as) μ (fun v μ' => v = none ∧ Gg E d y q ls st μ' Q)) : Gg E d y pc ls stk μ Q := r_callV as hd hq hM hlk hs hcl hn hdd hsz hst (kk.imp (by rintro v μ' ⟨rfl, h⟩; exact h))
theorem r_callVr (as : List Vl) (hd : decode (mC y) pc = .ok (.invokevirtual idx, 3)) (hq : pc + 3 = q) (hM : Mv y' nn) (hlk : Cond.methodLink (mO y) idx (mN y') ∈ TB) (hs : shp k = (ci + 4, n, rs)) (hcl : vwCl[ci]? = some (mO y', T, N)) (hn : as.length = nn) (hdd : d' + 1 ≤ d) (hsz : st.length ≤ 8) (hst : stk = as.reverse ++ .inr k :: st)
    (kk : Cl E d' y' (.inr k :: as) μ (fun v μ' => ∃ x, v = some (.inr x) ∧ Gg E d y q ls (.inr x :: st) μ' Q)) : Gg E d y pc ls stk μ Q := r_callV as hd hq hM hlk hs hcl hn hdd hsz hst (kk.imp (by rintro v μ' ⟨x, rfl, h⟩; exact h))
theorem r_callSi (as : List Vl) (hd : decode (mC y) pc = .ok (.invokestatic idx, 3)) (hq : pc + 3 = q) (hM : Ms y' nn) (hlk : Cond.methodLink (mO y) idx (mN y') ∈ TB) (hn : as.length = nn) (hdd : d' + 1 ≤ d) (hsz : st.length ≤ 8) (hst : stk = as.reverse ++ st)
    (kk : Cl E d' y' as μ (fun v μ' => ∃ x, v = some (.inl x) ∧ Gg E d y q ls (.inl x :: st) μ' Q)) : Gg E d y pc ls stk μ Q := r_callS as hd hq hM hlk hn hdd hsz hst (kk.imp (by rintro v μ' ⟨x, rfl, h⟩; exact h))
theorem r_callSv (as : List Vl) (hd : decode (mC y) pc = .ok (.invokestatic idx, 3)) (hq : pc + 3 = q) (hM : Ms y' nn) (hlk : Cond.methodLink (mO y) idx (mN y') ∈ TB) (hn : as.length = nn) (hdd : d' + 1 ≤ d) (hsz : st.length ≤ 8) (hst : stk = as.reverse ++ st)
    (kk : Cl E d' y' as μ (fun v μ' => v = none ∧ Gg E d y q ls st μ' Q)) : Gg E d y pc ls stk μ Q := r_callS as hd hq hM hlk hn hdd hsz hst (kk.imp (by rintro v μ' ⟨rfl, h⟩; exact h))
end VR
/-! Truth values, and fewer known locals. -/
def bi (b : Bool) : Int := if b then 1 else 0
theorem bi_inR (b : Bool) : inR (bi b) := by cases b <;> decide
theorem bi_01 (b : Bool) : bi b = 0 ∨ bi b = 1 := by cases b <;> decide
theorem bi_eq0 {b : Bool} : bi b = 0 ↔ b = false := by cases b <;> decide
theorem bi_ne0 {b : Bool} : bi b ≠ 0 ↔ b = true := by cases b <;> decide
section VR2
variable {E : Ex} {d : Nat} {y : Mth} {pc q t : Nat} {off : Int} {ls : List (Option Vl)} {st : List Vl} {μ : Mem} {Q : Option Vl → Mem → Prop}
theorem r_bbeq {b : Bool} (hd : decode (mC y) pc = .ok (.ifCond .eq off, 3)) (hq : pc + 3 = q) (ht : (pc : Int) + off = (t : Int)) (h : (b = false → Gg E d y t ls st μ Q) ∧ (b = true → Gg E d y q ls st μ Q)) : Gg E d y pc ls (.inl (bi b) :: st) μ Q :=
  r_ifeq hd hq ht ⟨bi_inR b, fun c => h.1 (bi_eq0.mp c), fun c => h.2 (bi_ne0.mp c)⟩
theorem r_bbne {b : Bool} (hd : decode (mC y) pc = .ok (.ifCond .ne off, 3)) (hq : pc + 3 = q) (ht : (pc : Int) + off = (t : Int)) (h : (b = true → Gg E d y t ls st μ Q) ∧ (b = false → Gg E d y q ls st μ Q)) : Gg E d y pc ls (.inl (bi b) :: st) μ Q :=
  r_ifne hd hq ht ⟨bi_inR b, fun c => h.1 (bi_ne0.mp c), fun c => h.2 (bi_eq0.mp c)⟩
theorem r_bieq {p : Prop} {hp : Decidable p} (hd : decode (mC y) pc = .ok (.ifCond .eq off, 3)) (hq : pc + 3 = q) (ht : (pc : Int) + off = (t : Int)) (h : (¬ p → Gg E d y t ls st μ Q) ∧ (p → Gg E d y q ls st μ Q)) : Gg E d y pc ls (.inl (bi (decide p)) :: st) μ Q :=
  r_bbeq hd hq ht ⟨fun c => h.1 (of_decide_eq_false c), fun c => h.2 (of_decide_eq_true c)⟩
theorem r_bine {p : Prop} {hp : Decidable p} (hd : decode (mC y) pc = .ok (.ifCond .ne off, 3)) (hq : pc + 3 = q) (ht : (pc : Int) + off = (t : Int)) (h : (p → Gg E d y t ls st μ Q) ∧ (¬ p → Gg E d y q ls st μ Q)) : Gg E d y pc ls (.inl (bi (decide p)) :: st) μ Q :=
  r_bbne hd hq ht ⟨fun c => h.1 (of_decide_eq_true c), fun c => h.2 (of_decide_eq_false c)⟩
def mask : List Bool → List (Option Vl) → List (Option Vl)
  | b :: bs, x :: xs => (if b then x else none) :: mask bs xs
  | _, _ => []
theorem mask_at : ∀ (bs : List Bool) (ls : List (Option Vl)) (i : Nat) (v : Vl), (mask bs ls)[i]? = some (some v) → ls[i]? = some (some v)
  | [], _, _, _, h => by simp [mask] at h
  | _ :: _, [], _, _, h => by simp [mask] at h
  | b :: bs, x :: xs, 0, v, h => by
    simp only [mask, List.getElem?_cons_zero, Option.some.injEq] at h
    cases b <;> simp at h
    simp [h]
  | b :: bs, x :: xs, i + 1, v, h => by
    simp only [mask, List.getElem?_cons_succ] at h ⊢
    exact mask_at bs xs i v h
theorem Gg.weak (bs : List Bool) (h : Gg E d y pc (mask bs ls) st μ Q) : Gg E d y pc ls st μ Q := by
  intro p e R s m args below meth c H locs cells slots lsA QQ C hP hS hl hr
  exact h p e R s m args below meth c H locs cells slots lsA QQ C hP hS ⟨hl.1, hl.2.1, fun i v hi => hl.2.2 i v (mask_at bs ls i v hi)⟩ hr
end VR2
