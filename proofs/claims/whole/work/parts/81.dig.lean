/-! Numbers by figures. -/
section P81
variable {B z y q l : Int} {m : Nat}
def dgt (B z : Int) (m : Nat) : Int := z / B ^ m % B
theorem dv_succ (hB : 0 < B) : z / B ^ (m + 1) = z / B ^ m / B := by
  rw [Int.pow_succ, Int.ediv_ediv_of_nonneg (Int.le_of_lt (Int.pow_pos hB))]
theorem dv_one (hB : 0 < B) : z / B ^ (m + 1) = z / B / B ^ m := by
  rw [Int.pow_succ', Int.ediv_ediv_of_nonneg (Int.le_of_lt hB)]
theorem dgt_rng (hB : 0 < B) : 0 ≤ dgt B z m ∧ dgt B z m < B := ⟨Int.emod_nonneg _ (by omega), Int.emod_lt_of_pos _ hB⟩
theorem blk_dn (hB : 0 < B) (h : z / B ^ (m + 1) = q) : z / B ^ m = q * B + dgt B z m := by
  rw [dv_succ hB] at h
  have := Int.mul_ediv_add_emod (z / B ^ m) B
  rw [h] at this
  unfold dgt
  rw [Int.mul_comm q B]
  exact this.symm
theorem blk_up (hB : 0 < B) (l0 : 0 ≤ l) (l1 : l < B) (h : z / B ^ m = q * B + l) : z / B ^ (m + 1) = q ∧ dgt B z m = l := by
  rw [dv_succ hB]
  unfold dgt
  rw [h, Int.add_comm (q * B) l, Int.add_mul_ediv_right _ _ (by omega), Int.add_mul_emod_self_right, Int.ediv_eq_zero_of_lt l0 l1, Int.emod_eq_of_lt l0 l1]
  exact ⟨Int.zero_add q, rfl⟩
theorem blk_0 (hz : 0 ≤ z) (h : z < B ^ m) : z / B ^ m = 0 := Int.ediv_eq_zero_of_lt hz h
theorem blk_lt (hB : 0 < B) (h : z / B ^ m = 0) : z < B ^ m := by
  have := Int.lt_mul_of_ediv_lt (a := z) (b := 1) (Int.pow_pos hB : 0 < B ^ m) (by omega)
  rwa [Int.one_mul] at this
theorem blk_mono (hB : 0 < B) (h : y / B ^ m < z / B ^ m) : y < z :=
  Int.lt_of_not_ge (fun hge => absurd (Int.ediv_le_ediv (Int.pow_pos hB : 0 < B ^ m) hge) (by omega))
/-- same figures, same number -/
theorem dg_inj (hB : 0 < B) : ∀ m : Nat, z / B ^ m = y / B ^ m → (∀ i, i < m → dgt B z i = dgt B y i) → z = y
  | 0, h, _ => by rwa [Int.pow_zero, Int.ediv_one, Int.ediv_one] at h
  | m + 1, h, hd => dg_inj hB m ((blk_dn hB h).trans (by rw [hd m (by omega)]; exact (blk_dn (z := y) hB rfl).symm)) (fun i hi => hd i (by omega))
theorem dg_ex (hB : 0 < B) (f : Int → Int) : ∀ n : Nat, (∀ i, 0 ≤ i → i < (n : Int) → 0 ≤ f i ∧ f i < B) → ∃ z : Int, 0 ≤ z ∧ z / B ^ n = 0 ∧ ∀ i, 0 ≤ i → i < (n : Int) → dgt B z ((n : Int) - 1 - i).toNat = f i := by
  intro n
  induction n with
  | zero => exact fun _ => ⟨0, Int.le_refl _, Int.zero_ediv _, fun i i0 i1 => absurd i1 (by omega)⟩
  | succ n ih =>
    intro hf
    obtain ⟨z, z0, z1, z2⟩ := ih (fun i i0 i1 => hf i i0 (by omega))
    have fn := hf (n : Int) (by omega) (by omega)
    have up1 := blk_up (z := z * B + f n) (q := z) (m := 0) hB fn.1 fn.2 (by rw [Int.pow_zero, Int.ediv_one])
    have d1 : (z * B + f n) / B = z := by
      have := up1.1
      rwa [show (0 : Nat) + 1 = 1 from rfl, Int.pow_one] at this
    refine ⟨z * B + f n, Int.add_nonneg (Int.mul_nonneg z0 (Int.le_of_lt hB)) fn.1, by rw [dv_one hB, d1, z1], fun i i0 i1 => ?_⟩
    by_cases e : i = n
    · subst e
      rw [show (((n + 1 : Nat) : Int) - 1 - (n : Int)).toNat = 0 by omega]
      exact up1.2
    · rw [show (((n + 1 : Nat) : Int) - 1 - i).toNat = ((n : Int) - 1 - i).toNat + 1 by omega]
      have := z2 i i0 (by omega)
      unfold dgt at this ⊢
      rw [dv_one hB, d1, this]
theorem cntI_far {f : Int → Bool} : ∀ (r : Nat) (p : Int), 0 ≤ p → cntI f p ≤ cntI f (p + r) ∧ cntI f (p + r) ≤ cntI f p + r := by
  intro r
  induction r with
  | zero => intro p hp; rw [show p + ((0 : Nat) : Int) = p by omega]; omega
  | succ r ih =>
    intro p hp
    have := ih p hp
    rw [show p + ((r + 1 : Nat) : Int) = p + (r : Int) + 1 by omega, cntI_succ (by omega)]
    have : 0 ≤ bi (f (p + r)) ∧ bi (f (p + r)) ≤ 1 := by cases f (p + r) <;> decide
    omega
/-- how many letters are others -/
def oc (own : Int → Int) (n z k : Int) : Int := cntI (fun i => decide (dgt 8 z (n - 1 - i).toNat ≠ own i)) k
theorem oc_succ {own : Int → Int} {n k : Int} (hk : 0 ≤ k) : oc own n z (k + 1) = oc own n z k + (if dgt 8 z (n - 1 - k).toNat = own k then 0 else 1) := by
  unfold oc
  rw [cntI_succ hk]
  congr 1
  by_cases h : dgt 8 z (n - 1 - k).toNat = own k
  · rw [if_pos h, decide_eq_false (fun q => q h)]; rfl
  · rw [if_neg h, decide_eq_true h]; rfl
theorem oc_far {own : Int → Int} {n p : Int} (hp : 0 ≤ p) (hn : p ≤ n) : oc own n z p ≤ oc own n z n ∧ oc own n z n ≤ oc own n z p + (n - p) := by
  have := cntI_far (f := fun i => decide (dgt 8 z (n - 1 - i).toNat ≠ own i)) (n - p).toNat p hp
  rw [show p + ((n - p).toNat : Int) = n by omega] at this
  unfold oc
  omega
theorem oc_rng {own : Int → Int} {n k : Int} (hk : 0 ≤ k) : 0 ≤ oc own n z k ∧ oc own n z k ≤ k := cntI_rng k hk
theorem oc_0 {own : Int → Int} {n : Int} (hn : 0 ≤ n) (h : oc own n z n = 0) : ∀ i, 0 ≤ i → i < n → dgt 8 z (n - 1 - i).toNat = own i := by
  intro i i0 i1
  by_cases e : dgt 8 z (n - 1 - i).toNat = own i
  · exact e
  · have a := (oc_far (z := z) (own := own) (n := n) (p := i + 1) (by omega) (by omega)).1
    have b := oc_succ (z := z) (own := own) (n := n) i0
    have c := (oc_rng (z := z) (own := own) (n := n) i0).1
    rw [if_neg e] at b
    omega
theorem oc_own {own : Int → Int} {n : Int} (hn : 0 ≤ n) (h : ∀ i, 0 ≤ i → i < n → dgt 8 z (n - 1 - i).toNat = own i) : oc own n z n = 0 := by
  have : oc own n z n = cntI (fun _ => false) n := cntI_congr (fun i i0 i1 => decide_eq_false (fun q => q (h i i0 i1)))
  rw [this]
  have h := foldI_inv (g := fun (_ : Int) (a : Int) => a + bi false) (a := (0 : Int)) (I := fun _ a => a = 0) (N := n) rfl (fun p x _ _ hx => by show x + 0 = 0; omega) n hn (Int.le_refl _)
  exact h
end P81
