/-! Numbers: the machine's operations over whole numbers in range. -/
theorem jdiv_pos {a b : Int} (ha : 0 ≤ a) (ha2 : a < 2147483648) (hb : 0 < b) (hb2 : b < 2147483648) : jdiv a b = a / b := by
  have h1 : inR a := by omega
  have h2 : inR b := by omega
  unfold jdiv
  rw [Int32.toInt_div_of_ne_right _ _ (fun h => by
    have := congrArg Int32.toInt h
    rw [inR_toInt h2] at this
    have e : (-1 : Int32).toInt = -1 := by decide
    omega), inR_toInt h1, inR_toInt h2, Int.tdiv_eq_ediv_of_nonneg ha]
theorem jrem_pos {a b : Int} (ha : 0 ≤ a) (ha2 : a < 2147483648) (hb : 0 < b) (hb2 : b < 2147483648) : jrem a b = a % b := by
  have h3 := jdiv_pos ha ha2 hb hb2
  unfold jdiv at h3
  have h4 : Int32.ofInt a / Int32.ofInt b = Int32.ofInt (a / b) := by rw [← h3, Int32.ofInt_toInt]
  unfold jrem
  rw [h4, ← Int32.ofInt_mul, ← Int32.ofInt_sub]
  have h5 : a - a / b * b = a % b := by rw [Int.emod_def, Int.mul_comm]
  rw [h5]
  have := Int.emod_nonneg a (show b ≠ 0 by omega)
  have := Int.emod_lt_of_pos a hb
  exact inR_toInt (by omega)
theorem ofI_bv {a : Int} : (Int32.ofInt a).toBitVec = BitVec.ofInt 32 a := rfl
theorem jand7 {a : Int} : jand a 7 = a % 8 := by
  unfold jand
  rw [pk_and (Int32.ofInt a) (m := Int32.ofInt 7) 3 (by decide)]
  rw [nI_toInt (by have := Nat.mod_lt (Int32.ofInt a).toBitVec.toNat (show 0 < 2 ^ 3 by decide); omega), ofI_bv, BitVec.toNat_ofInt]
  omega
theorem jand1 {a : Int} : jand a 1 = a % 2 := by
  unfold jand
  rw [pk_and (Int32.ofInt a) (m := Int32.ofInt 1) 1 (by decide)]
  rw [nI_toInt (by have := Nat.mod_lt (Int32.ofInt a).toBitVec.toNat (show 0 < 2 ^ 1 by decide); omega), ofI_bv, BitVec.toNat_ofInt]
  omega
/-- a set of eight bits: adding one, asking for one -/
theorem bit_add : ∀ a, a < 256 → ∀ l, l < 8 → jor ((a : Nat) : Int) (jshl 1 ((l : Nat) : Int)) = ((a ||| 2 ^ l : Nat) : Int) := by decide +kernel
theorem bit_ask : ∀ a, a < 256 → ∀ l, l < 8 → jand (jshr ((a : Nat) : Int) ((l : Nat) : Int)) 1 = bi (a.testBit l) := by decide +kernel
theorem bit_xor : ∀ a, a < 256 → ∀ l, l < 8 → jxor ((a : Nat) : Int) (jshl 1 ((l : Nat) : Int)) = ((a ^^^ 2 ^ l : Nat) : Int) := by decide +kernel
theorem jand_nat {a b : Nat} (ha : a < 256) (hb : b < 256) : jand (a : Int) (b : Int) = ((a &&& b : Nat) : Int) := by
  have h : ∀ a, a < 256 → ∀ b, b < 256 → jand ((a : Nat) : Int) ((b : Nat) : Int) = ((a &&& b : Nat) : Int) := by decide +kernel
  exact h a ha b hb
theorem up_self {μ : Mem} {k : Nat} {i v : Int} : up μ k i v k i = v := by simp [up]
theorem up_off {μ : Mem} {k k' : Nat} {i i' v : Int} (h : k' ≠ k ∨ i' ≠ i) : up μ k i v k' i' = μ k' i' := by
  unfold up
  rw [if_neg]
  rintro ⟨a, b⟩
  rcases h with h | h
  · exact h a
  · exact h b
