/-! NUMBERS: ints of the machine by whole numbers -/
theorem xj_toInt {z : Int} (h1 : -2147483648 ≤ z) (h2 : z ≤ 2147483647) : (xj z).toInt = z := by
  unfold xj
  exact Int32.toInt_ofInt_of_le (by simpa using h1) (by omega)
theorem xj_self (x : Int32) : xj x.toInt = x := by
  unfold xj
  simp
theorem xj_rng (x : Int32) : -2147483648 ≤ x.toInt ∧ x.toInt ≤ 2147483647 := by
  have h1 := Int32.le_toInt x
  have h2 := Int32.toInt_lt x
  constructor <;> omega
theorem xj_of (x : Int32) : ∃ z : Int, x = xj z ∧ -2147483648 ≤ z ∧ z ≤ 2147483647 := ⟨x.toInt, (xj_self x).symm, (xj_rng x).1, (xj_rng x).2⟩
theorem xj_add (a b : Int) : xj a + xj b = xj (a + b) := by
  unfold xj
  exact (Int32.ofInt_add a b).symm
theorem xj_mul (a b : Int) : xj a * xj b = xj (a * b) := by
  unfold xj
  exact (Int32.ofInt_mul a b).symm
theorem xj_sub (a b : Int) : xj a - xj b = xj (a - b) := by
  unfold xj
  exact (Int32.ofInt_sub a b).symm
theorem xj_neg (a : Int) : -xj a = xj (-a) := by
  unfold xj
  exact (Int32.ofInt_neg a).symm
theorem xj_eq {a b : Int} (h1 : -2147483648 ≤ a) (h2 : a ≤ 2147483647) (h3 : -2147483648 ≤ b) (h4 : b ≤ 2147483647) : (xj a = xj b) ↔ a = b := by
  constructor
  · intro h
    rw [← xj_toInt h1 h2, h, xj_toInt h3 h4]
  · intro h; rw [h]
theorem xj_lt {a b : Int} (h1 : -2147483648 ≤ a) (h2 : a ≤ 2147483647) (h3 : -2147483648 ≤ b) (h4 : b ≤ 2147483647) : (xj a < xj b) ↔ a < b := by
  rw [Int32.lt_iff_toInt_lt, xj_toInt h1 h2, xj_toInt h3 h4]
theorem xj_le {a b : Int} (h1 : -2147483648 ≤ a) (h2 : a ≤ 2147483647) (h3 : -2147483648 ≤ b) (h4 : b ≤ 2147483647) : (xj a ≤ xj b) ↔ a ≤ b := by
  rw [Int32.le_iff_toInt_le, xj_toInt h1 h2, xj_toInt h3 h4]
theorem xj_nat {z : Int} (h1 : 0 ≤ z) (h2 : z ≤ 2147483647) : (xj z).toNatClampNeg = z.toNat := by
  show (xj z).toInt.toNat = z.toNat
  rw [xj_toInt (by omega) h2]
theorem xj_0 : (0 : Int32) = xj 0 := by decide
theorem xj_1 : (1 : Int32) = xj 1 := by decide
theorem xj_31 : (31 : Int32) = xj 31 := by decide
theorem xj_ofNat (n : Nat) : Int32.ofNat n = xj n := by
  unfold xj
  exact (Int32.ofInt_eq_ofNat).symm
/-- an index within -/
theorem xj_in {z : Int} {n : Nat} (h1 : 0 ≤ z) (h2 : z < n) (h3 : z ≤ 2147483647) : (¬ (xj z < 0 ∨ n ≤ (xj z).toNatClampNeg)) ↔ True := by
  rw [xj_nat h1 h3, xj_0, xj_lt (by omega) h3 (by omega) (by omega)]
  simp only [iff_true]
  omega
/-- a truth value -/
def xb (c : Prop) [Decidable c] : Int32 := if c then xj 1 else xj 0
theorem xb_01 {c : Prop} [Decidable c] : (xb c = 0 ∨ xb c = 1) := by
  unfold xb
  split
  · exact Or.inr (by decide)
  · exact Or.inl (by decide)
theorem xb_eq0 {c : Prop} [Decidable c] : (xb c = xj 0) ↔ ¬ c := by
  unfold xb
  split
  · simp [*]; decide
  · simp [*]
theorem xb_t {c : Prop} [Decidable c] (h : c) : xb c = xj 1 := if_pos h
theorem xb_f {c : Prop} [Decidable c] (h : ¬ c) : xb c = xj 0 := if_neg h
theorem xj1_01 : (xj 1 = 0 ∨ xj 1 = 1) := Or.inr (by decide)
theorem xj0_01 : (xj 0 = 0 ∨ xj 0 = 1) := Or.inl (by decide)
theorem xj_bv {n : Nat} (h : n < 2147483648) : (xj n).toBitVec = BitVec.ofNat 32 n := by
  unfold xj
  rw [Int32.ofInt_eq_ofNat]
  rfl
theorem xj_and {a b : Nat} (ha : a < 2147483648) (hb : b < 2147483648) : xj a &&& xj b = xj ((a &&& b : Nat) : Int) := by
  apply Int32.toBitVec_inj.mp
  rw [Int32.toBitVec_and, xj_bv ha, xj_bv hb, xj_bv (Nat.lt_of_le_of_lt Nat.and_le_left ha)]
  apply BitVec.eq_of_toNat_eq
  simp only [BitVec.toNat_and, BitVec.toNat_ofNat]
  rw [Nat.mod_eq_of_lt (show a < 2 ^ 32 by omega), Nat.mod_eq_of_lt (show b < 2 ^ 32 by omega), Nat.mod_eq_of_lt (Nat.lt_of_le_of_lt Nat.and_le_left (show a < 2 ^ 32 by omega))]
theorem xj_or {a b : Nat} (ha : a < 2147483648) (hb : b < 2147483648) : xj a ||| xj b = xj ((a ||| b : Nat) : Int) := by
  have hab : a ||| b < 2147483648 := Nat.or_lt_two_pow (n := 31) ha hb
  apply Int32.toBitVec_inj.mp
  rw [Int32.toBitVec_or, xj_bv ha, xj_bv hb, xj_bv hab]
  apply BitVec.eq_of_toNat_eq
  simp only [BitVec.toNat_or, BitVec.toNat_ofNat]
  rw [Nat.mod_eq_of_lt (show a < 2 ^ 32 by omega), Nat.mod_eq_of_lt (show b < 2 ^ 32 by omega), Nat.mod_eq_of_lt (show a ||| b < 2 ^ 32 by omega)]
/-- x & ~y of sets -/
theorem xj_andnot {a b : Nat} (ha : a < 2147483648) (hb : b < 2147483648) : xj a &&& (xj b ^^^ xj (-1)) = xj ((a &&& (b ^^^ 2147483647) : Nat) : Int) := by
  have hx : b ^^^ 2147483647 < 2147483648 := Nat.xor_lt_two_pow (n := 31) hb (by omega)
  apply Int32.toBitVec_inj.mp
  rw [Int32.toBitVec_and, Int32.toBitVec_xor, xj_bv ha, xj_bv hb, xj_bv (Nat.lt_of_le_of_lt Nat.and_le_left ha)]
  apply BitVec.eq_of_getLsbD_eq
  intro i hi
  have hm : (xj (-1)).toBitVec = BitVec.allOnes 32 := by decide
  rw [hm]
  simp only [BitVec.getLsbD_and, BitVec.getLsbD_xor, BitVec.getLsbD_ofNat, BitVec.getLsbD_allOnes, Nat.testBit_and, Nat.testBit_xor, hi, decide_true, Bool.true_and, Bool.and_true]
  by_cases h31 : i < 31
  · have : (2147483647 : Nat).testBit i = true := by
      have := Nat.testBit_two_pow_sub_one 31 i
      simpa [h31] using this
    rw [this]
  · have : a.testBit i = false := Nat.testBit_lt_two_pow (Nat.lt_of_lt_of_le (show a < 2 ^ 31 from ha) (Nat.pow_le_pow_right (by omega) (show 31 ≤ i by omega)))
    rw [this]; simp
theorem xj_k31 {k : Nat} (hk : k < 32) : xj k &&& xj 31 = xj k := by
  rw [show (31 : Int) = ((31 : Nat) : Int) from rfl, xj_and (by omega) (by omega)]
  have h := Nat.and_two_pow_sub_one_eq_mod k 5
  rw [show (2 ^ 5 - 1 : Nat) = 31 from rfl, show (2 ^ 5 : Nat) = 32 from rfl, Nat.mod_eq_of_lt hk] at h
  rw [h]
theorem xj_nI (n : Nat) : nI n = xj n := xj_ofNat n
theorem bt_xj {a : Nat} (ha : a < 2147483648) {i : Nat} : bt (xj a) i = a.testBit i := by
  unfold bt
  rw [xj_bv ha, BitVec.getLsbD_ofNat]
  by_cases h : i < 32
  · simp [h]
  · have : a.testBit i = false := Nat.testBit_lt_two_pow (Nat.lt_of_lt_of_le (show a < 2 ^ 31 from ha) (Nat.pow_le_pow_right (by omega) (show 31 ≤ i by omega)))
    rw [this]; simp
theorem xj_shr {a k : Nat} (ha : a < 2147483648) (hk : k < 32) : xj a >>> (xj k &&& 31) = xj ((a >>> k : Nat) : Int) := by
  have hs : a >>> k < 2147483648 := Nat.lt_of_le_of_lt (Nat.shiftRight_le a k) ha
  apply b_ext
  intro i hi
  rw [← xj_nI k, b_sshr k hk _ hi, bt_xj ha, bt_xj hs, Nat.testBit_shiftRight, bt_xj ha]
  by_cases h : k + i < 32
  · rw [if_pos h]
  · rw [if_neg h]
    have e1 : a.testBit 31 = false := Nat.testBit_lt_two_pow ha
    have e2 : a.testBit (k + i) = false := Nat.testBit_lt_two_pow (Nat.lt_of_lt_of_le (show a < 2 ^ 31 from ha) (Nat.pow_le_pow_right (by omega) (show 31 ≤ k + i by omega)))
    rw [e1, e2]
theorem xj_shl1 {k : Nat} (hk : k < 31) : xj 1 <<< (xj k &&& 31) = xj ((2 ^ k : Nat) : Int) := by
  have : ∀ k, k < 31 → xj 1 <<< (xj ((k : Nat) : Int) &&& 31) = xj ((2 ^ k : Nat) : Int) := by decide +kernel
  exact this k hk
/-- the k-th bit -/
theorem xj_bit {a k : Nat} (ha : a < 2147483648) (hk : k < 32) : (xj a >>> (xj k &&& 31)) &&& xj 1 = if a.testBit k then xj 1 else xj 0 := by
  rw [xj_shr ha hk, show (1 : Int) = ((1 : Nat) : Int) from rfl, xj_and (Nat.lt_of_le_of_lt (Nat.shiftRight_le a k) ha) (by omega)]
  rw [Nat.and_one_is_mod, Nat.testBit_eq_decide_div_mod_eq, Nat.shiftRight_eq_div_pow]
  have : a / 2 ^ k % 2 = 0 ∨ a / 2 ^ k % 2 = 1 := by omega
  rcases this with h | h <;> simp [h]
