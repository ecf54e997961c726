/-! loops; bits; small static methods -/
/-- a loop whose end is always Q, whatever junk its locals hold -/
theorem xk_down {J : Type} {P : Nat → J → Prop} {Q : Prop} {n : Nat} (base : ∀ j, P n j ↔ Q) (step : ∀ k, k < n → (∀ j, P (k + 1) j ↔ Q) → ∀ j, P k j ↔ Q) : ∀ k, k ≤ n → ∀ j, P k j ↔ Q := by
  have key : ∀ m k, k + m = n → ∀ j, P k j ↔ Q := by
    intro m
    induction m with
    | zero => intro k hk j; have : k = n := by omega
              subst this; exact base j
    | succ m ih => intro k hk j; exact step k (by omega) (ih (k + 1) (by omega)) j
  intro k hk j
  exact key (n - k) k (by omega) j
theorem xb_T {c : Prop} {i : Decidable c} (h : c) : @xb c i = xj 1 := if_pos h
theorem xb_F {c : Prop} {i : Decidable c} (h : ¬ c) : @xb c i = xj 0 := if_neg h
theorem xb_True {i : Decidable True} : @xb True i = xj 1 := if_pos trivial
theorem xb_False {i : Decidable False} : @xb False i = xj 0 := if_neg (fun q => q)
theorem xb_B {c : Prop} {i : Decidable c} : (@xb c i = 0 ∨ @xb c i = 1) := by by_cases h : c
                                                                              · rw [xb_T h]; exact xj1_01
                                                                              · rw [xb_F h]; exact xj0_01
/-- if-chains that end in truth values -/
theorem xb_if {c : Prop} [Decidable c] {A : Prop} {g : Int32 → Prop} (h1 : c → (A ↔ g (xj 1))) (h2 : ¬ c → (A ↔ g (xj 0))) : A ↔ g (xb c) := by
  unfold xb
  by_cases h : c
  · rw [if_pos h]; exact h1 h
  · rw [if_neg h]; exact h2 h
theorem xt_andnot {a b p : Nat} (hp : p < 31) : (a &&& (b ^^^ 2147483647)).testBit p = (a.testBit p && !b.testBit p) := by
  rw [Nat.testBit_and, Nat.testBit_xor]
  have : (2147483647 : Nat).testBit p = true := by
    have := Nat.testBit_two_pow_sub_one 31 p
    rw [show (2 ^ 31 - 1 : Nat) = 2147483647 from rfl] at this
    rw [this]; simp [hp]
  rw [this]
  simp
theorem xj_lt_t {a b : Int} (h : a < b) (h1 : -2147483648 ≤ a) (h4 : b ≤ 2147483647) : (xj a < xj b) = True := eq_true ((xj_lt h1 (by omega) (by omega) h4).mpr h)
theorem xj_lt_f {a b : Int} (h : b ≤ a) (h1 : -2147483648 ≤ b) (h4 : a ≤ 2147483647) : (xj a < xj b) = False := eq_false (fun q => by have := (xj_lt (by omega) h4 h1 (by omega)).mp q; omega)
theorem xj_le_t {a b : Int} (h : a ≤ b) (h1 : -2147483648 ≤ a) (h4 : b ≤ 2147483647) : (xj a ≤ xj b) = True := eq_true ((xj_le h1 (by omega) (by omega) h4).mpr h)
theorem xj_le_f {a b : Int} (h : b < a) (h1 : -2147483648 ≤ b) (h4 : a ≤ 2147483647) : (xj a ≤ xj b) = False := eq_false (fun q => by have := (xj_le (by omega) h4 h1 (by omega)).mp q; omega)
theorem xj_eq_t {a b : Int} (h : a = b) : (xj a = xj b) = True := eq_true (by rw [h])
theorem xj_eq_f {a b : Int} (h : a ≠ b) (h1 : -2147483648 ≤ a) (h2 : a ≤ 2147483647) (h3 : -2147483648 ≤ b) (h4 : b ≤ 2147483647) : (xj a = xj b) = False := eq_false (fun q => h ((xj_eq h1 h2 h3 h4).mp q))
theorem xn_and {a b : Nat} (h : a < 2147483648) : a &&& b < 2147483648 := Nat.lt_of_le_of_lt Nat.and_le_left h
section XS21
variable {D a o k n p : Nat} {f : Nat → xk_C} {w : Nat × Nat × Nat} {K : Option Value → xk_S → Prop}
theorem s_has (hD : 1 ≤ D) (hn : n < 2147483648) (hk : k < 32) : xk_Cl D 136 [.int (xj n), .int (xj k)] (f, w) K ↔ K (some (.int (xb (n.testBit k = true)))) (f, w) := by
  rw [e136 hD]
  simp only [b136_0, b136_1, b136_2, b136_3, b136_4, b136_5, b136_6, b136_9, b136_10, b136_13, b136_14, b136_14o, b136_14z, b136_14c, xj_bit hn hk]
  cases h : n.testBit k
  · simp only [Bool.false_eq_true, if_false, show ¬ xj 0 = xj 1 from by decide, not_false_eq_true, if_true, b136_14 xj0_01, xb]
  · simp only [if_true, not_true_eq_false, if_false, b136_14 xj1_01, xb]
theorem s_bit (hD : 1 ≤ D) (hn : n < 2147483648) (hk : k < 32) : xk_Cl D 135 [.int (xj n), .int (xj k)] (f, w) K ↔ K (some (.int (xb (n.testBit k = true)))) (f, w) := by
  rw [e135 hD]
  simp only [b135_0, b135_1, b135_2, b135_3, b135_4, b135_5, xj_bit hn hk, xb]
theorem s_isOf (hD : 1 ≤ D) (hn : n < 2147483648) (hk : k < 32) : xk_Cl D 142 [.int (xj n), .int (xj k)] (f, w) K ↔ K (some (.int (xb (n.testBit k = true)))) (f, w) := by
  rw [e142 hD]
  simp only [b142_0, b142_1, b142_2, b142_3, b142_4, b142_5, b142_6, b142_9, b142_10, b142_13, b142_14, b142_14o, b142_14z, b142_14c, xj_bit hn hk]
  cases h : n.testBit k
  · simp only [Bool.false_eq_true, if_false, show ¬ xj 0 = xj 1 from by decide, not_false_eq_true, if_true, xj0_01, b142_14, xb]
  · simp only [if_true, not_true_eq_false, if_false, xj1_01, b142_14, xb]
end XS21
