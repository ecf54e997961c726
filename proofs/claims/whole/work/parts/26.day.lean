/-! the day's methods, but the signing -/
theorem xj_div {a b : Int} (h1 : 0 ≤ a) (h2 : a ≤ 2147483647) (h3 : 0 < b) (h4 : b ≤ 2147483647) : xj a / xj b = xj (a / b) := by
  have hb : (xj b).toInt = b := xj_toInt (by omega) h4
  have ha : (xj a).toInt = a := xj_toInt (by omega) h2
  have hr : 0 ≤ a / b := Int.ediv_nonneg h1 (by omega)
  have hr2 : a / b ≤ a := Int.ediv_le_self b h1
  have hne : xj b ≠ -1 := fun q => by
    have : (xj b).toInt = (-1 : Int32).toInt := by rw [q]
    rw [hb, show (-1 : Int32).toInt = -1 by decide] at this
    omega
  apply Int32.toInt_inj.mp
  rw [Int32.toInt_div_of_ne_right _ _ hne, ha, hb, xj_toInt (by omega) (by omega), Int.tdiv_eq_ediv_of_nonneg h1]
theorem xj_ne0 {b : Int} (h3 : 0 < b) (h4 : b ≤ 2147483647) : ¬ xj b = 0 := fun q => by
  rw [xj_0] at q
  have := (xj_eq (by omega) h4 (by omega) (by omega)).mp q
  omega
/-- what is known of a day -/
def xw_Day (O : Of) (d : Dy) : Prop := 0 ≤ d.1 ∧ d.1 ≤ 9999 ∧ -1 ≤ d.2.1 ∧ d.2.1 ≤ 3 ∧ 0 ≤ d.2.2.1 ∧ d.2.2.1 ≤ 99 ∧ 0 ≤ d.2.2.2.1 ∧ d.2.2.2.1 ≤ 200 ∧ d.2.2.2.2.1 < 2 ^ of_np O ∧ d.2.2.2.2.2.1 < 2 ^ of_np O ∧ d.2.2.2.2.2.2.1 < 2 ^ of_np O ∧ (∀ p, p < of_np O → -1 ≤ d.2.2.2.2.2.2.2 p ∧ d.2.2.2.2.2.2.2 p ≤ 9999)
theorem xw_Off.n31 {O : Of} (hw : xw_Off O) {n : Nat} (h : n < 2 ^ of_np O) : n < 2147483648 := Nat.lt_of_lt_of_le h (p2le (by have := hw.2.2.2.1; omega))
theorem xw_Off.sm {O : Of} (hw : xw_Off O) : 0 ≤ of_ink O ∧ of_ink O ≤ 99 ∧ 0 ≤ of_nib O ∧ of_nib O ≤ 200 ∧ 0 ≤ of_fill O ∧ of_fill O ≤ 20 := by
  rcases hw.1 with h | h <;> omega
def goodF (d : Dy) : Nat := d.2.2.2.2.1 &&& (d.2.2.2.2.2.1 ^^^ 2147483647)
def inTF (O : Of) (d : Dy) (p : Nat) : Bool := (goodF d).testBit p && decide (d.2.2.2.2.2.2.2 p ≤ of_du O p)
def fillF (O : Of) (d : Dy) (s : Int) : Int := if s ≤ d.2.2.1 ∨ of_ink O < 1 then 0 else (s + of_ink O - 1) / of_ink O
def thereF (O : Of) (d : Dy) (p : Nat) : Int := d.1 + fillF O d (of_sk O p) * of_fill O + wayF O d.2.1 (of_ow O p) + (if d.2.2.2.1 < of_sk O p then 3 else 0)
def beginF (O : Of) (d : Dy) (p : Nat) : Int := freeF O (of_ow O p) (thereF O d p) (of_sk O p)
def canF (O : Of) (d : Dy) (z : Int) : Bool := decide ((0 ≤ z ∧ z < of_np O) ∧ d.2.2.2.2.1.testBit z.toNat = false ∧ beginF O d z.toNat + of_sk O z.toNat ≤ 9999)
def noRF (O : Of) (d : Dy) (p q : Nat) : Bool := decide (d.2.2.2.2.2.2.1.testBit p = false ∧ ¬ ((of_re O p &&& q) &&& (goodF d ^^^ 2147483647)) = 0)
theorem fillF_rng {O : Of} {d : Dy} {s : Int} (hw : xw_Off O) (h1 : 1 ≤ s) (h2 : s ≤ 20) : 0 ≤ fillF O d s ∧ fillF O d s ≤ 20 := by
  unfold fillF
  have := hw.sm
  split
  · omega
  · rename_i h
    have h3 : 1 ≤ of_ink O := by omega
    constructor
    · exact Int.ediv_nonneg (by omega) (by omega)
    · have : (s + of_ink O - 1) / of_ink O < 21 := Int.ediv_lt_of_lt_mul (by omega) (by
        have : of_ink O * 1 ≤ of_ink O * 20 := by omega
        omega)
      omega
theorem wayF_rng {O : Of} {x y : Int} (hw : xw_Off O) : 0 ≤ wayF O x y ∧ wayF O x y ≤ 20 := by
  unfold wayF
  split
  · rename_i h
    have s1 := hw.2.2.2.2.1 x.toNat (by omega)
    have s2 := hw.2.2.2.2.1 y.toNat (by omega)
    split <;> omega
  · omega
theorem mul_rng {a b : Int} {m n : Int} (h1 : 0 ≤ a) (h2 : a ≤ m) (h3 : 0 ≤ b) (h4 : b ≤ n) : 0 ≤ a * b ∧ a * b ≤ m * n :=
  ⟨Int.mul_nonneg h1 h3, Int.mul_le_mul h2 h4 h3 (by omega)⟩
theorem thereF_rng {O : Of} {d : Dy} {p : Nat} (hw : xw_Off O) (hd : xw_Day O d) (hp : p < of_np O) : 0 ≤ thereF O d p ∧ thereF O d p ≤ 10500 := by
  have hs := hw.2.2.2.2.2.2 p hp
  have h1 := fillF_rng (d := d) hw hs.2.2.1 hs.2.2.2.1
  have h2 := wayF_rng (x := d.2.1) (y := of_ow O p) hw
  have h3 := hw.sm
  have h4 := mul_rng h1.1 h1.2 h3.2.2.2.2.1 h3.2.2.2.2.2
  have h5 := hd.1
  have h6 := hd.2.1
  unfold thereF
  split <;> omega
theorem beginF_rng {O : Of} {d : Dy} {p : Nat} (hw : xw_Off O) (hd : xw_Day O d) (hp : p < of_np O) : 0 ≤ beginF O d p ∧ beginF O d p ≤ 10500 := by
  have h1 := thereF_rng hw hd hp
  have h2 := fr_out_rng (c := of_ow O p) (n := of_sk O p) hw (of_na O) (thereF O d p)
  unfold beginF freeF
  omega
section XS26
variable {D a o k p q : Nat} {f : Nat → xk_C} {w : Nat × Nat × Nat} {K : Option Value → xk_S → Prop} {O : Of} {d : Dy} {c m n z : Int}
theorem s_unsigned (hD : 1 ≤ D) (ho : xv_Off f o O) (hw : xw_Off O) (h : xv_Day f a d) (hd : xw_Day O d) : xk_Cl D 4 [.ref a, .ref o] (f, w) K ↔ K (some (.int (xj ((2 ^ of_np O - 1) &&& (d.2.2.2.2.1 ^^^ 2147483647) : Nat)))) (f, w) := by
  rw [e4 (by omega)]
  have hn := hw.2.2.2.1
  have hp := Nat.two_pow_pos (of_np O)
  have hl : 2 ^ of_np O < 2147483648 := p2lt (by omega)
  have hs : d.2.2.2.2.1 < 2147483648 := hw.n31 hd.2.2.2.2.2.2.2.2.1
  have e : xj ((2 ^ of_np O : Nat) : Int) - xj 1 = xj ((2 ^ of_np O - 1 : Nat) : Int) := by rw [xj_sub]; congr 1; omega
  simp (disch := omega) only [b4_0, b4_1, b4_2, b4_5, b4_6, b4_7, b4_8, b4_9, b4_12, b4_13, b4_14, b4_15, ↓xk_GF, ↓xk_PF, ↓xk_AL, ↓xk_AS, ↓xk_LN, ↓xk_RC, List.getElem?_cons_zero, List.getElem?_cons_succ, List.length_cons, List.length_nil, List.set_cons_zero, List.set_cons_succ, true_and, and_true, Option.toList_some, Option.toList_none, List.cons_append, List.nil_append, ↓reduceIte, Nat.reduceAdd, xj0_01, xj1_01, xb_B, xb_True, xb_False, ho.at.1, h.1, xc_Day, xj_shl1 (k := of_np O) (by omega), e, xj_andnot (a := 2 ^ of_np O - 1) (by omega) hs]
theorem s_inTime (hD : 2 ≤ D) (ho : xv_Off f o O) (hw : xw_Off O) (h : xv_Day f a d) (hd : xw_Day O d) (hp : p < of_np O) : xk_Cl D 5 [.ref a, .ref o, .int (xj p)] (f, w) K ↔ K (some (.int (xb (inTF O d p = true)))) (f, w) := by
  rw [e5 (by omega)]
  have hn := hw.2.2.2.1
  have hs : d.2.2.2.2.1 < 2147483648 := hw.n31 hd.2.2.2.2.2.2.2.2.1
  have hv : d.2.2.2.2.2.1 < 2147483648 := hw.n31 hd.2.2.2.2.2.2.2.2.2.1
  have he := hd.2.2.2.2.2.2.2.2.2.2.2 p hp
  have hu := hw.2.2.2.2.2.2 p hp
  obtain ⟨ho0, -, -, -, -, -, -, ho7, -⟩ := ho.at
  simp (disch := omega) only [b5_0, b5_1, b5_4, b5_5, b5_8, b5_9, b5_10, b5_11, b5_12, ↓xk_GF, ↓xk_PF, ↓xk_AL, ↓xk_AS, ↓xk_LN, ↓xk_RC, List.getElem?_cons_zero, List.getElem?_cons_succ, List.length_cons, List.length_nil, List.set_cons_zero, List.set_cons_succ, true_and, and_true, Option.toList_some, Option.toList_none, List.cons_append, List.nil_append, ↓reduceIte, Nat.reduceAdd, xj0_01, xj1_01, xb_B, xb_True, xb_False, h.1, xc_Day, xj_andnot hs hv, s_has (D := D - 1) (k := p) (by omega) (xn_and (b := d.2.2.2.2.2.1 ^^^ 2147483647) hs) (by omega)]
  unfold inTF goodF
  cases h1 : (d.2.2.2.2.1 &&& (d.2.2.2.2.2.1 ^^^ 2147483647)).testBit p
  · simp (disch := omega) only [b5_0, b5_1, b5_4, b5_5, b5_8, b5_9, b5_10, b5_11, b5_12, b5_15, b5_18, b5_19, b5_22, b5_23, b5_24, b5_25, b5_28, b5_29, b5_30, b5_33, b5_34, b5_37, b5_38, b5_38o, b5_38z, b5_38c, ↓xk_GF, ↓xk_PF, ↓xk_AL, ↓xk_AS, ↓xk_LN, ↓xk_RC, List.getElem?_cons_zero, List.getElem?_cons_succ, List.length_cons, List.length_nil, List.set_cons_zero, List.set_cons_succ, true_and, and_true, Option.toList_some, Option.toList_none, List.cons_append, List.nil_append, ↓reduceIte, Nat.reduceAdd, xj0_01, xj1_01, xb_B, xb_True, xb_False, xb_F, Bool.false_eq_true, not_false_eq_true, Bool.false_and]
  · by_cases h2 : d.2.2.2.2.2.2.2 p ≤ of_du O p
    · simp (disch := omega) only [b5_0, b5_1, b5_4, b5_5, b5_8, b5_9, b5_10, b5_11, b5_12, b5_15, b5_18, b5_19, b5_22, b5_23, b5_24, b5_25, b5_28, b5_29, b5_30, b5_33, b5_34, b5_37, b5_38, b5_38o, b5_38z, b5_38c, ↓xk_GF, ↓xk_PF, ↓xk_AL, ↓xk_AS, ↓xk_LN, ↓xk_RC, List.getElem?_cons_zero, List.getElem?_cons_succ, List.length_cons, List.length_nil, List.set_cons_zero, List.set_cons_succ, true_and, and_true, Option.toList_some, Option.toList_none, List.cons_append, List.nil_append, ↓reduceIte, Nat.reduceAdd, xj0_01, xj1_01, xb_B, xb_True, xb_False, ho0, ho7, h.1, h.2, xc_Day, ↓xj_in, xj_nat, Int.toNat_natCast, xj_lt_t, xj_lt_f, xj_le_t, xj_le_f, xj_eq_t, xj_eq_f, xj_lt, xj_le, xj_eq, xj_add, xj_sub, xj_mul, show ¬ xj 1 = xj 0 from by decide, xb_T, Bool.true_and, decide_true, h2]
    · simp (disch := omega) only [b5_0, b5_1, b5_4, b5_5, b5_8, b5_9, b5_10, b5_11, b5_12, b5_15, b5_18, b5_19, b5_22, b5_23, b5_24, b5_25, b5_28, b5_29, b5_30, b5_33, b5_34, b5_37, b5_38, b5_38o, b5_38z, b5_38c, ↓xk_GF, ↓xk_PF, ↓xk_AL, ↓xk_AS, ↓xk_LN, ↓xk_RC, List.getElem?_cons_zero, List.getElem?_cons_succ, List.length_cons, List.length_nil, List.set_cons_zero, List.set_cons_succ, true_and, and_true, Option.toList_some, Option.toList_none, List.cons_append, List.nil_append, ↓reduceIte, Nat.reduceAdd, xj0_01, xj1_01, xb_B, xb_True, xb_False, ho0, ho7, h.1, h.2, xc_Day, ↓xj_in, xj_nat, Int.toNat_natCast, xj_lt_t, xj_lt_f, xj_le_t, xj_le_f, xj_eq_t, xj_eq_f, xj_lt, xj_le, xj_eq, xj_add, xj_sub, xj_mul, show ¬ xj 1 = xj 0 from by decide, xb_T, xb_F, Bool.true_and, decide_false, h2, Bool.false_eq_true, not_false_eq_true]
theorem s_worthInTime (hD : 3 ≤ D) (ho : xv_Off f o O) (hw : xw_Off O) (h : xv_Day f a d) (hd : xw_Day O d) : xk_Cl D 6 [.ref a, .ref o] (f, w) K ↔ K (some (.int (xj (smF (inTF O d) (of_wo O) (of_np O))))) (f, w) := by
  rw [e6 (by omega)]
  have hn := hw.2.2.2.1
  simp only [b6_0, b6_1, b6_2, b6_3]
  refine xk_down (J := Unit) (n := of_np O) (P := fun r _ => xk_B (D - 1) 6 4 [.ref a, .ref o, .int (xj (smF (inTF O d) (of_wo O) r)), .int (xj r)] [] (f, w) K) (fun j => ?_) (fun r hr ih j => ?_) 0 (Nat.zero_le _) ()
  · simp (disch := omega) only [b6_0, b6_1, b6_2, b6_3, b6_4, b6_5, b6_6, b6_9, b6_12, b6_13, b6_14, b6_15, b6_18, b6_21, b6_22, b6_23, b6_26, b6_27, b6_28, b6_29, b6_30, b6_33, b6_36, b6_37, ↓xk_GF, ↓xk_PF, ↓xk_AL, ↓xk_AS, ↓xk_LN, ↓xk_RC, List.getElem?_cons_zero, List.getElem?_cons_succ, List.length_cons, List.length_nil, List.set_cons_zero, List.set_cons_succ, true_and, and_true, Option.toList_some, Option.toList_none, List.cons_append, List.nil_append, ↓reduceIte, Nat.reduceAdd, xj0_01, xj1_01, xb_B, xb_True, xb_False, ho.at.1, ↓xj_in, xj_nat, Int.toNat_natCast, xj_lt_t, xj_lt_f, xj_le_t, xj_le_f, xj_eq_t, xj_eq_f, xj_lt, xj_le, xj_eq, xj_add, xj_sub, xj_mul, show ¬ xj 1 = xj 0 from by decide]
  · rw [b6_4]
    obtain ⟨ho0, -, -, -, -, -, -, -, ho8, -⟩ := ho.at
    rw [← ih ()]
    have e : smF (inTF O d) (of_wo O) (r + 1) = if inTF O d r = true then smF (inTF O d) (of_wo O) r + of_wo O r else smF (inTF O d) (of_wo O) r := rfl
    rw [e]
    simp (disch := omega) only [b6_5, b6_6, b6_9, b6_12, b6_13, b6_14, b6_15, ↓xk_GF, ↓xk_PF, ↓xk_AL, ↓xk_AS, ↓xk_LN, ↓xk_RC, List.getElem?_cons_zero, List.getElem?_cons_succ, List.length_cons, List.length_nil, List.set_cons_zero, List.set_cons_succ, true_and, and_true, Option.toList_some, Option.toList_none, List.cons_append, List.nil_append, ↓reduceIte, Nat.reduceAdd, xj0_01, xj1_01, xb_B, xb_True, xb_False, ho0, h.1, xc_Day, ↓xj_in, xj_nat, Int.toNat_natCast, xj_lt_t, xj_lt_f, xj_le_t, xj_le_f, xj_eq_t, xj_eq_f, xj_lt, xj_le, xj_eq, xj_add, xj_sub, xj_mul, show ¬ xj 1 = xj 0 from by decide, s_inTime (D := D - 1) (by omega) ho hw h hd hr]
    cases h1 : inTF O d r
    · simp (disch := omega) only [b6_0, b6_1, b6_2, b6_3, b6_5, b6_6, b6_9, b6_12, b6_13, b6_14, b6_15, b6_18, b6_21, b6_22, b6_23, b6_26, b6_27, b6_28, b6_29, b6_30, b6_33, b6_36, b6_37, ↓xk_GF, ↓xk_PF, ↓xk_AL, ↓xk_AS, ↓xk_LN, ↓xk_RC, List.getElem?_cons_zero, List.getElem?_cons_succ, List.length_cons, List.length_nil, List.set_cons_zero, List.set_cons_succ, true_and, and_true, Option.toList_some, Option.toList_none, List.cons_append, List.nil_append, ↓reduceIte, Nat.reduceAdd, xj0_01, xj1_01, xb_B, xb_True, xb_False, ho0, ho8, ↓xj_in, xj_nat, Int.toNat_natCast, xj_lt_t, xj_lt_f, xj_le_t, xj_le_f, xj_eq_t, xj_eq_f, xj_lt, xj_le, xj_eq, xj_add, xj_sub, xj_mul, show ¬ xj 1 = xj 0 from by decide, xb_F, Bool.false_eq_true, not_false_eq_true]
      rfl
    · simp (disch := omega) only [b6_0, b6_1, b6_2, b6_3, b6_5, b6_6, b6_9, b6_12, b6_13, b6_14, b6_15, b6_18, b6_21, b6_22, b6_23, b6_26, b6_27, b6_28, b6_29, b6_30, b6_33, b6_36, b6_37, ↓xk_GF, ↓xk_PF, ↓xk_AL, ↓xk_AS, ↓xk_LN, ↓xk_RC, List.getElem?_cons_zero, List.getElem?_cons_succ, List.length_cons, List.length_nil, List.set_cons_zero, List.set_cons_succ, true_and, and_true, Option.toList_some, Option.toList_none, List.cons_append, List.nil_append, ↓reduceIte, Nat.reduceAdd, xj0_01, xj1_01, xb_B, xb_True, xb_False, ho0, ho8, ↓xj_in, xj_nat, Int.toNat_natCast, xj_lt_t, xj_lt_f, xj_le_t, xj_le_f, xj_eq_t, xj_eq_f, xj_lt, xj_le, xj_eq, xj_add, xj_sub, xj_mul, show ¬ xj 1 = xj 0 from by decide, xb_t]
      rfl
theorem s_fillingsFor (hD : 1 ≤ D) (ho : xv_Off f o O) (hw : xw_Off O) (h : xv_Day f a d) (hd : xw_Day O d) (h1 : 1 ≤ z) (h2 : z ≤ 20) : xk_Cl D 7 [.ref a, .ref o, .int (xj z)] (f, w) K ↔ K (some (.int (xj (fillF O d z)))) (f, w) := by
  rw [e7 (by omega)]
  have h3 := hw.sm
  have h5 := hd.2.2.2.2.1
  have h6 := hd.2.2.2.2.2.1
  obtain ⟨ho0, -⟩ := ho.at
  unfold fillF
  by_cases c1 : z ≤ d.2.2.1
  · rw [if_pos (Or.inl c1)]
    simp (disch := omega) only [b7_0, b7_1, b7_4, b7_5, b7_8, b7_9, b7_12, b7_13, b7_16, b7_17, b7_18, b7_19, b7_20, b7_23, b7_24, b7_25, b7_26, b7_27, b7_30, b7_31, ↓xk_GF, ↓xk_PF, ↓xk_AL, ↓xk_AS, ↓xk_LN, ↓xk_RC, List.getElem?_cons_zero, List.getElem?_cons_succ, List.length_cons, List.length_nil, List.set_cons_zero, List.set_cons_succ, true_and, and_true, Option.toList_some, Option.toList_none, List.cons_append, List.nil_append, ↓reduceIte, Nat.reduceAdd, xj0_01, xj1_01, xb_B, xb_True, xb_False, ho0, h.1, xc_Day, ↓xj_in, xj_nat, Int.toNat_natCast, xj_lt_t, xj_lt_f, xj_le_t, xj_le_f, xj_eq_t, xj_eq_f, xj_lt, xj_le, xj_eq, xj_add, xj_sub, xj_mul, show ¬ xj 1 = xj 0 from by decide]
  · by_cases c2 : of_ink O < 1
    · rw [if_pos (Or.inr c2)]
      simp (disch := omega) only [b7_0, b7_1, b7_4, b7_5, b7_8, b7_9, b7_12, b7_13, b7_16, b7_17, b7_18, b7_19, b7_20, b7_23, b7_24, b7_25, b7_26, b7_27, b7_30, b7_31, ↓xk_GF, ↓xk_PF, ↓xk_AL, ↓xk_AS, ↓xk_LN, ↓xk_RC, List.getElem?_cons_zero, List.getElem?_cons_succ, List.length_cons, List.length_nil, List.set_cons_zero, List.set_cons_succ, true_and, and_true, Option.toList_some, Option.toList_none, List.cons_append, List.nil_append, ↓reduceIte, Nat.reduceAdd, xj0_01, xj1_01, xb_B, xb_True, xb_False, ho0, h.1, xc_Day, ↓xj_in, xj_nat, Int.toNat_natCast, xj_lt_t, xj_lt_f, xj_le_t, xj_le_f, xj_eq_t, xj_eq_f, xj_lt, xj_le, xj_eq, xj_add, xj_sub, xj_mul, show ¬ xj 1 = xj 0 from by decide]
    · rw [if_neg (by omega)]
      simp (disch := omega) only [b7_0, b7_1, b7_4, b7_5, b7_8, b7_9, b7_12, b7_13, b7_16, b7_17, b7_18, b7_19, b7_20, b7_23, b7_24, b7_25, b7_26, b7_27, b7_31, b7_30 (xj_ne0 (b := of_ink O) (by omega) (by omega)), ↓xk_GF, ↓xk_PF, ↓xk_AL, ↓xk_AS, ↓xk_LN, ↓xk_RC, List.getElem?_cons_zero, List.getElem?_cons_succ, List.length_cons, List.length_nil, List.set_cons_zero, List.set_cons_succ, true_and, and_true, Option.toList_some, Option.toList_none, List.cons_append, List.nil_append, ↓reduceIte, Nat.reduceAdd, xj0_01, xj1_01, xb_B, xb_True, xb_False, ho0, h.1, xc_Day, ↓xj_in, xj_nat, Int.toNat_natCast, xj_lt_t, xj_lt_f, xj_le_t, xj_le_f, xj_eq_t, xj_eq_f, xj_lt, xj_le, xj_eq, xj_add, xj_sub, xj_mul, show ¬ xj 1 = xj 0 from by decide, xj_div]
theorem s_beginOf (hD : 3 ≤ D) (ho : xv_Off f o O) (hw : xw_Off O) (h : xv_Day f a d) (hd : xw_Day O d) (hp : p < of_np O) : xk_Cl D 8 [.ref a, .ref o, .int (xj p)] (f, w) K ↔ K (some (.int (xj (beginF O d p)))) (f, w) := by
  rw [e8 (by omega)]
  have hn := hw.2.2.2.1
  have hnc := hw.2.1
  have hs := hw.2.2.2.2.2.2 p hp
  have hf := fillF_rng (d := d) hw hs.2.2.1 hs.2.2.2.1
  have ht := thereF_rng hw hd hp
  have hd0 := hd
  obtain ⟨g1, g2, g3, g4, g5, g6, g7, g8, -⟩ := hd
  obtain ⟨ho0, -, -, -, -, ho5, ho6, -⟩ := ho.at
  unfold beginF
  unfold thereF at ht ⊢
  simp (disch := omega) only [b8_0, b8_1, b8_4, b8_5, b8_6, b8_7, b8_8, b8_11, b8_12, b8_13, b8_15, b8_16, b8_19, b8_20, b8_21, b8_22, b8_25, b8_26, b8_29, b8_30, b8_31, b8_32, b8_33, b8_36, b8_38, b8_41, b8_42, b8_44, b8_45, b8_48, ↓xk_GF, ↓xk_PF, ↓xk_AL, ↓xk_AS, ↓xk_LN, ↓xk_RC, List.getElem?_cons_zero, List.getElem?_cons_succ, List.length_cons, List.length_nil, List.set_cons_zero, List.set_cons_succ, true_and, and_true, Option.toList_some, Option.toList_none, List.cons_append, List.nil_append, ↓reduceIte, Nat.reduceAdd, xj0_01, xj1_01, xb_B, xb_True, xb_False, ho0, ho5, ho6, h.1, xc_Day, ↓xj_in, xj_nat, Int.toNat_natCast, xj_lt_t, xj_lt_f, xj_le_t, xj_le_f, xj_eq_t, xj_eq_f, xj_lt, xj_le, xj_eq, xj_add, xj_sub, xj_mul, show ¬ xj 1 = xj 0 from by decide, s_fillingsFor _ ho hw h hd0, s_way _ ho hw]
  by_cases c1 : d.2.2.2.1 < of_sk O p
  · rw [if_pos c1] at ht ⊢
    simp (disch := omega) only [b8_0, b8_1, b8_4, b8_5, b8_6, b8_7, b8_8, b8_11, b8_12, b8_13, b8_15, b8_16, b8_19, b8_20, b8_21, b8_22, b8_25, b8_26, b8_29, b8_30, b8_31, b8_32, b8_33, b8_36, b8_38, b8_41, b8_42, b8_44, b8_45, b8_48, b8_49, b8_52, b8_55, b8_56, b8_58, b8_60, b8_61, b8_64, ↓xk_GF, ↓xk_PF, ↓xk_AL, ↓xk_AS, ↓xk_LN, ↓xk_RC, List.getElem?_cons_zero, List.getElem?_cons_succ, List.length_cons, List.length_nil, List.set_cons_zero, List.set_cons_succ, true_and, and_true, Option.toList_some, Option.toList_none, List.cons_append, List.nil_append, ↓reduceIte, Nat.reduceAdd, xj0_01, xj1_01, xb_B, xb_True, xb_False, ho0, ho5, ho6, h.1, xc_Day, ↓xj_in, xj_nat, Int.toNat_natCast, xj_lt_t, xj_lt_f, xj_le_t, xj_le_f, xj_eq_t, xj_eq_f, xj_lt, xj_le, xj_eq, xj_add, xj_sub, xj_mul, show ¬ xj 1 = xj 0 from by decide, s_free _ ho hw]
  · rw [if_neg c1] at ht ⊢
    rw [Int.add_zero] at ht ⊢
    simp (disch := omega) only [b8_0, b8_1, b8_4, b8_5, b8_6, b8_7, b8_8, b8_11, b8_12, b8_13, b8_15, b8_16, b8_19, b8_20, b8_21, b8_22, b8_25, b8_26, b8_29, b8_30, b8_31, b8_32, b8_33, b8_36, b8_38, b8_41, b8_42, b8_44, b8_45, b8_48, b8_49, b8_52, b8_55, b8_56, b8_58, b8_60, b8_61, b8_64, ↓xk_GF, ↓xk_PF, ↓xk_AL, ↓xk_AS, ↓xk_LN, ↓xk_RC, List.getElem?_cons_zero, List.getElem?_cons_succ, List.length_cons, List.length_nil, List.set_cons_zero, List.set_cons_succ, true_and, and_true, Option.toList_some, Option.toList_none, List.cons_append, List.nil_append, ↓reduceIte, Nat.reduceAdd, xj0_01, xj1_01, xb_B, xb_True, xb_False, ho0, ho5, ho6, h.1, xc_Day, ↓xj_in, xj_nat, Int.toNat_natCast, xj_lt_t, xj_lt_f, xj_le_t, xj_le_f, xj_eq_t, xj_eq_f, xj_lt, xj_le, xj_eq, xj_add, xj_sub, xj_mul, show ¬ xj 1 = xj 0 from by decide, s_free _ ho hw]
theorem s_canWrite (hD : 4 ≤ D) (ho : xv_Off f o O) (hw : xw_Off O) (h : xv_Day f a d) (hd : xw_Day O d) (h1 : -2147483648 ≤ z) (h2 : z ≤ 2147483647) : xk_Cl D 9 [.ref a, .ref o, .int (xj z)] (f, w) K ↔ K (some (.int (xb (canF O d z = true)))) (f, w) := by
  rw [e9 (by omega)]
  have hn := hw.2.2.2.1
  obtain ⟨ho0, -, -, -, -, ho5, ho6, -⟩ := ho.at
  have hs : d.2.2.2.2.1 < 2147483648 := hw.n31 hd.2.2.2.2.2.2.2.2.1
  simp (disch := omega) only [b9_0, b9_1, b9_2, ↓xk_GF, ↓xk_PF, ↓xk_AL, ↓xk_AS, ↓xk_LN, ↓xk_RC, List.getElem?_cons_zero, List.getElem?_cons_succ, List.length_cons, List.length_nil, List.set_cons_zero, List.set_cons_succ, true_and, and_true, Option.toList_some, Option.toList_none, List.cons_append, List.nil_append, ↓reduceIte, Nat.reduceAdd, xj0_01, xj1_01, xb_B, xb_True, xb_False, ho0, h.1, xc_Day, ↓xj_in, xj_nat, Int.toNat_natCast, xj_lt_t, xj_lt_f, xj_le_t, xj_le_f, xj_eq_t, xj_eq_f, xj_lt, xj_le, xj_eq, xj_add, xj_sub, xj_mul, show ¬ xj 1 = xj 0 from by decide, s_hasPaper _ ho hw]
  by_cases c1 : 0 ≤ z ∧ z < of_np O
  · have hz : z = ((z.toNat : Nat) : Int) := by omega
    have c11 : z.toNat < of_np O := by omega
    have hb := beginF_rng hw hd c11
    have hk := hw.2.2.2.2.2.2 _ c11
    rw [xb_t c1]
    rw [hz]
    simp (disch := omega) only [b9_5, b9_8, b9_9, b9_12, b9_13, ↓xk_GF, ↓xk_PF, ↓xk_AL, ↓xk_AS, ↓xk_LN, ↓xk_RC, List.getElem?_cons_zero, List.getElem?_cons_succ, List.length_cons, List.length_nil, List.set_cons_zero, List.set_cons_succ, true_and, and_true, Option.toList_some, Option.toList_none, List.cons_append, List.nil_append, ↓reduceIte, Nat.reduceAdd, xj0_01, xj1_01, xb_B, xb_True, xb_False, ho0, h.1, xc_Day, ↓xj_in, xj_nat, Int.toNat_natCast, xj_lt_t, xj_lt_f, xj_le_t, xj_le_f, xj_eq_t, xj_eq_f, xj_lt, xj_le, xj_eq, xj_add, xj_sub, xj_mul, show ¬ xj 1 = xj 0 from by decide, s_has (D := D - 1) (k := z.toNat) (by omega) hs (by omega)]
    cases c2 : d.2.2.2.2.1.testBit z.toNat
    · simp (disch := omega) only [b9_0, b9_1, b9_2, b9_5, b9_8, b9_9, b9_12, b9_13, b9_16, b9_19, b9_20, b9_21, b9_22, b9_25, b9_26, b9_29, b9_30, b9_31, b9_32, b9_35, b9_38, b9_39, ↓xk_GF, ↓xk_PF, ↓xk_AL, ↓xk_AS, ↓xk_LN, ↓xk_RC, List.getElem?_cons_zero, List.getElem?_cons_succ, List.length_cons, List.length_nil, List.set_cons_zero, List.set_cons_succ, true_and, and_true, Option.toList_some, Option.toList_none, List.cons_append, List.nil_append, ↓reduceIte, Nat.reduceAdd, xj0_01, xj1_01, xb_B, xb_True, xb_False, ho0, ho6, h.1, xc_Day, ↓xj_in, xj_nat, Int.toNat_natCast, xj_lt_t, xj_lt_f, xj_le_t, xj_le_f, xj_eq_t, xj_eq_f, xj_lt, xj_le, xj_eq, xj_add, xj_sub, xj_mul, show ¬ xj 1 = xj 0 from by decide, xb_F, Bool.false_eq_true, not_false_eq_true, not_true_eq_false, s_beginOf (D := D - 1) (p := z.toNat) (by omega) ho hw h hd c11]
      by_cases c3 : beginF O d z.toNat + of_sk O z.toNat ≤ 9999
      · have e : canF O d ((z.toNat : Nat) : Int) = true := by unfold canF; rw [← hz]; exact decide_eq_true ⟨c1, c2, c3⟩
        rw [if_neg (by omega), xb_t e]
        simp (disch := omega) only [↓xj_in, xj_nat, Int.toNat_natCast, xj_lt_t, xj_lt_f, xj_le_t, xj_le_f, xj_eq_t, xj_eq_f, xj_lt, xj_le, xj_eq, xj_add, xj_sub, xj_mul, show ¬ xj 1 = xj 0 from by decide, ↓xk_GF, ↓xk_PF, ↓xk_AL, ↓xk_AS, ↓xk_LN, ↓xk_RC, List.getElem?_cons_zero, List.getElem?_cons_succ, List.length_cons, List.length_nil, List.set_cons_zero, List.set_cons_succ, true_and, and_true, Option.toList_some, Option.toList_none, List.cons_append, List.nil_append, ↓reduceIte, Nat.reduceAdd, xj0_01, xj1_01, xb_B, xb_True, xb_False, b9_0, b9_1, b9_2, b9_5, b9_8, b9_9, b9_12, b9_13, b9_16, b9_19, b9_20, b9_21, b9_22, b9_25, b9_26, b9_29, b9_30, b9_31, b9_32, b9_35, b9_38, b9_39, b9_42, b9_43, b9_43o, b9_43z, b9_43c]
      · have e : ¬ canF O d ((z.toNat : Nat) : Int) = true := by unfold canF; rw [← hz]; intro q; exact c3 (of_decide_eq_true q).2.2
        rw [if_pos (by omega), xb_f e]
        simp (disch := omega) only [↓xj_in, xj_nat, Int.toNat_natCast, xj_lt_t, xj_lt_f, xj_le_t, xj_le_f, xj_eq_t, xj_eq_f, xj_lt, xj_le, xj_eq, xj_add, xj_sub, xj_mul, show ¬ xj 1 = xj 0 from by decide, ↓xk_GF, ↓xk_PF, ↓xk_AL, ↓xk_AS, ↓xk_LN, ↓xk_RC, List.getElem?_cons_zero, List.getElem?_cons_succ, List.length_cons, List.length_nil, List.set_cons_zero, List.set_cons_succ, true_and, and_true, Option.toList_some, Option.toList_none, List.cons_append, List.nil_append, ↓reduceIte, Nat.reduceAdd, xj0_01, xj1_01, xb_B, xb_True, xb_False, b9_0, b9_1, b9_2, b9_5, b9_8, b9_9, b9_12, b9_13, b9_16, b9_19, b9_20, b9_21, b9_22, b9_25, b9_26, b9_29, b9_30, b9_31, b9_32, b9_35, b9_38, b9_39, b9_42, b9_43, b9_43o, b9_43z, b9_43c]
    · have e : ¬ canF O d ((z.toNat : Nat) : Int) = true := by unfold canF; rw [← hz]; intro q; have := (of_decide_eq_true q).2.1; rw [c2] at this; exact Bool.noConfusion this
      rw [xb_f e]
      simp (disch := omega) only [b9_0, b9_1, b9_2, b9_5, b9_8, b9_9, b9_12, b9_13, b9_16, b9_19, b9_20, b9_21, b9_22, b9_25, b9_26, b9_29, b9_30, b9_31, b9_32, b9_35, b9_38, b9_39, b9_42, b9_43, b9_43o, b9_43z, b9_43c, ↓xk_GF, ↓xk_PF, ↓xk_AL, ↓xk_AS, ↓xk_LN, ↓xk_RC, List.getElem?_cons_zero, List.getElem?_cons_succ, List.length_cons, List.length_nil, List.set_cons_zero, List.set_cons_succ, true_and, and_true, Option.toList_some, Option.toList_none, List.cons_append, List.nil_append, ↓reduceIte, Nat.reduceAdd, xj0_01, xj1_01, xb_B, xb_True, xb_False, ho0, h.1, xc_Day, ↓xj_in, xj_nat, Int.toNat_natCast, xj_lt_t, xj_lt_f, xj_le_t, xj_le_f, xj_eq_t, xj_eq_f, xj_lt, xj_le, xj_eq, xj_add, xj_sub, xj_mul, show ¬ xj 1 = xj 0 from by decide, xb_T, not_false_eq_true]
  · have e : ¬ canF O d z = true := by unfold canF; intro q; exact c1 (of_decide_eq_true q).1
    rw [xb_f c1, xb_f e]
    simp (disch := omega) only [b9_0, b9_1, b9_2, b9_5, b9_8, b9_9, b9_12, b9_13, b9_16, b9_19, b9_20, b9_21, b9_22, b9_25, b9_26, b9_29, b9_30, b9_31, b9_32, b9_35, b9_38, b9_39, b9_42, b9_43, b9_43o, b9_43z, b9_43c, ↓xk_GF, ↓xk_PF, ↓xk_AL, ↓xk_AS, ↓xk_LN, ↓xk_RC, List.getElem?_cons_zero, List.getElem?_cons_succ, List.length_cons, List.length_nil, List.set_cons_zero, List.set_cons_succ, true_and, and_true, Option.toList_some, Option.toList_none, List.cons_append, List.nil_append, ↓reduceIte, Nat.reduceAdd, xj0_01, xj1_01, xb_B, xb_True, xb_False, ho0, h.1, xc_Day, ↓xj_in, xj_nat, Int.toNat_natCast, xj_lt_t, xj_lt_f, xj_le_t, xj_le_f, xj_eq_t, xj_eq_f, xj_lt, xj_le, xj_eq, xj_add, xj_sub, xj_mul, show ¬ xj 1 = xj 0 from by decide]
theorem s_restsOnNothing (hD : 2 ≤ D) (ho : xv_Off f o O) (hw : xw_Off O) (h : xv_Day f a d) (hs : d.2.2.2.2.1 < 2147483648) (hv : d.2.2.2.2.2.1 < 2147483648) (hb : d.2.2.2.2.2.2.1 < 2147483648) (hp : p < of_np O) (hq : q < 2147483648) : xk_Cl D 11 [.ref a, .ref o, .int (xj p), .int (xj q)] (f, w) K ↔ K (some (.int (xb (noRF O d p q = true)))) (f, w) := by
  rw [e11 (by omega)]
  have hn := hw.2.2.2.1
  have hg : goodF d < 2147483648 := xn_and hs
  have hr : of_re O p < 2147483648 := hw.n31 (hw.2.2.2.2.2.2 p hp).2.2.2.2.2.2.2.2
  have hr2 := xn_and (b := q) hr
  have hr3 := xn_and (b := goodF d ^^^ 2147483647) hr2
  have hdef : d.2.2.2.2.1 &&& (d.2.2.2.2.2.1 ^^^ 2147483647) = goodF d := rfl
  obtain ⟨ho0, -, -, -, -, -, -, -, -, ho9⟩ := ho.at
  simp (disch := omega) only [b11_0, b11_1, b11_4, b11_5, b11_8, b11_9, b11_10, b11_11, b11_13, b11_14, b11_17, b11_18, ↓xk_GF, ↓xk_PF, ↓xk_AL, ↓xk_AS, ↓xk_LN, ↓xk_RC, List.getElem?_cons_zero, List.getElem?_cons_succ, List.length_cons, List.length_nil, List.set_cons_zero, List.set_cons_succ, true_and, and_true, Option.toList_some, Option.toList_none, List.cons_append, List.nil_append, ↓reduceIte, Nat.reduceAdd, xj0_01, xj1_01, xb_B, xb_True, xb_False, h.1, xc_Day, xj_andnot hs hv, hdef, s_has (D := D - 1) (k := p) (by omega) hb (by omega)]
  cases c1 : d.2.2.2.2.2.2.1.testBit p
  · by_cases c2 : (of_re O p &&& q) &&& (goodF d ^^^ 2147483647) = 0
    · have e : ¬ noRF O d p q = true := by unfold noRF; intro q; exact (of_decide_eq_true q).2 c2
      rw [xb_f e]
      simp (disch := omega) only [b11_0, b11_1, b11_4, b11_5, b11_8, b11_9, b11_10, b11_11, b11_13, b11_14, b11_17, b11_18, b11_21, b11_24, b11_25, b11_28, b11_29, b11_30, b11_31, b11_32, b11_34, b11_35, b11_36, b11_37, b11_40, b11_41, b11_44, b11_45, b11_45o, b11_45z, b11_45c, ↓xk_GF, ↓xk_PF, ↓xk_AL, ↓xk_AS, ↓xk_LN, ↓xk_RC, List.getElem?_cons_zero, List.getElem?_cons_succ, List.length_cons, List.length_nil, List.set_cons_zero, List.set_cons_succ, true_and, and_true, Option.toList_some, Option.toList_none, List.cons_append, List.nil_append, ↓reduceIte, Nat.reduceAdd, xj0_01, xj1_01, xb_B, xb_True, xb_False, ho0, ho9, ↓xj_in, xj_nat, Int.toNat_natCast, xj_lt_t, xj_lt_f, xj_le_t, xj_le_f, xj_eq_t, xj_eq_f, xj_lt, xj_le, xj_eq, xj_add, xj_sub, xj_mul, show ¬ xj 1 = xj 0 from by decide, xb_F, Bool.false_eq_true, not_false_eq_true, not_true_eq_false, xj_and hr hq, xj_andnot hr2 hg, c2]
    · have e : noRF O d p q = true := by unfold noRF; exact decide_eq_true ⟨c1, c2⟩
      rw [xb_t e]
      simp (disch := omega) only [b11_0, b11_1, b11_4, b11_5, b11_8, b11_9, b11_10, b11_11, b11_13, b11_14, b11_17, b11_18, b11_21, b11_24, b11_25, b11_28, b11_29, b11_30, b11_31, b11_32, b11_34, b11_35, b11_36, b11_37, b11_40, b11_41, b11_44, b11_45, b11_45o, b11_45z, b11_45c, ↓xk_GF, ↓xk_PF, ↓xk_AL, ↓xk_AS, ↓xk_LN, ↓xk_RC, List.getElem?_cons_zero, List.getElem?_cons_succ, List.length_cons, List.length_nil, List.set_cons_zero, List.set_cons_succ, true_and, and_true, Option.toList_some, Option.toList_none, List.cons_append, List.nil_append, ↓reduceIte, Nat.reduceAdd, xj0_01, xj1_01, xb_B, xb_True, xb_False, ho0, ho9, ↓xj_in, xj_nat, Int.toNat_natCast, xj_lt_t, xj_lt_f, xj_le_t, xj_le_f, xj_eq_t, xj_eq_f, xj_lt, xj_le, xj_eq, xj_add, xj_sub, xj_mul, show ¬ xj 1 = xj 0 from by decide, xb_F, Bool.false_eq_true, not_false_eq_true, not_true_eq_false, xj_and hr hq, xj_andnot hr2 hg]
  · have e : ¬ noRF O d p q = true := by unfold noRF; intro q; have := (of_decide_eq_true q).1; rw [c1] at this; exact Bool.noConfusion this
    rw [xb_f e]
    simp (disch := omega) only [b11_0, b11_1, b11_4, b11_5, b11_8, b11_9, b11_10, b11_11, b11_13, b11_14, b11_17, b11_18, b11_21, b11_24, b11_25, b11_28, b11_29, b11_30, b11_31, b11_32, b11_34, b11_35, b11_36, b11_37, b11_40, b11_41, b11_44, b11_45, b11_45o, b11_45z, b11_45c, ↓xk_GF, ↓xk_PF, ↓xk_AL, ↓xk_AS, ↓xk_LN, ↓xk_RC, List.getElem?_cons_zero, List.getElem?_cons_succ, List.length_cons, List.length_nil, List.set_cons_zero, List.set_cons_succ, true_and, and_true, Option.toList_some, Option.toList_none, List.cons_append, List.nil_append, ↓reduceIte, Nat.reduceAdd, xj0_01, xj1_01, xb_B, xb_True, xb_False, ho0, ho9, ↓xj_in, xj_nat, Int.toNat_natCast, xj_lt_t, xj_lt_f, xj_le_t, xj_le_f, xj_eq_t, xj_eq_f, xj_lt, xj_le, xj_eq, xj_add, xj_sub, xj_mul, show ¬ xj 1 = xj 0 from by decide, xb_T, not_false_eq_true]
end XS26
