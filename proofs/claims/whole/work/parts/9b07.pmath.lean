/-! both sides: plans, the least late -/
theorem smF_split (c P : Nat → Bool) (g : Nat → Int) : ∀ n, smF P g n = smF (fun p => c p && P p) g n + smF (fun p => !c p && P p) g n := by
  intro n
  induction n with
  | zero => rfl
  | succ n ih =>
    unfold smF
    cases h1 : c n <;> cases h2 : P n <;> simp [h1, h2] <;> omega
theorem smF_none (g : Nat → Int) : ∀ n, smF (fun _ => false) g n = 0 := by
  intro n
  induction n with
  | zero => rfl
  | succ n ih => unfold smF; simp [ih]
theorem can_no {O : Of} {d : Dy} {p : Nat} (h : canF O d p = true) : d.2.2.2.2.1.testBit p = false := by
  unfold canF at h
  have := (of_decide_eq_true h).2.1
  rwa [Int.toNat_natCast] at this
theorem wr_sg {O : Of} {d : Dy} {p q i : Nat} (h : i ≠ p) : (writeD O d p q).2.2.2.2.1.testBit i = d.2.2.2.2.1.testBit i := by
  show (d.2.2.2.2.1 ||| 2 ^ p).testBit i = _
  rw [Nat.testBit_or, Nat.testBit_two_pow, decide_eq_false (fun e => h e.symm), Bool.or_false]
theorem wr_vo {O : Of} {d : Dy} {p q i : Nat} (h : i ≠ p) : (writeD O d p q).2.2.2.2.2.1.testBit i = d.2.2.2.2.2.1.testBit i := by
  show (if nibF O d p < 0 ∨ noRF O d p q = true then d.2.2.2.2.2.1 ||| 2 ^ p else d.2.2.2.2.2.1).testBit i = _
  split
  · rw [Nat.testBit_or, Nat.testBit_two_pow, decide_eq_false (fun e => h e.symm), Bool.or_false]
  · rfl
theorem wr_en {O : Of} {d : Dy} {p q i : Nat} (h : i ≠ p) : (writeD O d p q).2.2.2.2.2.2.2 i = d.2.2.2.2.2.2.2 i := by
  show upI d.2.2.2.2.2.2.2 p (endF O d p) i = _
  rw [upI_v, if_neg h]
theorem wr_inT {O : Of} {d : Dy} {p q i : Nat} (hi : i < 31) (h : i ≠ p) : inTF O (writeD O d p q) i = inTF O d i := by
  rw [inTF_b hi, inTF_b hi, wr_sg h, wr_vo h, wr_en h]
/-- the worth in time of the papers outside a mask -/
def KF (O : Of) (c : Nat) (d : Dy) : Int := smF (fun p => !c.testBit p && inTF O d p) (of_wo O) (of_np O)
theorem KF_sp (O : Of) (c : Nat) (d : Dy) : wtF O d = worF O c d + KF O c d := smF_split (fun p => c.testBit p) (inTF O d) (of_wo O) (of_np O)
theorem cp_plan {O : Of} {q s s' c : Nat} {d0 : Dy} (hw : xw_Off O) (hs : ∀ p, p < of_np O → s.testBit p = (!d0.2.2.2.2.1.testBit p && s'.testBit p)) (hc : ∀ p, p < of_np O → s'.testBit p = true → c.testBit p = true) : (cpB O q s' d0).1 = (planB O q s c d0).1 + KF O c d0 ∧ (cpB O q s' d0).2 = (planB O q s c d0).2 := by
  have hn := hw.2.2.2.1
  have K0 : 0 ≤ KF O c d0 := (smF_wo hw _ _ (Nat.le_refl _)).1
  have key := dfs_rel1 (A := Bst) (B := Bst) (T := fun A B => B.1 = A.1 + KF O c d0 ∧ B.2 = A.2)
    (I := fun _ d r r' => (∀ p, p < of_np O → d0.2.2.2.2.1.testBit p = true → d.2.2.2.2.1.testBit p = true) ∧ (∀ p, p < of_np O → c.testBit p = false → inTF O d p = inTF O d0 p) ∧ r = r')
    (ok := okP O q s) (ok' := okP O q s') (nx := fun d p => writeD O d p q) (nx' := fun d p => writeD O d p q) (V := vPl (worF O c)) (V' := vPl (wtF O)) (np := of_np O) (n := 6) (k := 0) (d := d0) (r := row0) (r' := row0) (a := bst0) (b := bst0)
    (fun k d r r' p ⟨i1, i2, i3⟩ hp => by
      unfold okP
      rw [hs p hp]
      cases h1 : canF O d p
      · simp
      · have h2 := can_no h1
        cases h3 : d0.2.2.2.2.1.testBit p
        · simp
        · rw [i1 p hp h3] at h2; cases h2)
    (fun k d r r' p ⟨i1, i2, i3⟩ hp ho => by
      refine ⟨rfl, fun i hi h => ?_, fun i hi h => ?_, by rw [i3]⟩
      · by_cases e : i = p
        · subst e; exact wr_sign
        · show (writeD O d p q).2.2.2.2.1.testBit i = true
          rw [wr_sg e]; exact i1 i hi h
      · have e : i ≠ p := by
          intro e
          subst e
          have ho : okP O q s d i = true := ho
          unfold okP at ho
          rw [Bool.and_eq_true, Bool.and_eq_true, hs i hp, Bool.and_eq_true] at ho
          rw [hc i hp ho.1.1.2] at h
          cases h
        show inTF O (writeD O d p q) i = _
        rw [wr_inT (by omega) e]
        exact i2 i hi h)
    (fun k d r r' A B ⟨i1, i2, i3⟩ ⟨t1, t2⟩ => by
      have e : wtF O d = worF O c d + KF O c d0 := by
        rw [KF_sp O c d]
        congr 1
        refine smF_ext _ (fun i hi => ?_) (fun _ _ => rfl)
        cases h : c.testBit i
        · rw [i2 i hi h]
        · rfl
      unfold vPl
      rw [e, t1, t2, i3]
      by_cases cc : A.1 < worF O c d ∨ (worF O c d = A.1 ∧ d.1 < A.2.1)
      · rw [if_pos cc, if_pos (by omega)]
        exact ⟨rfl, rfl⟩
      · rw [if_neg cc, if_neg (by omega)]
        exact ⟨t1, t2⟩)
    ⟨fun _ _ h => h, fun _ _ _ => rfl, rfl⟩
    (by
      have w1 := (wor_rng hw c d0).1
      have w2 := (wt_rng hw d0).1
      unfold vPl
      rw [if_pos (Or.inl (by show (-1 : Int) < _; omega)), if_pos (Or.inl (by show (-1 : Int) < _; omega))]
      exact ⟨KF_sp O c d0, rfl⟩)
  exact key
theorem KF_63 {O : Of} (hw : xw_Off O) (d : Dy) : KF O 63 d = 0 := by
  have hn := hw.2.2.2.1
  unfold KF
  rw [smF_ext (Q := fun _ => false) (h := of_wo O) _ (fun i hi => ?_) (fun _ _ => rfl), smF_none]
  have : i = 0 ∨ i = 1 ∨ i = 2 ∨ i = 3 ∨ i = 4 ∨ i = 5 := by omega
  rcases this with h | h | h | h | h | h <;> subst h <;> rfl
theorem b63 {i : Nat} (h : i < 6) : Nat.testBit 63 i = true := by
  have : i = 0 ∨ i = 1 ∨ i = 2 ∨ i = 3 ∨ i = 4 ∨ i = 5 := by omega
  rcases this with h | h | h | h | h | h <;> subst h <;> rfl
theorem uns_bit {O : Of} {d : Dy} {p : Nat} (h : p < of_np O) : (unsF O d).testBit p = !d.2.2.2.2.1.testBit p := by
  unfold unsF
  rw [msk_bit, decide_eq_true h, Bool.true_and]
/-- the plan -/
theorem cp_63 {O : Of} {d : Dy} (hw : xw_Off O) : cpB O 63 63 d = planB O 63 (unsF O d) 63 d := by
  have hn := hw.2.2.2.1
  obtain ⟨h1, h2⟩ := cp_plan (q := 63) (s := unsF O d) (s' := 63) (c := 63) (d0 := d) hw (fun p hp => by rw [uns_bit hp, b63 (by omega), Bool.and_true]) (fun p hp _ => b63 (by omega))
  rw [KF_63 hw] at h1
  exact Prod.ext (by omega) h2
/-- the plan without a clerk's papers -/
theorem cp_less {O : Of} {d : Dy} {th : Nat} (hw : xw_Off O) : (cpB O 63 (63 &&& (th ^^^ 2147483647)) d).1 = (planB O 63 (unsF O d &&& (th ^^^ 2147483647)) 63 d).1 := by
  have hn := hw.2.2.2.1
  have h1 := (cp_plan (q := 63) (s := unsF O d &&& (th ^^^ 2147483647)) (s' := 63 &&& (th ^^^ 2147483647)) (c := 63) (d0 := d) hw (fun p hp => by rw [xt_andnot (by omega), xt_andnot (by omega), uns_bit hp, b63 (by omega), Bool.true_and]) (fun p hp _ => b63 (by omega))).1
  rw [KF_63 hw] at h1
  omega
theorem inT_pen {O : Of} {d : Dy} {c : Int} : ∀ p, inTF O (penD O d c) p = inTF O d p := fun _ => rfl
/-- second, as the class has it -/
theorem cp_sec {O : Of} {d : Dy} {c : Int} (hw : xw_Off O) : secF O d c = (cpB O (63 &&& (msk (fun p => decide (of_ow O p = c)) (of_np O) ^^^ 2147483647)) (63 &&& (msk (fun p => decide (of_ow O p = c)) (of_np O) ^^^ 2147483647)) d).1 + (cpB O (msk (fun p => decide (of_ow O p = c)) (of_np O)) (msk (fun p => decide (of_ow O p = c)) (of_np O)) (penD O d c)).1 - wtF O d - (cpB O 63 63 d).1 := by
  have hn := hw.2.2.2.1
  unfold secF
  rw [cp_63 hw]
  generalize msk (fun p => decide (of_ow O p = c)) (of_np O) = th
  have e1 := (cp_plan (q := 63 &&& (th ^^^ 2147483647)) (s := unsF O d &&& (63 &&& (th ^^^ 2147483647))) (s' := 63 &&& (th ^^^ 2147483647)) (c := 63 &&& (th ^^^ 2147483647)) (d0 := d) hw (fun p hp => by rw [Nat.testBit_and, uns_bit hp]) (fun p hp h => h)).1
  have e2 := (cp_plan (q := th) (s := unsF O d &&& th) (s' := th) (c := th) (d0 := penD O d c) hw (fun p hp => by rw [Nat.testBit_and, uns_bit hp]; rfl) (fun p hp h => h)).1
  have e3 : KF O th (penD O d c) = KF O th d := rfl
  have e4 : KF O (63 &&& (th ^^^ 2147483647)) d = worF O th d := by
    unfold KF worF
    refine smF_ext _ (fun i hi => ?_) (fun _ _ => rfl)
    rw [xt_andnot (by omega), b63 (by omega), Bool.true_and, Bool.not_not]
  have e5 := KF_sp O th d
  rw [e3] at e2
  rw [e4] at e1
  omega
theorem lfR_eq {s : Nat} {row : Nat → Int} (h : s < 2147483648) : ∀ k, lfR s row k = s &&& (bpF row k ^^^ 2147483647) := by
  intro k
  apply Nat.eq_of_testBit_eq
  intro i
  by_cases hi : i < 31
  · rw [xt_andnot hi]
    induction k with
    | zero => unfold lfR bpF; simp
    | succ k ih =>
      unfold lfR bpF
      rw [xt_andnot hi, ih, Nat.testBit_or, Bool.not_or, Bool.and_assoc]
  · have h1 : s < 2 ^ i := Nat.lt_of_lt_of_le h (Nat.pow_le_pow_right (n := 2) (i := 31) (by omega) (by omega))
    rw [Nat.testBit_and, Nat.testBit_lt_two_pow h1, Bool.false_and]
    exact Nat.testBit_lt_two_pow (Nat.lt_of_lt_of_le (lfR_lt h k) (Nat.pow_le_pow_right (n := 2) (i := 31) (by omega) (by omega)))
theorem bpF_cg {r r' : Nat → Int} : ∀ k, (∀ i, i < k → r i = r' i) → bpF r k = bpF r' k := by
  intro k
  induction k with
  | zero => intro _; rfl
  | succ k ih => intro h; unfold bpF; rw [ih (fun i hi => h i (by omega)), h k (by omega)]
