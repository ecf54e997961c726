/-! both sides: the least late -/
theorem cnt_dec {P Q : Nat → Bool} {k : Nat} (h : ∀ i, i ≠ k → P i = Q i) (h1 : P k = false) (h2 : Q k = true) : ∀ n, (k < n → cnt P n + 1 = cnt Q n) ∧ (n ≤ k → cnt P n = cnt Q n) := by
  intro n
  induction n with
  | zero => exact ⟨fun c => by omega, fun _ => rfl⟩
  | succ n ih =>
    unfold cnt
    by_cases e : n = k
    · subst e
      have := ih.2 (Nat.le_refl _)
      rw [h1, h2, if_neg (by decide), if_pos rfl]
      exact ⟨fun _ => by omega, fun c => by omega⟩
    · rw [h n e]
      refine ⟨fun c => ?_, fun c => ?_⟩
      · have := ih.1 (by omega)
        split <;> omega
      · have := ih.2 (by omega)
        split <;> omega
theorem cnt_six {P : Nat → Bool} {n : Nat} : ∀ m, n ≤ m → (∀ i, n ≤ i → P i = false) → cnt P m = cnt P n := by
  intro m
  induction m with
  | zero => intro h _; have : n = 0 := by omega
            subst this; rfl
  | succ m ih =>
    intro h hz
    by_cases e : n = m + 1
    · subst e; rfl
    · have := ih (by omega) hz
      show (if P m = true then cnt P m + 1 else cnt P m) = _
      rw [hz m (by omega), if_neg (by decide), this]
def unC (O : Of) (d : Dy) : Nat := cnt (fun p => !d.2.2.2.2.1.testBit p) (of_np O)
theorem unC_up {O : Of} {d : Dy} {p q : Nat} (hp : p < of_np O) (h : d.2.2.2.2.1.testBit p = false) : unC O (writeD O d p q) + 1 = unC O d := by
  refine (cnt_dec (k := p) (fun i hi => ?_) ?_ ?_ (of_np O)).1 hp
  · show (!(writeD O d p q).2.2.2.2.1.testBit i) = _
    rw [wr_sg hi]
  · show (!(writeD O d p q).2.2.2.2.1.testBit p) = false
    rw [wr_sign]; rfl
  · show (!d.2.2.2.2.1.testBit p) = true
    rw [h]; rfl
theorem unC_uns {O : Of} {d : Dy} (hw : xw_Off O) : cnt (fun p => (unsF O d).testBit p) 6 = unC O d := by
  have hn := hw.2.2.2.1
  rw [cnt_six (n := of_np O) 6 hn (fun i hi => by unfold unsF; rw [msk_bit, decide_eq_false (by omega), Bool.false_and])]
  exact cnt_cg _ (fun i hi => uns_bit hi)
theorem unC_0 {O : Of} {d : Dy} : unsF O d = 0 ↔ unC O d = 0 := by
  constructor
  · intro h
    unfold unC
    have : ∀ n, n ≤ of_np O → cnt (fun p => !d.2.2.2.2.1.testBit p) n = 0 := by
      intro n
      induction n with
      | zero => intro _; rfl
      | succ n ih =>
        intro hn
        have e := uns_bit (O := O) (d := d) (p := n) (by omega)
        rw [h, Nat.zero_testBit] at e
        unfold cnt
        rw [← e, if_neg (by decide), ih (by omega)]
    exact this _ (Nat.le_refl _)
  · intro h
    apply Nat.eq_of_testBit_eq
    intro i
    rw [Nat.zero_testBit]
    by_cases hi : i < of_np O
    · rw [uns_bit hi]
      cases hb : d.2.2.2.2.1.testBit i
      · have := cnt_pos (P := fun p => !d.2.2.2.2.1.testBit p) hi (by rw [hb]; rfl)
        unfold unC at h
        omega
      · rfl
    · unfold unsF; rw [msk_bit, decide_eq_false hi, Bool.false_and]
/-- worth in time and worth late make the same sum -/
theorem lost_sum {O : Of} {d d0 : Dy} (h : ∀ p, p < of_np O → (unsF O d0).testBit p = false → inTF O d p = inTF O d0 p) (hn : of_np O ≤ 6) : wtF O d + lostF O (unsF O d0) d = wtF O d0 + smF (fun p => (unsF O d0).testBit p) (of_wo O) (of_np O) := by
  have e1 := KF_sp O (unsF O d0) d
  have e2 := KF_sp O (unsF O d0) d0
  have e3 : KF O (unsF O d0) d = KF O (unsF O d0) d0 := by
    unfold KF
    refine smF_ext _ (fun i hi => ?_) (fun _ _ => rfl)
    cases hb : (unsF O d0).testBit i
    · rw [h i hi hb]
    · rfl
  have e4 : worF O (unsF O d0) d0 = 0 := by
    unfold worF
    rw [smF_ext (Q := fun _ => false) (h := of_wo O) _ (fun i hi => ?_) (fun _ _ => rfl), smF_none]
    show ((unsF O d0).testBit i && inTF O d0 i) = false
    rw [uns_bit hi, inTF_b (by omega)]
    cases d0.2.2.2.2.1.testBit i <;> rfl
  have e5 := smF_split (inTF O d) (fun p => (unsF O d0).testBit p) (of_wo O) (of_np O)
  have e6 : smF (fun p => inTF O d p && (unsF O d0).testBit p) (of_wo O) (of_np O) = worF O (unsF O d0) d := smF_ext _ (fun i _ => Bool.and_comm _ _) (fun _ _ => rfl)
  have e7 : smF (fun p => !inTF O d p && (unsF O d0).testBit p) (of_wo O) (of_np O) = lostF O (unsF O d0) d := smF_ext _ (fun i _ => Bool.and_comm _ _) (fun _ _ => rfl)
  rw [e6, e7] at e5
  omega
theorem cl_late {O : Of} {d0 : Dy} (hw : xw_Off O) : (if lateA O (unsF O d0) d0 < 0 then -2 else lateA O (unsF O d0) d0) = clAns O d0 := by
  have hn := hw.2.2.2.1
  have hu := unC_uns (d := d0) hw
  have key := dfs_rel (A := Int) (B := Int) (T := fun A B => (A < 0 ∧ B = -1) ∨ (0 ≤ A ∧ 0 ≤ B ∧ B = wtF O d0 + smF (fun p => (unsF O d0).testBit p) (of_wo O) (of_np O) - A))
    (I := fun k d _ _ => (∀ p, p < of_np O → d0.2.2.2.2.1.testBit p = true → d.2.2.2.2.1.testBit p = true) ∧ (∀ p, p < of_np O → (unsF O d0).testBit p = false → inTF O d p = inTF O d0 p) ∧ k + unC O d = unC O d0)
    (ok := okA O (unsF O d0)) (ok' := fun d p => canF O d p) (nx := fun d p => writeD O d p 63) (nx' := fun d p => writeD O d p 63) (V := vLa O (unsF O d0)) (V' := vMo O) (np := of_np O)
    (fun k d r r' p ⟨i1, i2, i3⟩ hp => by
      unfold okA
      rw [uns_bit hp]
      cases h1 : canF O d p
      · simp
      · have h2 := can_no h1
        cases h3 : d0.2.2.2.2.1.testBit p
        · simp
        · rw [i1 p hp h3] at h2; cases h2)
    (fun k d r r' p ⟨i1, i2, i3⟩ hp ho => by
      have ho : okA O (unsF O d0) d p = true := ho
      unfold okA at ho
      rw [Bool.and_eq_true] at ho
      have hcn := can_no ho.2
      refine ⟨rfl, fun i hi h => ?_, fun i hi h => ?_, ?_⟩
      · by_cases e : i = p
        · subst e; exact wr_sign
        · show (writeD O d p 63).2.2.2.2.1.testBit i = true
          rw [wr_sg e]; exact i1 i hi h
      · have e : i ≠ p := by
          intro e
          subst e
          rw [ho.1] at h
          cases h
        show inTF O (writeD O d p 63) i = _
        rw [wr_inT (by omega) e]
        exact i2 i hi h
      · have := unC_up (q := 63) hp hcn
        show k + 1 + unC O (writeD O d p 63) = _
        omega)
    (fun k d r r' A B ⟨i1, i2, i3⟩ t => by
      have hs := lost_sum i2 hn
      have hl := (lost_rng hw (unsF O d0) d).1
      have hw1 := (wt_rng hw d).1
      have hu0 := unC_0 (O := O) (d := d)
      unfold vLa vMo
      rw [hu]
      by_cases c : unsF O d = 0
      · have := hu0.mp c
        rw [if_pos c, if_pos (by omega)]
        rcases t with ⟨t1, t2⟩ | ⟨t1, t2, t3⟩
        · rw [if_pos (Or.inl t1), if_pos (by omega)]
          exact Or.inr ⟨hl, hw1, by omega⟩
        · by_cases c2 : lostF O (unsF O d0) d < A
          · rw [if_pos (Or.inr c2), if_pos (by omega)]
            exact Or.inr ⟨hl, hw1, by omega⟩
          · rw [if_neg (by omega), if_neg (by omega)]
            exact Or.inr ⟨t1, t2, t3⟩
      · have : unC O d ≠ 0 := fun q => c (hu0.mpr q)
        rw [if_neg c, if_neg (by omega)]
        exact t)
    6 0 d0 row0 row0 (-1) (-1) ⟨fun _ _ h => h, fun _ _ _ => rfl, by omega⟩ (Or.inl ⟨by decide, rfl⟩)
  have key : (lateA O (unsF O d0) d0 < 0 ∧ cLate O d0 = -1) ∨ (0 ≤ lateA O (unsF O d0) d0 ∧ 0 ≤ cLate O d0 ∧ cLate O d0 = wtF O d0 + smF (fun p => (unsF O d0).testBit p) (of_wo O) (of_np O) - lateA O (unsF O d0) d0) := key
  unfold clAns
  rcases key with ⟨t1, t2⟩ | ⟨t1, t2, t3⟩
  · rw [if_pos t1, if_pos t2]
  · rw [if_neg (by omega), if_neg (by omega)]
    omega
