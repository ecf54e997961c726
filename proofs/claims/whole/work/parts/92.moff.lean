/-! the model reads an office: what a draft is like -/
def zW (A : Nat → Int) : Prop := zOK A ∧ (0 < A 0 → 1 ≤ A 1 ∧ A 1 ≤ 200 ∧ 0 ≤ A 2 ∧ A 2 ≤ 20) ∧ (∀ i : Nat, (i : Int) < A 3 → 0 ≤ A (32 + i) ∧ A (32 + i) ≤ 20) ∧ (∀ i : Nat, (i : Int) < A 4 → 0 ≤ A (36 + 3 * i) ∧ A (36 + 3 * i) < A 3 ∧ 0 ≤ A (36 + 3 * i + 1) ∧ A (36 + 3 * i + 1) ≤ A (36 + 3 * i + 2) ∧ A (36 + 3 * i + 2) ≤ 299) ∧ (∀ i : Nat, (i : Int) < A 5 → 0 ≤ A (54 + 5 * i) ∧ A (54 + 5 * i) < A 3 ∧ 1 ≤ A (54 + 5 * i + 1) ∧ A (54 + 5 * i + 1) ≤ 20 ∧ 0 ≤ A (54 + 5 * i + 2) ∧ A (54 + 5 * i + 2) ≤ 299 ∧ 1 ≤ A (54 + 5 * i + 3) ∧ A (54 + 5 * i + 3) ≤ 30) ∧ ∀ i : Nat, i < 6 → 0 ≤ A (58 + 5 * i) ∧ A (58 + 5 * i) < ((2 ^ (A 5).toNat : Nat) : Int)
theorem p2_64 {k : Nat} (h : k ≤ 6) : 2 ^ k ≤ 64 := Nat.pow_le_pow_right (show 2 > 0 by decide) h
theorem zW_re {A : Nat → Int} (h : zW A) : zRe A := fun i hi => by
  have h1 := h.2.2.2.2.2 i hi
  have h2 := p2_64 (k := (A 5).toNat) (by have := h.1.2.2.2.2.2.1; omega)
  omega
theorem bdN_inr {r : Sum Nat (Nat × Int)} {k : Nat → Int → Qr} {q : Nat × (Nat → Int)} (h : bdN r k = .inr q) : ∃ p v, r = .inr (p, v) ∧ k p v = .inr q := by
  cases r with
  | inl e => cases h
  | inr s => exact ⟨s.1, s.2, rfl, h⟩
theorem bdQ_inr {r : Qr} {k : Nat → (Nat → Int) → Qr} {q : Nat × (Nat → Int)} (h : bdQ r k = .inr q) : ∃ p A, r = .inr (p, A) ∧ k p A = .inr q := by
  cases r with
  | inl e => cases h
  | inr s => exact ⟨s.1, s.2, rfl, h⟩
theorem upI_v (g : Nat → Int) (k : Nat) (v : Int) (j : Nat) : upI g k v j = if j = k then v else g j := rfl
theorem offL_ok {T : Nat → Int} {n p : Nat} {A : Nat → Int} {q : Nat × (Nat → Int)} (hn : n ≤ 400) (h : zW A) (hg : gOffL T n p A = .inr q) : zW q.2 ∧ 0 < q.2 0 ∧ q.1 ≤ n ∧ atP T n q.1 := by
  unfold gOffL at hg
  split at hg
  · cases hg
  · obtain ⟨p1, v, g1, hg⟩ := bdN_inr hg
    obtain ⟨p2, A2, g2, hg⟩ := bdQ_inr hg
    obtain ⟨p3, A3, g3, hg⟩ := bdQ_inr hg
    cases hg
    dsimp only
    obtain ⟨_, _, _, b1, b2, b3, b4⟩ := gNum_rm hn g1
    obtain ⟨v2, rfl, c1, c2, c3, c4, c5, c6, c7⟩ := cell_ext hn g2
    obtain ⟨v3, rfl, d1, d2, d3, d4, d5, d6, d7⟩ := cell_ext hn g3
    obtain ⟨⟨z1, z2, z3, z4, z5, z6, z7, z8⟩, hz1, hz2, hz3, hz4, hz5⟩ := h
    refine ⟨⟨?_, ?_, ?_, ?_, ?_, ?_⟩, ?_, d6, d7⟩
    · simp only [zOK, upI_v]
      refine ⟨?_, ?_, ?_, ?_, ?_, ?_, ?_, ?_⟩ <;> simp <;> omega
    · simp only [upI_v]
      intro _
      refine ⟨?_, ?_, ?_, ?_⟩ <;> simp <;> omega
    · intro i hi
      have e3 : upI (upI (upI A 1 v2) 2 v3) 0 v 3 = A 3 := rfl
      rw [e3] at hi
      have q := hz2 i hi
      simp only [upI_v]
      rw [if_neg (by omega), if_neg (by omega), if_neg (by omega)]
      exact q
    · intro i hi
      have e4 : upI (upI (upI A 1 v2) 2 v3) 0 v 4 = A 4 := rfl
      have e3 : upI (upI (upI A 1 v2) 2 v3) 0 v 3 = A 3 := rfl
      rw [e4] at hi
      have q := hz3 i hi
      rw [e3]
      simp only [upI_v]
      simp (disch := omega) only [if_neg]
      exact q
    · intro i hi
      have e5 : upI (upI (upI A 1 v2) 2 v3) 0 v 5 = A 5 := rfl
      have e3 : upI (upI (upI A 1 v2) 2 v3) 0 v 3 = A 3 := rfl
      rw [e5] at hi
      have q := hz4 i hi
      rw [e3]
      simp only [upI_v]
      simp (disch := omega) only [if_neg]
      exact q
    · intro i hi
      have e5 : upI (upI (upI A 1 v2) 2 v3) 0 v 5 = A 5 := rfl
      have q := hz5 i hi
      rw [e5]
      simp only [upI_v]
      simp (disch := omega) only [if_neg]
      exact q
    · show 0 < upI _ 0 v 0
      rw [up_e]; omega
theorem clkL_ok {T : Nat → Int} {n p : Nat} {A : Nat → Int} {q : Nat × (Nat → Int)} (hn : n ≤ 400) (h : zW A) (h0 : A 0 ≠ 0) (hg : gClkL T n p A = .inr q) : zW q.2 ∧ 0 < q.2 0 ∧ q.1 ≤ n ∧ atP T n q.1 := by
  unfold gClkL at hg
  split at hg
  · cases hg
  · rename_i h4
    obtain ⟨p1, A1, g1, hg⟩ := bdQ_inr hg
    cases hg
    dsimp only
    obtain ⟨v, rfl, c1, c2, c3, c4, c5, c6, c7⟩ := cell_ext hn g1
    obtain ⟨⟨z1, z2, z3, z4, z5, z6, z7, z8⟩, hz1, hz2, hz3, hz4, hz5⟩ := h
    obtain ⟨m, hm⟩ : ∃ m : Nat, A 3 = m := ⟨(A 3).toNat, by omega⟩
    have ht : (A 3).toNat = m := by omega
    rw [ht]
    have e : ∀ j, upI (upI A (32 + m) v) 3 (upI A (32 + m) v 3 + 1) j = if j = 3 then A 3 + 1 else if j = 32 + m then v else A j := fun j => by
      rw [upI_v, up_n (by omega : (3 : Nat) ≠ 32 + m), upI_v]
    have e0 := (e 0).trans (by rw [if_neg (by decide), if_neg (by omega)])
    have e1 := (e 1).trans (by rw [if_neg (by decide), if_neg (by omega)])
    have e2 := (e 2).trans (by rw [if_neg (by decide), if_neg (by omega)])
    have e3 := (e 3).trans (if_pos rfl)
    have e4 := (e 4).trans (by rw [if_neg (by decide), if_neg (by omega)])
    have e5 := (e 5).trans (by rw [if_neg (by decide), if_neg (by omega)])
    generalize upI (upI A (32 + m) v) 3 (upI A (32 + m) v 3 + 1) = A' at *
    refine ⟨⟨?_, ?_, ?_, ?_, ?_, ?_⟩, by omega, c6, c7⟩
    · exact ⟨by omega, by omega, by omega, by omega, by omega, by omega, by omega, by omega⟩
    · rw [e0, e1, e2]; exact hz1
    · intro i hi
      have q := hz2 i
      rw [e (32 + i), if_neg (by omega)]
      split <;> omega
    · intro i hi
      have q := hz3 i (by omega)
      rw [e (36 + 3 * i), if_neg (by omega), if_neg (by omega), e (36 + 3 * i + 1), if_neg (by omega), if_neg (by omega), e (36 + 3 * i + 2), if_neg (by omega), if_neg (by omega)]
      omega
    · intro i hi
      have q := hz4 i (by omega)
      rw [e (54 + 5 * i), if_neg (by omega), if_neg (by omega), e (54 + 5 * i + 1), if_neg (by omega), if_neg (by omega), e (54 + 5 * i + 2), if_neg (by omega), if_neg (by omega), e (54 + 5 * i + 3), if_neg (by omega), if_neg (by omega)]
      omega
    · intro i hi
      rw [e5, e (58 + 5 * i), if_neg (by omega), if_neg (by omega)]
      exact hz5 i hi
theorem awyL_ok {T : Nat → Int} {n p : Nat} {A : Nat → Int} {q : Nat × (Nat → Int)} (hn : n ≤ 400) (h : zW A) (h0 : A 0 ≠ 0) (hg : gAwyL T n p A = .inr q) : zW q.2 ∧ 0 < q.2 0 ∧ q.1 ≤ n ∧ atP T n q.1 := by
  unfold gAwyL at hg
  split at hg
  · cases hg
  · rename_i h4
    obtain ⟨p1, A1, g1, hg⟩ := bdQ_inr hg
    obtain ⟨p2, A2, g2, hg⟩ := bdQ_inr hg
    obtain ⟨p3, A3, g3, hg⟩ := bdQ_inr hg
    cases hg
    dsimp only
    obtain ⟨⟨z1, z2, z3, z4, z5, z6, z7, z8⟩, hz1, hz2, hz3, hz4, hz5⟩ := h
    obtain ⟨m, hm⟩ : ∃ m : Nat, A 4 = m := ⟨(A 4).toNat, by omega⟩
    have ht : (A 4).toNat = m := by omega
    rw [ht] at g1 g2 g3
    obtain ⟨v1, rfl, b1, b2, b3, b4, b5, b6, b7⟩ := cell_ext hn g1
    obtain ⟨v2, rfl, c1, c2, c3, c4, c5, c6, c7⟩ := cell_ext hn g2
    obtain ⟨v3, rfl, d1, d2, d3, d4, d5, d6, d7⟩ := cell_ext hn g3
    rw [up_e] at d1
    have e : ∀ j, upI (upI (upI (upI A (36 + 3 * m) v1) (36 + 3 * m + 1) v2) (36 + 3 * m + 2) v3) 4 (upI (upI (upI A (36 + 3 * m) v1) (36 + 3 * m + 1) v2) (36 + 3 * m + 2) v3 4 + 1) j = if j = 4 then A 4 + 1 else if j = 36 + 3 * m + 2 then v3 else if j = 36 + 3 * m + 1 then v2 else if j = 36 + 3 * m then v1 else A j := fun j => by
      rw [upI_v, up_n (by omega : (4 : Nat) ≠ 36 + 3 * m + 2), up_n (by omega : (4 : Nat) ≠ 36 + 3 * m + 1), up_n (by omega : (4 : Nat) ≠ 36 + 3 * m), upI_v, upI_v, upI_v]
    have no : ∀ j : Nat, j < 36 ∨ 54 ≤ j → j ≠ 4 → (if j = 4 then A 4 + 1 else if j = 36 + 3 * m + 2 then v3 else if j = 36 + 3 * m + 1 then v2 else if j = 36 + 3 * m then v1 else A j) = A j := fun j h1 h2 => by rw [if_neg h2, if_neg (by omega), if_neg (by omega), if_neg (by omega)]
    have e0 := (e 0).trans (no 0 (by omega) (by decide))
    have e1 := (e 1).trans (no 1 (by omega) (by decide))
    have e2 := (e 2).trans (no 2 (by omega) (by decide))
    have e3 := (e 3).trans (no 3 (by omega) (by decide))
    have e4 := (e 4).trans (if_pos rfl)
    have e5 := (e 5).trans (no 5 (by omega) (by decide))
    generalize upI (upI (upI (upI A (36 + 3 * m) v1) (36 + 3 * m + 1) v2) (36 + 3 * m + 2) v3) 4 (upI (upI (upI A (36 + 3 * m) v1) (36 + 3 * m + 1) v2) (36 + 3 * m + 2) v3 4 + 1) = A' at *
    refine ⟨⟨?_, ?_, ?_, ?_, ?_, ?_⟩, by omega, d6, d7⟩
    · exact ⟨by omega, by omega, by omega, by omega, by omega, by omega, by omega, by omega⟩
    · rw [e0, e1, e2]; exact hz1
    · intro i hi
      have q := hz2 i (by omega)
      rw [(e (32 + i)).trans (no _ (by omega) (by omega))]
      exact q
    · intro i hi
      have q := hz3 i
      rw [e3]
      by_cases ci : i = m
      · subst ci
        rw [(e (36 + 3 * i)), if_neg (by omega), if_neg (by omega), if_neg (by omega), if_pos rfl, (e (36 + 3 * i + 1)), if_neg (by omega), if_neg (by omega), if_pos rfl, (e (36 + 3 * i + 2)), if_neg (by omega), if_pos rfl]
        omega
      · rw [(e (36 + 3 * i)), if_neg (by omega), if_neg (by omega), if_neg (by omega), if_neg (by omega), (e (36 + 3 * i + 1)), if_neg (by omega), if_neg (by omega), if_neg (by omega), if_neg (by omega), (e (36 + 3 * i + 2)), if_neg (by omega), if_neg (by omega), if_neg (by omega), if_neg (by omega)]
        omega
    · intro i hi
      have q := hz4 i (by omega)
      rw [e3, (e (54 + 5 * i)).trans (no _ (by omega) (by omega)), (e (54 + 5 * i + 1)).trans (no _ (by omega) (by omega)), (e (54 + 5 * i + 2)).trans (no _ (by omega) (by omega)), (e (54 + 5 * i + 3)).trans (no _ (by omega) (by omega))]
      exact q
    · intro i hi
      rw [e5, (e (58 + 5 * i)).trans (no _ (by omega) (by omega))]
      exact hz5 i hi
theorem papL_ok {T : Nat → Int} {n p : Nat} {A : Nat → Int} {q : Nat × (Nat → Int)} (hn : n ≤ 400) (h : zW A) (h0 : A 0 ≠ 0) (hg : gPapL T n p A = .inr q) : zW q.2 ∧ 0 < q.2 0 ∧ q.1 ≤ n ∧ atP T n q.1 := by
  unfold gPapL at hg
  split at hg
  · cases hg
  · rename_i h4
    obtain ⟨p1, A1, g1, hg⟩ := bdQ_inr hg
    obtain ⟨p2, A2, g2, hg⟩ := bdQ_inr hg
    obtain ⟨p3, A3, g3, hg⟩ := bdQ_inr hg
    obtain ⟨p4, A4, g4, hg⟩ := bdQ_inr hg
    cases hg
    dsimp only
    obtain ⟨⟨z1, z2, z3, z4, z5, z6, z7, z8⟩, hz1, hz2, hz3, hz4, hz5⟩ := h
    obtain ⟨m, hm⟩ : ∃ m : Nat, A 5 = m := ⟨(A 5).toNat, by omega⟩
    have ht : (A 5).toNat = m := by omega
    rw [ht] at g1 g2 g3 g4 hz5 ⊢
    obtain ⟨v1, rfl, b1, b2, b3, b4, b5, b6, b7⟩ := cell_ext hn g1
    obtain ⟨v2, rfl, c1, c2, c3, c4, c5, c6, c7⟩ := cell_ext hn g2
    obtain ⟨v3, rfl, d1, d2, d3, d4, d5, d6, d7⟩ := cell_ext hn g3
    obtain ⟨v4, rfl, f1, f2, f3, f4, f5, f6, f7⟩ := cell_ext hn g4
    have e : ∀ j, upI (upI (upI (upI (upI (upI A (54 + 5 * m) v1) (54 + 5 * m + 1) v2) (54 + 5 * m + 2) v3) (54 + 5 * m + 3) v4) (54 + 5 * m + 4) 0) 5 (upI (upI (upI (upI A (54 + 5 * m) v1) (54 + 5 * m + 1) v2) (54 + 5 * m + 2) v3) (54 + 5 * m + 3) v4 5 + 1) j = if j = 5 then A 5 + 1 else if j = 54 + 5 * m + 4 then 0 else if j = 54 + 5 * m + 3 then v4 else if j = 54 + 5 * m + 2 then v3 else if j = 54 + 5 * m + 1 then v2 else if j = 54 + 5 * m then v1 else A j := fun j => by
      rw [upI_v, up_n (by omega : (5 : Nat) ≠ 54 + 5 * m + 3), up_n (by omega : (5 : Nat) ≠ 54 + 5 * m + 2), up_n (by omega : (5 : Nat) ≠ 54 + 5 * m + 1), up_n (by omega : (5 : Nat) ≠ 54 + 5 * m), upI_v, upI_v, upI_v, upI_v, upI_v]
    have no : ∀ j : Nat, (j < 54 + 5 * m ∨ 54 + 5 * m + 4 < j) → j ≠ 5 → (if j = 5 then A 5 + 1 else if j = 54 + 5 * m + 4 then 0 else if j = 54 + 5 * m + 3 then v4 else if j = 54 + 5 * m + 2 then v3 else if j = 54 + 5 * m + 1 then v2 else if j = 54 + 5 * m then v1 else A j) = A j := fun j h1 h2 => by rw [if_neg h2, if_neg (by omega), if_neg (by omega), if_neg (by omega), if_neg (by omega), if_neg (by omega)]
    have e0 := (e 0).trans (no 0 (by omega) (by decide))
    have e1 := (e 1).trans (no 1 (by omega) (by decide))
    have e2 := (e 2).trans (no 2 (by omega) (by decide))
    have e3 := (e 3).trans (no 3 (by omega) (by decide))
    have e4 := (e 4).trans (no 4 (by omega) (by decide))
    have e5 := (e 5).trans (if_pos rfl)
    generalize upI (upI (upI (upI (upI (upI A (54 + 5 * m) v1) (54 + 5 * m + 1) v2) (54 + 5 * m + 2) v3) (54 + 5 * m + 3) v4) (54 + 5 * m + 4) 0) 5 (upI (upI (upI (upI A (54 + 5 * m) v1) (54 + 5 * m + 1) v2) (54 + 5 * m + 2) v3) (54 + 5 * m + 3) v4 5 + 1) = A' at *
    refine ⟨⟨?_, ?_, ?_, ?_, ?_, ?_⟩, by omega, f6, f7⟩
    · exact ⟨by omega, by omega, by omega, by omega, by omega, by omega, by omega, by omega⟩
    · rw [e0, e1, e2]; exact hz1
    · intro i hi
      have q := hz2 i (by omega)
      rw [(e (32 + i)).trans (no _ (by omega) (by omega))]
      exact q
    · intro i hi
      have q := hz3 i (by omega)
      rw [e3, (e (36 + 3 * i)).trans (no _ (by omega) (by omega)), (e (36 + 3 * i + 1)).trans (no _ (by omega) (by omega)), (e (36 + 3 * i + 2)).trans (no _ (by omega) (by omega))]
      exact q
    · intro i hi
      have q := hz4 i
      rw [e3]
      by_cases ci : i = m
      · subst ci
        rw [e (54 + 5 * i), if_neg (by omega), if_neg (by omega), if_neg (by omega), if_neg (by omega), if_neg (by omega), if_pos rfl, e (54 + 5 * i + 1), if_neg (by omega), if_neg (by omega), if_neg (by omega), if_neg (by omega), if_pos rfl, e (54 + 5 * i + 2), if_neg (by omega), if_neg (by omega), if_neg (by omega), if_pos rfl, e (54 + 5 * i + 3), if_neg (by omega), if_neg (by omega), if_pos rfl]
        omega
      · rw [(e (54 + 5 * i)).trans (no _ (by omega) (by omega)), (e (54 + 5 * i + 1)).trans (no _ (by omega) (by omega)), (e (54 + 5 * i + 2)).trans (no _ (by omega) (by omega)), (e (54 + 5 * i + 3)).trans (no _ (by omega) (by omega))]
        omega
    · intro i hi
      have q := hz5 i hi
      have hp : (A' 5).toNat = m + 1 := by omega
      have hp2 : (2 : Nat) ^ (m + 1) = 2 ^ m + 2 ^ m := by rw [Nat.pow_succ]; omega
      rw [hp, hp2]
      by_cases ci : i = m
      · subst ci
        rw [e (58 + 5 * i), if_neg (by omega), if_pos (by omega)]
        have := Nat.two_pow_pos i
        omega
      · rw [(e (58 + 5 * i)).trans (no _ (by omega) (by omega))]
        omega
theorem rstL_ok {T : Nat → Int} {n p : Nat} {A : Nat → Int} {q : Nat × (Nat → Int)} (hn : n ≤ 400) (h : zW A) (h0 : A 0 ≠ 0) (hg : gRstL T n p A = .inr q) : zW q.2 ∧ 0 < q.2 0 ∧ q.1 ≤ n ∧ atP T n q.1 := by
  unfold gRstL at hg
  obtain ⟨p1, v1, g1, hg⟩ := bdN_inr hg
  obtain ⟨p2, v2, g2, hg⟩ := bdN_inr hg
  split at hg
  · cases hg
  · cases hg
    dsimp only
    obtain ⟨⟨z1, z2, z3, z4, z5, z6, z7, z8⟩, hz1, hz2, hz3, hz4, hz5⟩ := h
    obtain ⟨_, _, _, b1, b2, b3, b4⟩ := gNum_rm hn g1
    obtain ⟨_, c1, c2, c3, c4, c5, c6⟩ := gNum_rm hn g2
    obtain ⟨k1, rfl⟩ : ∃ k1 : Nat, v1 = k1 := ⟨v1.toNat, by omega⟩
    obtain ⟨k2, rfl⟩ : ∃ k2 : Nat, v2 = k2 := ⟨v2.toNat, by omega⟩
    rw [Int.toNat_natCast, Int.toNat_natCast]
    have hr := hz5 k1 (by omega)
    have hor : (A (58 + 5 * k1)).toNat ||| 2 ^ k2 < 2 ^ (A 5).toNat := Nat.or_lt_two_pow (by omega) (Nat.pow_lt_pow_right (show 1 < 2 by decide) (by omega))
    generalize (A (58 + 5 * k1)).toNat ||| 2 ^ k2 = v at *
    have no : ∀ j : Nat, j ≠ 58 + 5 * k1 → upI A (58 + 5 * k1) (v : Nat) j = A j := fun j hj => up_n hj
    have ye : upI A (58 + 5 * k1) (v : Nat) (58 + 5 * k1) = (v : Nat) := up_e
    have e0 := no 0 (by omega)
    have e1 := no 1 (by omega)
    have e2 := no 2 (by omega)
    have e3 := no 3 (by omega)
    have e4 := no 4 (by omega)
    have e5 := no 5 (by omega)
    generalize upI A (58 + 5 * k1) (v : Nat) = A' at *
    refine ⟨⟨?_, ?_, ?_, ?_, ?_, ?_⟩, by omega, c1, c2⟩
    · exact ⟨by omega, by omega, by omega, by omega, by omega, by omega, by omega, by omega⟩
    · rw [e0, e1, e2]; exact hz1
    · intro i hi
      have q := hz2 i (by omega)
      rw [no _ (by omega)]
      exact q
    · intro i hi
      have q := hz3 i (by omega)
      rw [e3, no (36 + 3 * i) (by omega), no (36 + 3 * i + 1) (by omega), no (36 + 3 * i + 2) (by omega)]
      exact q
    · intro i hi
      have q := hz4 i (by omega)
      rw [e3, no (54 + 5 * i) (by omega), no (54 + 5 * i + 1) (by omega), no (54 + 5 * i + 2) (by omega), no (54 + 5 * i + 3) (by omega)]
      exact q
    · intro i hi
      have q := hz5 i hi
      rw [e5]
      by_cases ci : i = k1
      · subst ci
        rw [ye]
        omega
      · rw [no (58 + 5 * i) (by omega)]
        exact q
theorem gOC_ok {T : Nat → Int} {n k p : Nat} {A : Nat → Int} {q : Nat × (Nat → Int)} (hn : n ≤ 400) (h : zW A) (hg : gOC T n k p A = .inr q) : zW q.2 ∧ 0 < q.2 0 ∧ q.1 ≤ n ∧ atP T n q.1 ∧ k ≠ 40 := by
  unfold gOC at hg
  split at hg
  · split at hg
    · cases hg
    · rename_i hk
      unfold gLine at hg
      have key : zW q.2 ∧ 0 < q.2 0 ∧ q.1 ≤ n ∧ atP T n q.1 := by
        split at hg
        · exact offL_ok hn h hg
        · split at hg
          · cases hg
          · rename_i h0
            split at hg
            · exact clkL_ok hn h h0 hg
            · split at hg
              · exact awyL_ok hn h h0 hg
              · split at hg
                · exact papL_ok hn h h0 hg
                · exact rstL_ok hn h h0 hg
      exact ⟨key.1, key.2.1, key.2.2.1, key.2.2.2, hk⟩
  · cases hg
