/-! the first free minute: both ways -/
/-- the clerk c is not there for n minutes from t on -/
def blkF (O : Of) (c n t : Int) : Prop := ∃ k, k < of_na O ∧ of_aw O k = c ∧ of_af O k < t + n ∧ t ≤ of_al O k
def lftF (O : Of) (c t : Int) : Nat := cnt (fun k => decide (of_aw O k = c ∧ t ≤ of_al O k)) (of_na O)
theorem cnt_mono {P Q : Nat → Bool} (h : ∀ i, P i = true → Q i = true) : ∀ n, cnt P n ≤ cnt Q n := by
  intro n
  induction n with
  | zero => exact Nat.le_refl _
  | succ n ih =>
    unfold cnt
    by_cases c : P n = true
    · rw [if_pos c, if_pos (h n c)]; omega
    · rw [if_neg c]; split <;> omega
theorem cnt_lt {P Q : Nat → Bool} (h : ∀ i, P i = true → Q i = true) {k : Nat} (h1 : P k = false) (h2 : Q k = true) : ∀ n, k < n → cnt P n < cnt Q n := by
  intro n
  induction n with
  | zero => intro hk; omega
  | succ n ih =>
    intro hk
    unfold cnt
    by_cases e : k = n
    · subst e
      have := cnt_mono h k
      rw [if_neg (by rw [h1]; decide), if_pos h2]; omega
    · have := ih (by omega)
      by_cases c : P n = true
      · rw [if_pos c, if_pos (h n c)]; omega
      · rw [if_neg c]; split <;> omega
theorem cnt_pos {P : Nat → Bool} {k n : Nat} (hk : k < n) (h : P k = true) : 0 < cnt P n := by
  have := cnt_lt (P := fun _ => false) (Q := P) (fun i q => by cases q) (k := k) rfl h n hk
  omega
/-- one round: either nothing meets, or the minute goes up over one away at least; what lies between is not free -/
theorem fr_in_one {O : Of} {c n m : Int} (hw : xw_Off O) (hn : 1 ≤ n) : ∀ k, k ≤ of_na O → (∀ t, m ≤ t → t < fr_in O c n k m → blkF O c n t) ∧ (fr_in O c n k m = m → ∀ j, j < k → ¬ (of_aw O j = c ∧ of_af O j < m + n ∧ m ≤ of_al O j)) ∧ (m < fr_in O c n k m → lftF O c (fr_in O c n k m) < lftF O c m) := by
  intro k
  induction k with
  | zero =>
    intro _
    unfold fr_in
    exact ⟨fun t h1 h2 => by omega, fun _ j hj => by omega, fun h => by omega⟩
  | succ k ih =>
    intro hk
    obtain ⟨i1, i2, i3⟩ := ih (by omega)
    have hr := fr_in_rng (c := c) (n := n) hw k (by omega) m
    have ha := hw.2.2.2.2.2.1 k (by omega)
    unfold fr_in
    split
    · rename_i hc
      refine ⟨fun t h1 h2 => ?_, fun h => by omega, fun _ => ?_⟩
      · by_cases c1 : t < fr_in O c n k m
        · exact i1 t h1 c1
        · exact ⟨k, by omega, hc.1, by omega, by omega⟩
      · have hk1 : lftF O c (of_al O k + 1) < lftF O c m := by
          refine cnt_lt (k := k) (fun i q => ?_) ?_ ?_ _ (by omega)
          · have := of_decide_eq_true q
            exact decide_eq_true ⟨this.1, by omega⟩
          · exact decide_eq_false (fun q => by omega)
          · exact decide_eq_true ⟨hc.1, by omega⟩
        exact hk1
    · rename_i hc
      refine ⟨i1, fun h j hj => ?_, i3⟩
      by_cases e : j = k
      · subst e; rw [h] at hc; exact hc
      · exact i2 h j (by omega)
theorem fr_out_one {O : Of} {c n m : Int} (hw : xw_Off O) (hn : 1 ≤ n) : ∀ r, (∀ t, m ≤ t → t < fr_out O c n r m → blkF O c n t) ∧ (¬ blkF O c n (fr_out O c n r m) ∨ lftF O c (fr_out O c n r m) + r ≤ of_na O) := by
  intro r
  induction r with
  | zero =>
    unfold fr_out
    exact ⟨fun t h1 h2 => by omega, Or.inr (by have := cnt_le (fun k => decide (of_aw O k = c ∧ m ≤ of_al O k)) (of_na O); unfold lftF; omega)⟩
  | succ r ih =>
    obtain ⟨i1, i2⟩ := ih
    have h1 := fr_in_one (c := c) (n := n) (m := fr_out O c n r m) hw hn (of_na O) (Nat.le_refl _)
    have hr := fr_in_rng (c := c) (n := n) hw (of_na O) (Nat.le_refl _) (fr_out O c n r m)
    unfold fr_out
    refine ⟨fun t t1 t2 => ?_, ?_⟩
    · by_cases c1 : t < fr_out O c n r m
      · exact i1 t t1 c1
      · exact h1.1 t (by omega) t2
    · by_cases c1 : fr_in O c n (of_na O) (fr_out O c n r m) = fr_out O c n r m
      · have h2 := h1.2.1 c1
        rw [c1]
        exact Or.inl (fun ⟨j, hj, q⟩ => h2 j hj q)
      · have h3 := h1.2.2 (by omega)
        rcases i2 with i2 | i2
        · exact absurd (h1.1 (fr_out O c n r m) (Int.le_refl _) (by omega)) i2
        · exact Or.inr (by omega)
theorem free_ok {O : Of} {c n m : Int} (hw : xw_Off O) (hn : 1 ≤ n) : m ≤ freeF O c m n ∧ (∀ t, m ≤ t → t < freeF O c m n → blkF O c n t) ∧ ¬ blkF O c n (freeF O c m n) := by
  have h := fr_out_one (c := c) (n := n) (m := m) hw hn (of_na O)
  refine ⟨(fr_out_rng hw _ _).1, h.1, fun hb => ?_⟩
  rcases h.2 with h2 | h2
  · exact h2 hb
  · obtain ⟨k, h3, h4, h5, h6⟩ := hb
    have := cnt_pos (P := fun k => decide (of_aw O k = c ∧ fr_out O c n (of_na O) m ≤ of_al O k)) h3 (decide_eq_true ⟨h4, h6⟩)
    unfold lftF at h2
    omega
theorem free_u {O : Of} {c n m t : Int} (hw : xw_Off O) (hn : 1 ≤ n) (h1 : m ≤ t) (h2 : ∀ s, m ≤ s → s < t → blkF O c n s) (h3 : ¬ blkF O c n t) : freeF O c m n = t := by
  obtain ⟨g1, g2, g3⟩ := free_ok (c := c) (m := m) hw hn
  rcases Int.lt_trichotomy (freeF O c m n) t with h | h | h
  · exact absurd (h2 _ g1 h) g3
  · exact h
  · exact absurd (g2 _ h1 h) h3
theorem awIn_no {O : Of} {c x y : Int} (hw : xw_Off O) : ∀ k, k ≤ of_na O → awIn O c x y k < 0 → ∀ j, j < k → ¬ (of_aw O j = c ∧ of_af O j ≤ y ∧ x ≤ of_al O j) := by
  intro k
  induction k with
  | zero => intro _ _ j hj; omega
  | succ k ih =>
    intro hk h j hj
    have ha := hw.2.2.2.2.2.1 k (by omega)
    unfold awIn at h
    split at h
    · omega
    · rename_i hc
      by_cases e : j = k
      · subst e; exact fun q => hc ⟨q.1, q.2.1, q.2.2, by omega⟩
      · exact ih (by omega) h j (by omega)
theorem awIn_yes {O : Of} {c x y : Int} (hw : xw_Off O) : ∀ k, k ≤ of_na O → 0 ≤ awIn O c x y k → ∃ j, j < of_na O ∧ of_aw O j = c ∧ of_af O j ≤ y ∧ x ≤ of_al O j ∧ awIn O c x y k = of_al O j := by
  intro k
  induction k with
  | zero => intro _ h; unfold awIn at h; omega
  | succ k ih =>
    intro hk h
    unfold awIn at h ⊢
    split at h
    · rename_i hc
      rw [if_pos hc]
      exact ⟨k, by omega, hc.1, hc.2.1, hc.2.2.1, rfl⟩
    · rename_i hc
      rw [if_neg hc]
      exact ih (by omega) h
/-- the model's loop: on from the last away minute -/
theorem free_on {O : Of} {c n m : Int} (hw : xw_Off O) (hn : 1 ≤ n) (h : 0 ≤ awIn O c m (m + n - 1) (of_na O)) : m < awIn O c m (m + n - 1) (of_na O) + 1 ∧ freeF O c m n = freeF O c (awIn O c m (m + n - 1) (of_na O) + 1) n := by
  obtain ⟨j, h1, h2, h3, h4, h5⟩ := awIn_yes hw _ (Nat.le_refl _) h
  rw [h5]
  refine ⟨by omega, ?_⟩
  obtain ⟨g1, g2, g3⟩ := free_ok (c := c) (m := of_al O j + 1) (n := n) hw hn
  refine free_u hw hn (by omega) (fun s s1 s2 => ?_) g3
  by_cases c1 : s < of_al O j + 1
  · exact ⟨j, h1, h2, by omega, by omega⟩
  · exact g2 s (by omega) s2
theorem free_at {O : Of} {c n m : Int} (hw : xw_Off O) (hn : 1 ≤ n) (h : awIn O c m (m + n - 1) (of_na O) < 0) : freeF O c m n = m := by
  have h1 := awIn_no hw _ (Nat.le_refl _) h
  exact free_u hw hn (Int.le_refl _) (fun s s1 s2 => by omega) (fun ⟨j, q1, q2, q3, q4⟩ => h1 j q1 ⟨q2, by omega, q4⟩)
/-- away now -/
theorem away_iff {O : Of} {c m : Int} (hw : xw_Off O) (hm : 0 ≤ m) : (freeF O c m 1 ≠ m) ↔ 0 ≤ awIn O c m m (of_na O) := by
  have e : m + 1 - 1 = m := by omega
  constructor
  · intro h
    apply Classical.byContradiction
    intro q
    exact h (free_at (n := 1) hw (by decide) (by rw [e]; omega))
  · intro h
    have h1 := free_on (n := 1) (c := c) (m := m) hw (by decide) (by rw [e]; exact h)
    rw [e] at h1
    have h2 := (free_ok (c := c) (n := 1) (m := awIn O c m m (of_na O) + 1) hw (by decide)).1
    rw [h1.2]
    omega
