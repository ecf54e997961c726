/-! faults lie in the text -/
def fbP (n : Nat) (G : Ps → Pr) : Prop := ∀ s e, s.1 ≤ n → G s = .inl e → 1 ≤ e ∧ e ≤ 8 * n + 4
theorem bd_inl {r : Pr} {k : Ps → Pr} {e : Nat} (h : bdP r k = .inl e) : r = .inl e ∨ ∃ s1, r = .inr s1 ∧ k s1 = .inl e := by
  cases r with
  | inl e' => cases h; exact Or.inl rfl
  | inr s1 => exact Or.inr ⟨s1, rfl, h⟩
theorem gVal_fb (T : Nat → Int) (n : Nat) : fbP n (gVal T n) := by
  intro s e hs h
  unfold gVal at h
  split at h
  · split at h
    · cases h; omega
    · split at h
      · cases h; omega
      · cases h
  · split at h
    · split at h
      · cases h; omega
      · cases h
    · cases h; omega
theorem tm_fb {T : Nat → Int} {n : Nat} (hn : n ≤ 400) : ∀ f, fbP n (tmF T n f) := by
  intro f
  induction f with
  | zero => intro s e _ h; cases h
  | succ f ih =>
    intro s e hs h
    unfold tmF at h
    split at h
    · cases h
    · rename_i hop
      obtain ⟨n1, n2, n3⟩ := nx_rng (T := T) hn (opM_kd hop)
      rcases bd_inl h with h1 | ⟨s1, h1, h2⟩
      · exact gVal_fb T n _ e n2 h1
      · obtain ⟨g1, g2, g3, g4⟩ := gVal_rm hn h1
        exact ih (s1.1, s1.2.1, s1.2.2 ++ [(opM T n s.1, 0)]) e g2 h2
theorem gTerm_fb {T : Nat → Int} {n : Nat} (hn : n ≤ 400) : fbP n (gTerm T n) := by
  intro s e hs h
  rcases bd_inl h with h1 | ⟨s1, h1, h2⟩
  · exact gVal_fb T n _ e hs h1
  · exact tm_fb hn 401 s1 e (gVal_rm hn h1).2.1 h2
theorem su_fb {T : Nat → Int} {n : Nat} (hn : n ≤ 400) : ∀ f, fbP n (suF T n f) := by
  intro f
  induction f with
  | zero => intro s e _ h; cases h
  | succ f ih =>
    intro s e hs h
    unfold suF at h
    split at h
    · cases h
    · rename_i hop
      obtain ⟨n1, n2, n3⟩ := nx_rng (T := T) hn (opS_kd hop)
      rcases bd_inl h with h1 | ⟨s1, h1, h2⟩
      · exact gTerm_fb hn _ e n2 h1
      · obtain ⟨⟨g1, g2, g3, g4⟩, g5⟩ := gTerm_rm hn h1
        exact ih (s1.1, s1.2.1, s1.2.2 ++ [(opS T n s.1, 0)]) e g2 h2
theorem gSum_fb {T : Nat → Int} {n : Nat} (hn : n ≤ 400) : fbP n (gSum T n) := by
  intro s e hs h
  rcases bd_inl h with h1 | ⟨s1, h1, h2⟩
  · exact gTerm_fb hn _ e hs h1
  · exact su_fb hn 401 s1 e (gTerm_rm hn h1).1.2.1 h2
theorem gCmp_fb {T : Nat → Int} {n : Nat} (hn : n ≤ 400) : fbP n (gCmp T n) := by
  intro s e hs h
  rcases bd_inl h with h1 | ⟨s1, h1, h2⟩
  · exact gSum_fb hn _ e hs h1
  · have g2 := (gSum_rm hn h1).1.2.1
    split at h2
    · cases h2; omega
    · rename_i hop
      split at h2
      · cases h2; omega
      · rcases bd_inl h2 with h3 | ⟨s2, h3, h4⟩
        · exact gSum_fb hn _ e (nx_rng (T := T) hn (opC_kd hop)).2.1 h3
        · cases h4
theorem ts_fb {T : Nat → Int} {n : Nat} {F : Ps → Pr} (hn : n ≤ 400) (hFr : ∀ s s', F s = .inr s' → rmP T n s s' ∧ s.1 < s'.1) (hF : fbP n F) : ∀ f wt, fbP n (tsF T n F f wt) := by
  intro f
  induction f with
  | zero => intro wt s e _ h; cases h
  | succ f ih =>
    intro wt s e hs h
    unfold tsF at h
    by_cases c : wdA T n s.1 = 18
    · rw [if_pos c] at h
      have nx := nx_rng (T := T) hn (wd_lt (T := T) (n := n) (p := s.1) (by omega)).1
      rcases bd_inl h with h1 | ⟨s1, h1, h2⟩
      · exact hF _ e nx.2.1 h1
      · exact ih true s1 e (hFr _ _ h1).1.2.1 h2
    · rw [if_neg c] at h
      by_cases c2 : wdA T n s.1 = 19
      · rw [if_pos c2] at h
        have nx := nx_rng (T := T) hn (wd_lt (T := T) (n := n) (p := s.1) (by omega)).1
        rcases bd_inl h with h1 | ⟨s1, h1, h2⟩
        · exact hF _ e nx.2.1 h1
        · exact ih wt (s1.1, s1.2.1, s1.2.2 ++ [(12, 0)]) e (hFr _ _ h1).1.2.1 h2
      · rw [if_neg c2] at h; cases h
theorem gTest_fb {T : Nat → Int} {n : Nat} {F : Ps → Pr} (hn : n ≤ 400) (hFr : ∀ s s', F s = .inr s' → rmP T n s s' ∧ s.1 < s'.1) (hF : fbP n F) : fbP n (gTest T n F) := by
  intro s e hs h
  rcases bd_inl h with h1 | ⟨s1, h1, h2⟩
  · exact hF _ e hs h1
  · exact ts_fb hn hFr hF 401 false s1 e (hFr _ _ h1).1.2.1 h2
theorem gFact_fb {T : Nat → Int} {n : Nat} (hn : n ≤ 400) : ∀ d, fbP n (gFact T n d) := by
  intro d
  induction d with
  | zero =>
    intro s e hs h
    unfold gFact at h
    split at h
    · cases h; omega
    · split at h
      · cases h; omega
      · exact gCmp_fb hn s e hs h
  | succ d ih =>
    intro s e hs h
    unfold gFact at h
    by_cases c : wdA T n s.1 = 20
    · rw [if_pos c] at h
      have nx := nx_rng (T := T) hn (wd_lt (T := T) (n := n) (p := s.1) (by omega)).1
      rcases bd_inl h with h1 | ⟨s1, h1, h2⟩
      · exact ih _ e nx.2.1 h1
      · cases h2
    · rw [if_neg c] at h
      by_cases c2 : seeF T n s.1 = 91
      · rw [if_pos c2] at h
        have nx := nx_rng (T := T) hn (see_lt (T := T) (n := n) (p := s.1) (by omega))
        rcases bd_inl h with h1 | ⟨s1, h1, h2⟩
        · exact gTest_fb hn (gFact_rm hn d) ih _ e nx.2.1 h1
        · have g := (gTest_rm hn (gFact_rm hn d) h1).1.2.1
          by_cases c3 : seeF T n s1.1 = 93
          · rw [if_pos c3] at h2; cases h2
          · rw [if_neg c3] at h2; cases h2; omega
      · rw [if_neg c2] at h
        exact gCmp_fb hn s e hs h
theorem gT_fb {T : Nat → Int} {n : Nat} (hn : n ≤ 400) : fbP n (gT T n) := gTest_fb hn (gFact_rm hn 10) (gFact_fb hn 10)
