/-! the grammar of tests; what the model keeps open -/
def tsF (T : Nat → Int) (n : Nat) (F : Ps → Pr) : Nat → Bool → Ps → Pr
  | 0, _, s => .inr s
  | fu + 1, wt, s => if wdA T n s.1 = 18 then bdP (F (nxT T n s.1, s.2.1, s.2.2 ++ (if wt = true then [(13, 0)] else []))) (tsF T n F fu true) else if wdA T n s.1 = 19 then bdP (F (nxT T n s.1, s.2)) (fun s1 => tsF T n F fu wt (s1.1, s1.2.1, s1.2.2 ++ [(12, 0)])) else .inr (s.1, s.2.1, s.2.2 ++ (if wt = true then [(13, 0)] else []))
def gTest (T : Nat → Int) (n : Nat) (F : Ps → Pr) (s : Ps) : Pr := bdP (F s) (tsF T n F 401 false)
def gFact (T : Nat → Int) (n : Nat) : Nat → Ps → Pr
  | 0, s => if wdA T n s.1 = 20 then .inl (1 + 8 * s.1 + 2) else if seeF T n s.1 = 91 then .inl (1 + 8 * s.1 + 2) else gCmp T n s
  | d + 1, s => if wdA T n s.1 = 20 then bdP (gFact T n d (nxT T n s.1, s.2)) (fun s1 => .inr (s1.1, s1.2.1, s1.2.2 ++ [(14, 0)])) else if seeF T n s.1 = 91 then bdP (gTest T n (gFact T n d) (nxT T n s.1, s.2)) (fun s1 => if seeF T n s1.1 = 93 then .inr (nxT T n s1.1, s1.2) else .inl (1 + 8 * s1.1)) else gCmp T n s
theorem wd_lt {T : Nat → Int} {n p : Nat} (h : 0 ≤ wdA T n p) : p < n ∧ ltB T n p = true := by
  apply Classical.byContradiction
  intro c
  have hl : ltB T n p = false := by
    by_cases hp : p < n
    · cases e : ltB T n p with
      | false => rfl
      | true => exact absurd ⟨hp, e⟩ c
    · unfold ltB; exact decide_eq_false (fun q => hp q.1)
  have e : wdA T n p = -1 := by
    unfold wdA
    rw [lt0 hl, Nat.sub_self]
    exact wd0 T p
  omega
theorem see_lt {T : Nat → Int} {n p : Nat} (h : 0 ≤ seeF T n p) : p < n := by
  apply Classical.byContradiction
  intro c
  unfold seeF at h
  rw [if_neg c] at h
  omega
theorem wd_en {T : Nat → Int} {n p : Nat} (h : 0 ≤ wdA T n p) : enT T n p = ltE T n p := by
  have h := wd_lt h
  unfold enT
  rw [kd_2 h.2, if_neg (by decide), if_pos rfl]
theorem see_en {T : Nat → Int} {n p : Nat} (h : seeF T n p = 91 ∨ seeF T n p = 93) : enT T n p = p + 1 := by
  have hp := see_lt (T := T) (n := n) (p := p) (by omega)
  unfold seeF at h
  rw [if_pos hp] at h
  have hk := kd_mk (T := T) hp (by omega) (by omega)
  rw [en_mk hk, tw_no (by omega)]
  rfl
theorem wd_see {T : Nat → Int} {n p : Nat} (h : 0 ≤ wdA T n p) : seeF T n p ≠ 91 ∧ seeF T n p ≠ 93 := by
  have h := wd_lt h
  have h2 : 97 ≤ T p ∧ T p ≤ 122 := by
    have := h.2
    unfold ltB at this
    exact (of_decide_eq_true this).2
  unfold seeF
  rw [if_pos h.1]
  omega
theorem ts_rm {T : Nat → Int} {n : Nat} {F : Ps → Pr} (hn : n ≤ 400) (hF : ∀ s s', F s = .inr s' → rmP T n s s' ∧ s.1 < s'.1) : ∀ f (wt : Bool) (s s' : Ps), n + 1 ≤ s.1 + f → s.1 ≤ n → atP T n s.1 → tsF T n F f wt s = .inr s' → s.1 ≤ s'.1 ∧ s'.1 ≤ n ∧ atP T n s'.1 ∧ s'.2.2.length + s.1 ≤ s.2.2.length + (if wt = true then 1 else 0) + s'.1 := by
  intro f
  induction f with
  | zero => intro wt s s' h1 h2; omega
  | succ f ih =>
    intro wt s s' h1 h2 ha h
    unfold tsF at h
    by_cases c : wdA T n s.1 = 18
    · rw [if_pos c] at h
      obtain ⟨s1, h3, h4⟩ := bd_inr h
      obtain ⟨⟨g1, g2, g3, g4⟩, g5⟩ := hF _ _ h3
      obtain ⟨n1, n2, n3⟩ := nx_rng (T := T) hn (wd_lt (T := T) (n := n) (p := s.1) (by omega)).1
      have g5 : nxT T n s.1 < s1.1 := g5
      have g4 : s1.2.2.length + nxT T n s.1 ≤ (s.2.2 ++ (if wt = true then [(13, 0)] else [])).length + s1.1 := g4
      obtain ⟨k1, k2, k3, k4⟩ := ih true s1 s' (by omega) g2 g3 h4
      rw [List.length_append] at g4
      rw [if_pos rfl] at k4
      refine ⟨by omega, k2, k3, ?_⟩
      cases wt
      · have g4 : s1.2.2.length + nxT T n s.1 ≤ s.2.2.length + 0 + s1.1 := g4
        rw [if_neg (by decide)]
        omega
      · have g4 : s1.2.2.length + nxT T n s.1 ≤ s.2.2.length + 1 + s1.1 := g4
        rw [if_pos rfl]
        omega
    · rw [if_neg c] at h
      by_cases c2 : wdA T n s.1 = 19
      · rw [if_pos c2] at h
        obtain ⟨s1, h3, h4⟩ := bd_inr h
        obtain ⟨⟨g1, g2, g3, g4⟩, g5⟩ := hF _ _ h3
        obtain ⟨n1, n2, n3⟩ := nx_rng (T := T) hn (wd_lt (T := T) (n := n) (p := s.1) (by omega)).1
        have g5 : nxT T n s.1 < s1.1 := g5
        have g4 : s1.2.2.length + nxT T n s.1 ≤ s.2.2.length + s1.1 := g4
        obtain ⟨k1, k2, k3, k4⟩ := ih wt (s1.1, s1.2.1, s1.2.2 ++ [(12, 0)]) s' (by show n + 1 ≤ s1.1 + f; omega) g2 g3 h4
        have k1 : s1.1 ≤ s'.1 := k1
        have k4 : s'.2.2.length + s1.1 ≤ (s1.2.2 ++ [(12, 0)]).length + (if wt = true then 1 else 0) + s'.1 := k4
        rw [List.length_append] at k4
        have k4 : s'.2.2.length + s1.1 ≤ s1.2.2.length + 1 + (if wt = true then 1 else 0) + s'.1 := k4
        exact ⟨by omega, k2, k3, by omega⟩
      · rw [if_neg c2] at h
        cases h
        refine ⟨Nat.le_refl _, h2, ha, ?_⟩
        show (s.2.2 ++ (if wt = true then [(13, 0)] else [])).length + s.1 ≤ _ + s.1
        rw [List.length_append]
        cases wt
        · exact Nat.le_refl _
        · exact Nat.le_refl _
theorem gTest_rm {T : Nat → Int} {n : Nat} {F : Ps → Pr} (hn : n ≤ 400) (hF : ∀ s s', F s = .inr s' → rmP T n s s' ∧ s.1 < s'.1) {s s' : Ps} (h : gTest T n F s = .inr s') : rmP T n s s' ∧ s.1 < s'.1 := by
  obtain ⟨s1, h3, h4⟩ := bd_inr h
  obtain ⟨⟨g1, g2, g3, g4⟩, g5⟩ := hF _ _ h3
  obtain ⟨k1, k2, k3, k4⟩ := ts_rm hn hF 401 false s1 s' (by omega) g2 g3 h4
  rw [if_neg (by decide)] at k4
  exact ⟨⟨by omega, k2, k3, by omega⟩, by omega⟩
theorem gFact_rm {T : Nat → Int} {n : Nat} (hn : n ≤ 400) : ∀ d (s s' : Ps), gFact T n d s = .inr s' → rmP T n s s' ∧ s.1 < s'.1 := by
  intro d
  induction d with
  | zero =>
    intro s s' h
    unfold gFact at h
    by_cases c : wdA T n s.1 = 20
    · rw [if_pos c] at h; cases h
    · rw [if_neg c] at h
      by_cases c2 : seeF T n s.1 = 91
      · rw [if_pos c2] at h; cases h
      · rw [if_neg c2] at h; exact gCmp_rm hn h
  | succ d ih =>
    intro s s' h
    unfold gFact at h
    by_cases c : wdA T n s.1 = 20
    · rw [if_pos c] at h
      obtain ⟨s1, h3, h4⟩ := bd_inr h
      cases h4
      obtain ⟨⟨g1, g2, g3, g4⟩, g5⟩ := ih _ _ h3
      obtain ⟨n1, n2, n3⟩ := nx_rng (T := T) hn (wd_lt (T := T) (n := n) (p := s.1) (by omega)).1
      have g5 : nxT T n s.1 < s1.1 := g5
      have g4 : s1.2.2.length + nxT T n s.1 ≤ s.2.2.length + s1.1 := g4
      refine ⟨⟨by show s.1 ≤ s1.1; omega, g2, g3, ?_⟩, by show s.1 < s1.1; omega⟩
      show (s1.2.2 ++ [(14, 0)]).length + s.1 ≤ s.2.2.length + s1.1
      rw [List.length_append]
      show s1.2.2.length + 1 + s.1 ≤ _
      omega
    · rw [if_neg c] at h
      by_cases c2 : seeF T n s.1 = 91
      · rw [if_pos c2] at h
        obtain ⟨s1, h3, h4⟩ := bd_inr h
        obtain ⟨⟨g1, g2, g3, g4⟩, g5⟩ := gTest_rm hn ih h3
        obtain ⟨n1, n2, n3⟩ := nx_rng (T := T) hn (see_lt (T := T) (n := n) (p := s.1) (by omega))
        have g5 : nxT T n s.1 < s1.1 := g5
        have g4 : s1.2.2.length + nxT T n s.1 ≤ s.2.2.length + s1.1 := g4
        by_cases c3 : seeF T n s1.1 = 93
        · rw [if_pos c3] at h4
          cases h4
          obtain ⟨m1, m2, m3⟩ := nx_rng (T := T) hn (see_lt (T := T) (n := n) (p := s1.1) (by omega))
          refine ⟨⟨by show s.1 ≤ nxT T n s1.1; omega, m2, m3, ?_⟩, by show s.1 < nxT T n s1.1; omega⟩
          show s1.2.2.length + s.1 ≤ s.2.2.length + nxT T n s1.1
          omega
        · rw [if_neg c3] at h4; cases h4
      · rw [if_neg c2] at h; exact gCmp_rm hn h
/-- what stands open: the number of them, how deep, one by one, the newest first -/
def dpS : List Nat → Nat
  | [] => 0
  | x :: σ => (if x = 11 ∨ x = 91 then 1 else 0) + dpS σ
def sgS (g : Nat → Int) : List Nat → Prop
  | [] => True
  | x :: σ => g σ.length = (x : Nat) ∧ sgS g σ
def sgR (R : Md) (σ : List Nat) : Prop := mS R 16 = (σ.length : Nat) ∧ mS R 13 = (dpS σ : Nat) ∧ sgS (mA R 15) σ
def frX (t : Nat) (R R' : Md) : Prop := (∀ j, (j < 8 ∨ j = 11 ∨ j = 14 ∨ 16 < j) → mS R' j = mS R j) ∧ (∀ j, (j < 3 ∨ (4 < j ∧ j < 15) ∨ 15 < j) → mA R' j = mA R j) ∧ (∀ i, (i < 400 * t ∨ 400 * t + 400 ≤ i) → mA R' 3 i = mA R 3 i) ∧ ∀ i, i ≠ t → mA R' 4 i = mA R 4 i
theorem frX_t {t : Nat} {R R' R'' : Md} (h : frX t R R') (h' : frX t R' R'') : frX t R R'' := ⟨fun j q => (h'.1 j q).trans (h.1 j q), fun j q => (h'.2.1 j q).trans (h.2.1 j q), fun j q => (h'.2.2.1 j q).trans (h.2.2.1 j q), fun j q => (h'.2.2.2 j q).trans (h.2.2.2 j q)⟩
theorem frX_r (t : Nat) (R : Md) : frX t R R := ⟨fun _ _ => rfl, fun _ _ => rfl, fun _ _ => rfl, fun _ _ => rfl⟩
theorem frX_P {t : Nat} {R R' : Md} (h : frP t R R') : frX t R R' := ⟨fun j q => h.1 j (by omega), fun j q => h.2.1 j (by omega), h.2.2.1, h.2.2.2⟩
theorem frX_S {t : Nat} {R : Md} {j : Nat} {v : Int} (h : (7 < j ∧ j < 11) ∨ (11 < j ∧ j < 14) ∨ j = 15 ∨ j = 16) : frX t R (sS R j v) := ⟨fun i q => mS_So (by omega), fun _ _ => rfl, fun _ _ => rfl, fun _ _ => rfl⟩
theorem sgR_P {t : Nat} {R R' : Md} {σ : List Nat} (h : frP t R R') (g : sgR R σ) : sgR R' σ := ⟨by rw [h.1 16 (by omega)]; exact g.1, by rw [h.1 13 (by omega)]; exact g.2.1, by rw [h.2.1 15 (by omega)]; exact g.2.2⟩
theorem sgS_ext {g g' : Nat → Int} : ∀ {σ : List Nat}, (∀ i, i < σ.length → g' i = g i) → sgS g σ → sgS g' σ := by
  intro σ
  induction σ with
  | nil => intro _ _; trivial
  | cons x σ ih =>
    intro h h2
    have hl : (x :: σ).length = σ.length + 1 := rfl
    exact ⟨by rw [h _ (by omega)]; exact h2.1, ih (fun i q => h i (by omega)) h2.2⟩
