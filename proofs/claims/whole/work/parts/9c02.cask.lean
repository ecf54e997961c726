/-! the questions: both sides answer alike -/
theorem frT_reck {R : Md} {O : Of} {d : Dy} {p : Nat} : frT R (reckR R O d p) := ⟨fun j q => by unfold reckR; rw [mS_So (by omega), mS_So (by omega), mS_So (by omega), mS_So (by omega)], fun _ _ => rfl, fun _ _ => rfl⟩
section XS9c02
variable {D a b : Nat} {f : Nat → xk_C} {w : Nat × Nat × Nat} {x y z : Int}
theorem a_paper (hD : 50 ≤ D) (hab : a + 204 ≤ b) (h : REL f a b) (x1 : -2147483648 ≤ x) (x2 : x ≤ 2147483647) (y1 : -2147483648 ≤ y) (y2 : y ≤ 2147483647) : AG D a b 104 199 [.int (xj x), .int (xj y)] f w := by
  obtain ⟨n, nr, T, ru, S, H, im, I, R, hp, hm, hr, hx⟩ := h
  have hk := hr.2.2.2.1
  have hw := hx.2.2.2.1
  have h22 := hr.2.2.2.2.2.2.1
  have h2 := hr.2.1
  have hl := hr.2.2.2.2.1
  refine q_step (v := xj (if 0 ≤ x ∧ x < of_np S.1 then paperAns S.1 S.2.1 x.toNat y else -2)) hab hm hr hx (fun K hK => (p_paper (by omega) hp hw.1 x1 x2 y1 y2).mpr (hK f (fun _ _ => rfl) hp)) (fun g K hK => ?_)
  by_cases c : 0 ≤ x ∧ x < of_np S.1
  · obtain ⟨p, rfl⟩ : ∃ p : Nat, x = p := ⟨x.toNat, by omega⟩
    rw [if_pos c, Int.toNat_natCast] at hK
    have ht := told_np hw.1.1 (show p < of_np S.1 by omega)
    rw [mD_1 ht] at hk hK
    exact (m_paper (by omega) hk (by omega) y1 y2).mpr (hK R (frT_r R) hk)
  · rw [if_neg c] at hK
    exact (m_paper_no (by omega) hk x1 x2 c).mpr (hK R (frT_r R) hk)
theorem a_clerk (hD : 50 ≤ D) (hab : a + 204 ≤ b) (h : REL f a b) (x1 : -2147483648 ≤ x) (x2 : x ≤ 2147483647) (y1 : -2147483648 ≤ y) (y2 : y ≤ 2147483647) : AG D a b 105 200 [.int (xj x), .int (xj y)] f w := by
  obtain ⟨n, nr, T, ru, S, H, im, I, R, hp, hm, hr, hx⟩ := h
  have hk := hr.2.2.2.1
  have hw := hx.2.2.2.1
  have h22 := hr.2.2.2.2.2.2.1
  have h2 := hr.2.1
  have hl := hr.2.2.2.2.1
  refine q_step (v := xj (if (0 ≤ x ∧ x < of_nc S.1) ∧ 0 ≤ y ∧ y ≤ 3 then clerkAns S.1 S.2.1 x.toNat y else -1)) hab hm hr hx (fun K hK => (p_clerk (by omega) hp hw.1 x1 x2 y1 y2).mpr (hK f (fun _ _ => rfl) hp)) (fun g K hK => ?_)
  by_cases c : (0 ≤ x ∧ x < of_nc S.1) ∧ 0 ≤ y ∧ y ≤ 3
  · obtain ⟨p, rfl⟩ : ∃ p : Nat, x = p := ⟨x.toNat, by omega⟩
    rw [if_pos c, Int.toNat_natCast] at hK
    have ht := told_nc hw.1.1 (show p < of_nc S.1 by omega)
    rw [mD_1 ht] at hk hK
    exact (m_clerk (by omega) hk (by omega) c.2.1 c.2.2).mpr (hK R (frT_r R) hk)
  · rw [if_neg c] at hK
    exact (m_clerk_no (by omega) hk x1 x2 y1 y2 c).mpr (hK R (frT_r R) hk)
theorem a_count (hD : 50 ≤ D) (hab : a + 204 ≤ b) (h : REL f a b) (y1 : -2147483648 ≤ y) (y2 : y ≤ 2147483647) : AG D a b 106 250 [.int (xj y)] f w := by
  obtain ⟨n, nr, T, ru, S, H, im, I, R, hp, hm, hr, hx⟩ := h
  have hk := hr.2.2.2.1
  have hw := hx.2.2.2.1
  have h22 := hr.2.2.2.2.2.2.1
  have h2 := hr.2.1
  have hl := hr.2.2.2.2.1
  refine q_step (v := xj (countAns S.1 S.2.1 S.2.2.1.1 nr H.2.1 S.2.2.2 (n : Nat) y)) hab hm hr hx (fun K hK => (p_count (by omega) hp hw.1 hx.2.2.2.2.1.2 y1 y2).mpr (hK f (fun _ _ => rfl) hp)) (fun g K hK => ?_)
  refine (m_count (by omega) hk hl h2 hr.2.2.2.2.2.2.2.1.1 hr.2.2.2.2.2.1 hr.1.1 y1 y2).mpr ?_
  rw [mD_cnt hw.1.1]
  exact hK R (frT_r R) hk
theorem a_when (hD : 50 ≤ D) (hab : a + 204 ≤ b) (h : REL f a b) (x1 : -2147483648 ≤ x) (x2 : x ≤ 2147483647) (y1 : -2147483648 ≤ y) (y2 : y ≤ 2147483647) : AG D a b 115 213 [.int (xj x), .int (xj y)] f w := by
  obtain ⟨n, nr, T, ru, S, H, im, I, R, hp, hm, hr, hx⟩ := h
  have hk := hr.2.2.2.1
  have hw := hx.2.2.2.1
  have h22 := hr.2.2.2.2.2.2.1
  have h2 := hr.2.1
  have hl := hr.2.2.2.2.1
  refine q_step (v := xj (whenF S.1 S.2.1 x y)) hab hm hr hx (fun K hK => p_when (by omega) hp hw x1 x2 y1 y2 hK) (fun g K hK => ?_)
  by_cases ht : of_told S.1 = 1
  · rw [mD_1 ht] at hk hK
    by_cases c : (0 ≤ x ∧ x < of_np S.1) ∧ S.2.1.2.2.2.2.1.testBit x.toNat = false ∧ 0 ≤ y ∧ y ≤ 2
    · obtain ⟨p, rfl⟩ : ∃ p : Nat, x = p := ⟨x.toNat, by omega⟩
      rw [Int.toNat_natCast] at c
      exact (m_when (by omega) hk (by omega) c.2.1 c.2.2.1 c.2.2.2 h22).mpr (hK _ frT_reck (rK_reck hk))
    · exact (m_when_no (by omega) hk x1 x2 y1 y2 c).mpr (hK R (frT_r R) hk)
  · have h0 : of_np S.1 = 0 := by rcases hw.1.1.1 with q | q <;> omega
    have e1 : ∀ d, whenF S.1 d x y = -3 := fun d => by unfold whenF; rw [if_neg (fun q => by omega)]
    rw [e1] at hK
    refine (m_when_no (by omega) hk x1 x2 y1 y2 (fun q => by omega)).mpr ?_
    rw [e1]
    exact hK R (frT_r R) hk
theorem a_by (hD : 50 ≤ D) (hab : a + 204 ≤ b) (h : REL f a b) (x1 : -2147483648 ≤ x) (x2 : x ≤ 2147483647) (y1 : -2147483648 ≤ y) (y2 : y ≤ 2147483647) : AG D a b 116 220 [.int (xj x), .int (xj y)] f w := by
  obtain ⟨n, nr, T, ru, S, H, im, I, R, hp, hm, hr, hx⟩ := h
  have hk := hr.2.2.2.1
  have hw := hx.2.2.2.1
  have h22 := hr.2.2.2.2.2.2.1
  have h2 := hr.2.1
  have hl := hr.2.2.2.2.1
  refine q_step (v := xj (byZ S.1 S.2.1 nr ru x y)) hab hm hr hx (fun K hK => p_by (by omega) hp hw.1 hx.2.1 hx.2.2.1 x1 x2 y1 y2 hK) (fun g K hK => ?_)
  unfold byZ at hK
  by_cases c : of_told S.1 = 1 ∧ (0 ≤ x ∧ x < nr) ∧ 0 ≤ y ∧ y ≤ 8
  · obtain ⟨p, rfl⟩ : ∃ p : Nat, x = p := ⟨x.toNat, by omega⟩
    rw [if_pos c, Int.toNat_natCast] at hK
    rw [mD_1 c.1] at hk hK
    exact u_by (by omega) hk h22 h2 hx.2.1 c.1 (by omega) (hr.2.2.1 p (by omega)) c.2.2.1 c.2.2.2 hK
  · rw [if_neg c] at hK
    exact (m_by_no (by omega) hk h2 hx.2.1 x1 x2 y1 y2 c).mpr (hK R (frT_r R) hk)
theorem a_waits (hD : 50 ≤ D) (hab : a + 204 ≤ b) (h : REL f a b) (x1 : -2147483648 ≤ x) (x2 : x ≤ 2147483647) (y1 : -2147483648 ≤ y) (y2 : y ≤ 2147483647) : AG D a b 117 221 [.int (xj x), .int (xj y)] f w := by
  obtain ⟨n, nr, T, ru, S, H, im, I, R, hp, hm, hr, hx⟩ := h
  have hk := hr.2.2.2.1
  have hw := hx.2.2.2.1
  have h22 := hr.2.2.2.2.2.2.1
  have h2 := hr.2.1
  have hl := hr.2.2.2.2.1
  refine q_step (v := xj (waZ S.1 S.2.1 nr ru x y)) hab hm hr hx (fun K hK => p_waits (by omega) hp hw.1 hx.2.1 hx.2.2.1 x1 x2 y1 y2 hK) (fun g K hK => ?_)
  unfold waZ at hK
  by_cases c : (0 ≤ x ∧ x < of_nc S.1) ∧ 0 ≤ y ∧ y < nr
  · obtain ⟨p, rfl⟩ : ∃ p : Nat, x = p := ⟨x.toNat, by omega⟩
    obtain ⟨t, rfl⟩ : ∃ t : Nat, y = t := ⟨y.toNat, by omega⟩
    rw [if_pos c, Int.toNat_natCast] at hK
    have ht := told_nc hw.1.1 (show p < of_nc S.1 by omega)
    rw [mD_1 ht] at hk hK
    exact u_waits (by omega) hk h22 h2 hx.2.1 (by omega) (by omega) (hr.2.2.1 t (by omega)) hK
  · rw [if_neg c] at hK
    exact (m_waits_no (by omega) hk h2 hx.2.1 x1 x2 y1 y2 c).mpr (hK R (frT_r R) hk)
theorem a_plan (hD : 50 ≤ D) (hab : a + 204 ≤ b) (h : REL f a b) (y1 : -2147483648 ≤ y) (y2 : y ≤ 2147483647) : AG D a b 120 228 [.int (xj y)] f w := by
  obtain ⟨n, nr, T, ru, S, H, im, I, R, hp, hm, hr, hx⟩ := h
  have hk := hr.2.2.2.1
  have hw := hx.2.2.2.1
  have h22 := hr.2.2.2.2.2.2.1
  have h2 := hr.2.1
  have hl := hr.2.2.2.2.1
  refine q_step (v := xj (planZ S.1 S.2.1 y)) hab hm hr hx (fun K hK => p_plan (by omega) hp hw y1 y2 hK) (fun g K hK => ?_)
  unfold planZ at hK
  by_cases c : of_told S.1 = 1 ∧ 0 ≤ y ∧ y ≤ 8
  · rw [if_pos c] at hK
    rw [mD_1 c.1] at hk hK
    exact u_plan (by omega) hk h22 c.1 c.2.1 c.2.2 hK
  · rw [if_neg c] at hK
    exact (m_plan_no (by omega) hk y1 y2 c).mpr (hK R (frT_r R) hk)
theorem a_rings (hD : 50 ≤ D) (hab : a + 204 ≤ b) (h : REL f a b) : AG D a b 121 234 [] f w := by
  obtain ⟨n, nr, T, ru, S, H, im, I, R, hp, hm, hr, hx⟩ := h
  have hk := hr.2.2.2.1
  have hw := hx.2.2.2.1
  have h22 := hr.2.2.2.2.2.2.1
  have h2 := hr.2.1
  have hl := hr.2.2.2.2.1
  refine q_step (v := xj (ringZ S.1)) hab hm hr hx (fun K hK => (p_rings (by omega) hp hw).mpr (hK f (fun _ _ => rfl) hp)) (fun g K hK => ?_)
  unfold ringZ at hK
  by_cases c : of_told S.1 = 1
  · rw [if_pos c, ← rings_eq hw.1.1] at hK
    rw [mD_1 c] at hk hK
    exact (m_rings (by omega) hk c).mpr (hK _ rgR_T (rgR_K hk))
  · rw [if_neg c] at hK
    exact (m_rings_no (by omega) hk c).mpr (hK R (frT_r R) hk)
theorem a_blanks (hD : 50 ≤ D) (hab : a + 204 ≤ b) (h : REL f a b) (y1 : -2147483648 ≤ y) (y2 : y ≤ 2147483647) : AG D a b 122 235 [.int (xj y)] f w := by
  obtain ⟨n, nr, T, ru, S, H, im, I, R, hp, hm, hr, hx⟩ := h
  have hk := hr.2.2.2.1
  have hw := hx.2.2.2.1
  have h22 := hr.2.2.2.2.2.2.1
  have h2 := hr.2.1
  have hl := hr.2.2.2.2.1
  refine q_step (v := xj (blZ S.1 S.2.1 y)) hab hm hr hx (fun K hK => (p_blanks (by omega) hp hw y1 y2).mpr (hK f (fun _ _ => rfl) hp)) (fun g K hK => ?_)
  unfold blZ at hK
  by_cases c : of_told S.1 = 1 ∧ 0 ≤ y ∧ y ≤ 1
  · rw [if_pos c] at hK
    rw [mD_1 c.1] at hk hK
    exact u_blanks (by omega) hk c.1 c.2.1 c.2.2 hK
  · rw [if_neg c] at hK
    exact (m_blanks_no (by omega) hk y1 y2 c).mpr (hK R (frT_r R) hk)
theorem a_second (hD : 50 ≤ D) (hab : a + 204 ≤ b) (h : REL f a b) (y1 : -2147483648 ≤ y) (y2 : y ≤ 2147483647) : AG D a b 124 231 [.int (xj y)] f w := by
  obtain ⟨n, nr, T, ru, S, H, im, I, R, hp, hm, hr, hx⟩ := h
  have hk := hr.2.2.2.1
  have hw := hx.2.2.2.1
  have h22 := hr.2.2.2.2.2.2.1
  have h2 := hr.2.1
  have hl := hr.2.2.2.2.1
  refine q_step (v := xj (secZ S.1 S.2.1 y)) hab hm hr hx (fun K hK => p_second (by omega) hp hw y1 y2 hK) (fun g K hK => ?_)
  unfold secZ at hK
  by_cases c : 0 ≤ y ∧ y < of_nc S.1
  · rw [if_pos c] at hK
    have ht := told_nc hw.1.1 (show y.toNat < of_nc S.1 by omega)
    rw [mD_1 ht] at hk hK
    exact u_second (by omega) hk h22 c.1 c.2 hK
  · rw [if_neg c] at hK
    exact (m_second_no (by omega) hk y1 y2 c).mpr (hK R (frT_r R) hk)
theorem a_keep (hD : 50 ≤ D) (hab : a + 204 ≤ b) (h : REL f a b) (y1 : -2147483648 ≤ y) (y2 : y ≤ 2147483647) : AG D a b 125 229 [.int (xj y)] f w := by
  obtain ⟨n, nr, T, ru, S, H, im, I, R, hp, hm, hr, hx⟩ := h
  have hk := hr.2.2.2.1
  have hw := hx.2.2.2.1
  have h22 := hr.2.2.2.2.2.2.1
  have h2 := hr.2.1
  have hl := hr.2.2.2.2.1
  refine q_step (v := xj (keepZ S.1 S.2.1 y)) hab hm hr hx (fun K hK => p_keep (by omega) hp hw y1 y2 hK) (fun g K hK => ?_)
  unfold keepZ at hK
  by_cases c : of_told S.1 = 1 ∧ 0 ≤ y ∧ y ≤ 1
  · rw [if_pos c] at hK
    rw [mD_1 c.1] at hk hK
    exact u_keep (by omega) hk h22 c.1 c.2.1 c.2.2 hK
  · rw [if_neg c] at hK
    exact (m_keep_no (by omega) hk y1 y2 c).mpr (hK R (frT_r R) hk)
theorem a_late (hD : 50 ≤ D) (hab : a + 204 ≤ b) (h : REL f a b) : AG D a b 126 230 [] f w := by
  obtain ⟨n, nr, T, ru, S, H, im, I, R, hp, hm, hr, hx⟩ := h
  have hk := hr.2.2.2.1
  have hw := hx.2.2.2.1
  have h22 := hr.2.2.2.2.2.2.1
  have h2 := hr.2.1
  have hl := hr.2.2.2.2.1
  refine q_step (v := xj (lateZ S.1 S.2.1)) hab hm hr hx (fun K hK => p_late (by omega) hp hw hK) (fun g K hK => ?_)
  unfold lateZ at hK
  by_cases c : of_told S.1 = 1
  · rw [if_pos c, ← cl_late hw.1.1] at hK
    rw [mD_1 c] at hk hK
    exact u_late (by omega) hk h22 c hK
  · rw [if_neg c] at hK
    exact (m_late_no (by omega) hk c).mpr (hK R (frT_r R) hk)
theorem a_orders (hD : 50 ≤ D) (hab : a + 204 ≤ b) (h : REL f a b) (y1 : -2147483648 ≤ y) (y2 : y ≤ 2147483647) : AG D a b 128 243 [.int (xj y)] f w := by
  obtain ⟨n, nr, T, ru, S, H, im, I, R, hp, hm, hr, hx⟩ := h
  have hk := hr.2.2.2.1
  have hw := hx.2.2.2.1
  have h22 := hr.2.2.2.2.2.2.1
  have h2 := hr.2.1
  have hl := hr.2.2.2.2.1
  refine q_step (v := xj (ordZ S.1 S.2.2.1 y)) hab hm hr hx (fun K hK => p_orders (by omega) hp hw y1 y2 hK) (fun g K hK => ?_)
  unfold ordZ at hK
  by_cases c : of_told S.1 = 1 ∧ 0 ≤ y ∧ y ≤ 12
  · rw [if_pos c] at hK
    rw [mD_1 c.1] at hk hK
    exact u_orders (by omega) hk hl hw.1.2.2.2.2.1 hw.2.2 c.1 c.2.1 c.2.2 hK
  · rw [if_neg c] at hK
    exact (m_orders_no (by omega) hk y1 y2 c).mpr (hK R (frT_r R) hk)
theorem a_look (hD : 50 ≤ D) (hab : a + 204 ≤ b) (h : REL f a b) (y1 : -2147483648 ≤ y) (y2 : y ≤ 2147483647) : AG D a b 129 245 [.int (xj y)] f w := by
  obtain ⟨n, nr, T, ru, S, H, im, I, R, hp, hm, hr, hx⟩ := h
  have hk := hr.2.2.2.1
  have hw := hx.2.2.2.1
  have h22 := hr.2.2.2.2.2.2.1
  have h2 := hr.2.1
  have hl := hr.2.2.2.2.1
  refine q_step (v := xj (lookZ S.1 S.2.2.1 y)) hab hm hr hx (fun K hK => p_look (by omega) hp hw y1 y2 hK) (fun g K hK => ?_)
  unfold lookZ at hK
  by_cases c : of_told S.1 = 1 ∧ 0 ≤ y ∧ y ≤ 1
  · rw [if_pos c] at hK
    rw [mD_1 c.1] at hk hK
    exact u_look (by omega) hk hl hw.1.2.2.2.2.1 hw.2.2 c.1 c.2.1 c.2.2 hK
  · rw [if_neg c] at hK
    exact (m_look_no (by omega) hk y1 y2 c).mpr (hK R (frT_r R) hk)
theorem a_days (hD : 50 ≤ D) (hab : a + 204 ≤ b) (h : REL f a b) (x1 : -2147483648 ≤ x) (x2 : x ≤ 2147483647) (y1 : -2147483648 ≤ y) (y2 : y ≤ 2147483647) : AG D a b 131 249 [.int (xj x), .int (xj y)] f w := by
  obtain ⟨n, nr, T, ru, S, H, im, I, R, hp, hm, hr, hx⟩ := h
  have hk := hr.2.2.2.1
  have hw := hx.2.2.2.1
  have h22 := hr.2.2.2.2.2.2.1
  have h2 := hr.2.1
  have hl := hr.2.2.2.2.1
  refine q_step (v := xj (dayZ S.1 S.2.1 S.2.2.2 x y)) hab hm hr hx (fun K hK => p_days (by omega) hp hw x1 x2 y1 y2 hK) (fun g K hK => ?_)
  unfold dayZ at hK
  have hs := hw.1.2.2.2.2.2.2
  by_cases c : of_told S.1 = 1 ∧ (1 ≤ x ∧ x ≤ 20) ∧ 0 ≤ y ∧ y ≤ 1
  · obtain ⟨p, rfl⟩ : ∃ p : Nat, x = p := ⟨x.toNat, by omega⟩
    rw [if_pos c, Int.toNat_natCast] at hK
    rw [mD_1 c.1] at hk hK
    exact u_days (by omega) hk h22 hr.2.2.2.2.2.1 hs.1 hs.2 c.1 (by omega) (by omega) c.2.2.1 c.2.2.2 hK
  · rw [if_neg c] at hK
    exact (m_days_no (by omega) hk x1 x2 y1 y2 c).mpr (hK R (frT_r R) hk)
end XS9c02
