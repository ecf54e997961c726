/-! the day copied and opened; what is known of it stays known -/
def xz_Day (d : Dy) : Prop := ∀ i, 6 ≤ i → d.2.2.2.2.2.2.2 i = 0
def openD (O : Of) : Dy := (0, (if 0 < of_nc O then 0 else -1), of_ink O, of_nib O, 0, 0, 0, mixI 6 (fun _ => -1) (fun _ => 0))
theorem xz_0 {n : Nat} {E : Nat → Int} (h : ∀ i, n ≤ i → E i = 0) (g : Nat → Int) : mixI n g E = mixI n g (fun _ => 0) := by
  funext i
  unfold mixI
  by_cases e : i < n
  · rw [if_pos e, if_pos e]
  · rw [if_neg e, if_neg e, h i (by omega)]
section XS29
variable {D a b o k p q : Nat} {f g : Nat → xk_C} {w : Nat × Nat × Nat} {K : Option Value → xk_S → Prop} {O : Of} {d d2 : Dy} {c m n z y : Int}
theorem s_day_copy (hD : 2 ≤ D) (h : xv_Day f a d) (h2 : xv_Day f b d2) (hz : xz_Day d) (hz2 : xz_Day d2) (hab : a + 1 < b ∨ b + 1 < a) : xk_Cl D 1 [.ref a, .ref b] (f, w) K ↔ K none (xs_Day f a d2, w) := by
  rw [e1 (by omega)]
  have hb : ∀ d', xv_Day (xs_Day f a d') b d2 := fun d' => ⟨by rw [xs_Day_ne (by omega) (by omega)]; exact h2.1, by rw [xs_Day_ne (by omega) (by omega)]; exact h2.2⟩
  have e0 := xs_Day_id h
  rw [← e0]
  have gg : ∀ (d' : Dy) (k : Nat) (V : Value → Prop), xk_GF (xs_Day f a d') b 0 k V ↔ xk_GF (xs_Day f b d2) b 0 k V := fun d' k V => by unfold xk_GF; rw [xs_Day_ne (by omega) (by omega), xs_Day_id h2]
  simp (disch := omega) only [b1_0, b1_1, b1_2, b1_5, b1_8, b1_9, b1_10, b1_13, b1_16, b1_17, b1_18, b1_21, b1_24, b1_25, b1_26, b1_29, b1_32, b1_33, b1_34, b1_37, b1_40, b1_41, b1_42, b1_45, b1_48, b1_49, b1_50, b1_53, b1_56, b1_57, b1_60, b1_61, b1_67, ↓gd_0, ↓gd_1, ↓gd_2, ↓gd_3, ↓gd_4, ↓gd_5, ↓gd_6, ↓gd_7, ↓pd_0, ↓pd_1, ↓pd_2, ↓pd_3, ↓pd_4, ↓pd_5, ↓pd_6, ↓ad_s, ↓ad_l, cd_0, xs_Day_2, List.getElem?_cons_zero, List.getElem?_cons_succ, List.length_cons, List.length_nil, List.set_cons_zero, List.set_cons_succ, true_and, and_true, Option.toList_some, Option.toList_none, List.cons_append, List.nil_append, ↓reduceIte, Nat.reduceAdd, xj0_01, xj1_01, xb_B, xb_True, xb_False, ↓gg]
  rw [b1_64, s_copyRow (by omega) (hb _).2 (xs_Day_1 f a _) (by omega) (by decide), mixI_z hz2 hz, xs_Day_arr]
  simp only [List.getElem?_cons_zero, List.getElem?_cons_succ, List.length_cons, List.length_nil, List.set_cons_zero, List.set_cons_succ, true_and, and_true, Option.toList_some, Option.toList_none, List.cons_append, List.nil_append, ↓reduceIte, Nat.reduceAdd, xj0_01, xj1_01, xb_B, xb_True, xb_False, b1_0, b1_1, b1_2, b1_5, b1_8, b1_9, b1_10, b1_13, b1_16, b1_17, b1_18, b1_21, b1_24, b1_25, b1_26, b1_29, b1_32, b1_33, b1_34, b1_37, b1_40, b1_41, b1_42, b1_45, b1_48, b1_49, b1_50, b1_53, b1_56, b1_57, b1_60, b1_61, b1_67]
theorem s_day_open (hD : 2 ≤ D) (ho : xv_Off f o O) (hw : xw_Off O) (h : xv_Day f a d) (hz : xz_Day d) (hoa : o + 9 < a ∨ a + 1 < o) : xk_Cl D 2 [.ref a, .ref o] (f, w) K ↔ K none (xs_Day f a (openD O), w) := by
  rw [e2 (by omega)]
  have hnc := hw.2.1
  have e0 := xs_Day_id h
  rw [← e0]
  have hoq : ∀ d', xv_Off (xs_Day f a d') o O := fun d' => xv_Off_day ho hoa
  have hvq : ∀ d', xv_Day (xs_Day f a d') a d' := fun d' => xs_Day_v f a d'
  have p4 : ∀ (d' : Dy) (G : (Nat → xk_C) → Prop), xk_PF (xs_Day f a d') a 0 4 (.int (xj 0)) G ↔ _ := fun d' G => pd_4 (k := 0)
  have p5 : ∀ (d' : Dy) (G : (Nat → xk_C) → Prop), xk_PF (xs_Day f a d') a 0 5 (.int (xj 0)) G ↔ _ := fun d' G => pd_5 (k := 0)
  have p6 : ∀ (d' : Dy) (G : (Nat → xk_C) → Prop), xk_PF (xs_Day f a d') a 0 6 (.int (xj 0)) G ↔ _ := fun d' G => pd_6 (k := 0)
  simp (disch := omega) only [b2_0, b2_1, b2_2, b2_5, b2_6, b2_7, b2_10, b2_11, b2_12, b2_15, b2_16, b2_17, b2_20, b2_21, b2_22, b2_23, ↓pd_0, ↓p4, ↓p5, ↓p6, List.getElem?_cons_zero, List.getElem?_cons_succ, List.length_cons, List.length_nil, List.set_cons_zero, List.set_cons_succ, true_and, and_true, Option.toList_some, Option.toList_none, List.cons_append, List.nil_append, ↓reduceIte, Nat.reduceAdd, xj0_01, xj1_01, xb_B, xb_True, xb_False, ↓go_0 (hoq _), ↓go_1 (hoq _), ↓go_2 (hoq _), ↓go_3 (hoq _), ↓go_4 (hoq _), ↓go_5 (hoq _), ↓go_6 (hoq _), ↓go_7 (hoq _), ↓go_8 (hoq _), ↓go_9 (hoq _), ↓go_10 (hoq _), ↓go_11 (hoq _), ↓go_12 (hoq _), ↓go_13 (hoq _), ↓go_14 (hoq _), ↓go_15 (hoq _), ↓ao_1 (hoq _), ↓ao_2 (hoq _), ↓ao_3 (hoq _), ↓ao_4 (hoq _), ↓ao_5 (hoq _), ↓ao_6 (hoq _), ↓ao_7 (hoq _), ↓ao_8 (hoq _), ↓ao_9 (hoq _)]
  have fin : ∀ (v : Int) (d' : Dy), v = (if 0 < of_nc O then 0 else -1) → d' = (0, d.2.1, d.2.2.1, d.2.2.2.1, 0, 0, 0, d.2.2.2.2.2.2.2) → (xk_B (D - 1) 2 34 [.ref a, .ref o] [.int (xj v), .ref o, .ref a] (xs_Day f a d', w) K ↔ K none (xs_Day f a (openD O), w)) := by
    intro v d' hv hd'
    subst hd'
    rw [b2_34, s_takeNewPen (by omega) (hoq _) (hvq _) hoa, xs_Day_2]
    simp (disch := omega) only [b2_37, b2_38, b2_41, ↓gd_0, ↓gd_1, ↓gd_2, ↓gd_3, ↓gd_4, ↓gd_5, ↓gd_6, ↓gd_7, ↓pd_0, ↓pd_1, ↓pd_2, ↓pd_3, ↓pd_4, ↓pd_5, ↓pd_6, ↓ad_s, ↓ad_l, cd_0, xs_Day_2, List.getElem?_cons_zero, List.getElem?_cons_succ, List.length_cons, List.length_nil, List.set_cons_zero, List.set_cons_succ, true_and, and_true, Option.toList_some, Option.toList_none, List.cons_append, List.nil_append, ↓reduceIte, Nat.reduceAdd, xj0_01, xj1_01, xb_B, xb_True, xb_False]
    rw [b2_42, s_fillRow (by omega) (xs_Day_1 f a _) (by decide), xs_Day_arr, xz_0 hz, hv]
    simp only [b2_45, List.getElem?_cons_zero, List.getElem?_cons_succ, List.length_cons, List.length_nil, List.set_cons_zero, List.set_cons_succ, true_and, and_true, Option.toList_some, Option.toList_none, List.cons_append, List.nil_append, ↓reduceIte, Nat.reduceAdd, xj0_01, xj1_01, xb_B, xb_True, xb_False]
    rfl
  by_cases c : 0 < of_nc O
  · have f1 := fin 0 _ (if_pos c).symm rfl
    rw [xs_Day_2, ← f1]
    simp (disch := omega) only [b2_26, b2_29, b2_30, b2_33, ↓xj_in, xj_nat, Int.toNat_natCast, xj_lt_t, xj_lt_f, xj_le_t, xj_le_f, xj_eq_t, xj_eq_f, xj_lt, xj_le, xj_eq, xj_add, xj_sub, xj_mul, show ¬ xj 1 = xj 0 from by decide, List.getElem?_cons_zero, List.getElem?_cons_succ, List.length_cons, List.length_nil, List.set_cons_zero, List.set_cons_succ, true_and, and_true, Option.toList_some, Option.toList_none, List.cons_append, List.nil_append, ↓reduceIte, Nat.reduceAdd, xj0_01, xj1_01, xb_B, xb_True, xb_False]
  · have f1 := fin (-1) _ (if_neg c).symm rfl
    rw [xs_Day_2, ← f1]
    simp (disch := omega) only [b2_26, b2_29, b2_30, b2_33, ↓xj_in, xj_nat, Int.toNat_natCast, xj_lt_t, xj_lt_f, xj_le_t, xj_le_f, xj_eq_t, xj_eq_f, xj_lt, xj_le, xj_eq, xj_add, xj_sub, xj_mul, show ¬ xj 1 = xj 0 from by decide, List.getElem?_cons_zero, List.getElem?_cons_succ, List.length_cons, List.length_nil, List.set_cons_zero, List.set_cons_succ, true_and, and_true, Option.toList_some, Option.toList_none, List.cons_append, List.nil_append, ↓reduceIte, Nat.reduceAdd, xj0_01, xj1_01, xb_B, xb_True, xb_False]
theorem xz_openD : xz_Day (openD O) := fun i hi => by
  unfold openD mixI
  simp only []
  rw [if_neg (by omega)]
theorem xw_openD (hw : xw_Off O) : xw_Day O (openD O) := by
  have hm := hw.sm
  have hp := Nat.two_pow_pos (of_np O)
  refine ⟨Int.le_refl 0, (by decide : (0 : Int) ≤ 9999), ?_, ?_, hm.1, hm.2.1, hm.2.2.1, hm.2.2.2.1, hp, hp, hp, fun p h => ?_⟩
  · show -1 ≤ (if 0 < of_nc O then (0 : Int) else -1); split <;> omega
  · show (if 0 < of_nc O then (0 : Int) else -1) ≤ 3; split <;> omega
  · have hn := hw.2.2.2.1
    show -1 ≤ mixI 6 (fun _ => -1) (fun _ => 0) p ∧ mixI 6 (fun _ => -1) (fun _ => 0) p ≤ 9999
    unfold mixI
    rw [if_pos (by omega)]
    show (-1 : Int) ≤ -1 ∧ (-1 : Int) ≤ 9999
    decide
theorem xz_writeD (hz : xz_Day d) (hp : p < 6) : xz_Day (writeD O d p q) := fun i hi => by
  show upI _ p _ i = 0
  unfold upI
  rw [if_neg (by omega)]
  exact hz i hi
theorem xw_writeD (hw : xw_Off O) (hd : xw_Day O d) (hc : canF O d p = true) : xw_Day O (writeD O d p q) := by
  have hn := hw.2.2.2.1
  have hnc := hw.2.1
  have hc2 := hc
  unfold canF at hc2
  have hc3 := of_decide_eq_true hc2
  rw [Int.toNat_natCast] at hc3
  have hp : p < of_np O := by omega
  have hs := hw.2.2.2.2.2.2 p hp
  have hb := beginF_rng hw hd hp
  have hm := hw.sm
  have he1 : 0 ≤ endF O d p := by unfold endF; omega
  have he2 : endF O d p ≤ 9999 := by unfold endF; omega
  have hpp : 2 ^ p < 2 ^ of_np O := Nat.pow_lt_pow_right (by decide) hp
  obtain ⟨g1, g2, g3, g4, g5, g6, g7, g8, g9, g10, g11, g12⟩ := hd
  refine ⟨he1, he2, ?_, ?_, ?_, ?_, ?_, ?_, Nat.or_lt_two_pow g9 hpp, ?_, g11, fun i hi => ?_⟩
  · show -1 ≤ of_ow O p; omega
  · show of_ow O p ≤ 3; omega
  · show 0 ≤ inkF O d p
    unfold inkF fillF
    by_cases c : d.2.2.1 < of_sk O p
    · rw [if_pos c, if_neg (by rcases hw.1 with h | h <;> omega)]
      have h1 : 1 ≤ of_ink O := by rcases hw.1 with h | h <;> omega
      have := Int.mul_ediv_add_emod (of_sk O p + of_ink O - 1) (of_ink O)
      have h2 := Int.emod_lt_of_pos (of_sk O p + of_ink O - 1) (show 0 < of_ink O by omega)
      rw [Int.mul_comm] at this
      omega
    · rw [if_neg c]; omega
  · show inkF O d p ≤ 99
    unfold inkF fillF
    by_cases c : d.2.2.1 < of_sk O p
    · rw [if_pos c, if_neg (by rcases hw.1 with h | h <;> omega)]
      have h1 : 1 ≤ of_ink O := by rcases hw.1 with h | h <;> omega
      have := Int.mul_ediv_add_emod (of_sk O p + of_ink O - 1) (of_ink O)
      have h2 := Int.emod_nonneg (of_sk O p + of_ink O - 1) (show of_ink O ≠ 0 by omega)
      rw [Int.mul_comm] at this
      omega
    · rw [if_neg c]; omega
  · show 0 ≤ (if nibF O d p < 0 then 0 else nibF O d p); split <;> omega
  · show (if nibF O d p < 0 then 0 else nibF O d p) ≤ 200
    have : nibF O d p ≤ 200 := by unfold nibF; split <;> omega
    split <;> omega
  · show (if nibF O d p < 0 ∨ noRF O d p q = true then d.2.2.2.2.2.1 ||| 2 ^ p else d.2.2.2.2.2.1) < _
    split
    · exact Nat.or_lt_two_pow g10 hpp
    · exact g10
  · show -1 ≤ upI d.2.2.2.2.2.2.2 p (endF O d p) i ∧ upI d.2.2.2.2.2.2.2 p (endF O d p) i ≤ 9999
    unfold upI
    by_cases c : i = p
    · rw [if_pos c]; omega
    · rw [if_neg c]; exact g12 i hi
end XS29
