/-! the day's signing, opening, copying -/
theorem pf_Day {f : Nat → xk_C} {a k : Nat} {d : Dy} {v : Value} {g : (Nat → xk_C) → Prop} (hk : k < 8) : xk_PF (xs_Day f a d) a 0 k v g ↔ g (va_up (xs_Day f a d) a (.inr (0, [Value.int (xj d.1), .int (xj d.2.1), .int (xj d.2.2.1), .int (xj d.2.2.2.1), .int (xj d.2.2.2.2.1), .int (xj d.2.2.2.2.2.1), .int (xj d.2.2.2.2.2.2.1), .ref (a + 1)].set k v))) := by
  unfold xk_PF
  rw [xs_Day_0]
  show (0 = 0 ∧ k < 8 ∧ _) ↔ _
  exact ⟨fun q => q.2.2, fun q => ⟨rfl, hk, q⟩⟩
section XS27
variable {D a o k p q : Nat} {f g : Nat → xk_C} {w : Nat × Nat × Nat} {K : Option Value → xk_S → Prop} {O : Of} {d : Dy} {c m n z : Int} {G : (Nat → xk_C) → Prop} {V : Value → Prop} {x : Int32}
theorem pd_0 : xk_PF (xs_Day f a d) a 0 0 (.int (xj z)) G ↔ G (xs_Day f a (z, d.2)) :=
  (pf_Day (by decide)).trans (iff_of_eq (congrArg G (xs_Day_put f a d (z, d.2) rfl)))
theorem pd_1 : xk_PF (xs_Day f a d) a 0 1 (.int (xj z)) G ↔ G (xs_Day f a (d.1, z, d.2.2)) :=
  (pf_Day (by decide)).trans (iff_of_eq (congrArg G (xs_Day_put f a d (d.1, z, d.2.2) rfl)))
theorem pd_2 : xk_PF (xs_Day f a d) a 0 2 (.int (xj z)) G ↔ G (xs_Day f a (d.1, d.2.1, z, d.2.2.2)) :=
  (pf_Day (by decide)).trans (iff_of_eq (congrArg G (xs_Day_put f a d (d.1, d.2.1, z, d.2.2.2) rfl)))
theorem pd_3 : xk_PF (xs_Day f a d) a 0 3 (.int (xj z)) G ↔ G (xs_Day f a (d.1, d.2.1, d.2.2.1, z, d.2.2.2.2)) :=
  (pf_Day (by decide)).trans (iff_of_eq (congrArg G (xs_Day_put f a d (d.1, d.2.1, d.2.2.1, z, d.2.2.2.2) rfl)))
theorem pd_4 : xk_PF (xs_Day f a d) a 0 4 (.int (xj (k : Nat))) G ↔ G (xs_Day f a (d.1, d.2.1, d.2.2.1, d.2.2.2.1, k, d.2.2.2.2.2)) :=
  (pf_Day (by decide)).trans (iff_of_eq (congrArg G (xs_Day_put f a d (d.1, d.2.1, d.2.2.1, d.2.2.2.1, k, d.2.2.2.2.2) rfl)))
theorem pd_5 : xk_PF (xs_Day f a d) a 0 5 (.int (xj (k : Nat))) G ↔ G (xs_Day f a (d.1, d.2.1, d.2.2.1, d.2.2.2.1, d.2.2.2.2.1, k, d.2.2.2.2.2.2)) :=
  (pf_Day (by decide)).trans (iff_of_eq (congrArg G (xs_Day_put f a d (d.1, d.2.1, d.2.2.1, d.2.2.2.1, d.2.2.2.2.1, k, d.2.2.2.2.2.2) rfl)))
theorem pd_6 : xk_PF (xs_Day f a d) a 0 6 (.int (xj (k : Nat))) G ↔ G (xs_Day f a (d.1, d.2.1, d.2.2.1, d.2.2.2.1, d.2.2.2.2.1, d.2.2.2.2.2.1, k, d.2.2.2.2.2.2.2)) :=
  (pf_Day (by decide)).trans (iff_of_eq (congrArg G (xs_Day_put f a d (d.1, d.2.1, d.2.2.1, d.2.2.2.1, d.2.2.2.2.1, d.2.2.2.2.2.1, k, d.2.2.2.2.2.2.2) rfl)))
theorem gd_0 : xk_GF (xs_Day f a d) a 0 0 V ↔ V (.int (xj d.1)) := by unfold xk_GF; rw [xs_Day_0]; exact ⟨fun q => q.2, fun q => ⟨rfl, q⟩⟩
theorem gd_1 : xk_GF (xs_Day f a d) a 0 1 V ↔ V (.int (xj d.2.1)) := by unfold xk_GF; rw [xs_Day_0]; exact ⟨fun q => q.2, fun q => ⟨rfl, q⟩⟩
theorem gd_2 : xk_GF (xs_Day f a d) a 0 2 V ↔ V (.int (xj d.2.2.1)) := by unfold xk_GF; rw [xs_Day_0]; exact ⟨fun q => q.2, fun q => ⟨rfl, q⟩⟩
theorem gd_3 : xk_GF (xs_Day f a d) a 0 3 V ↔ V (.int (xj d.2.2.2.1)) := by unfold xk_GF; rw [xs_Day_0]; exact ⟨fun q => q.2, fun q => ⟨rfl, q⟩⟩
theorem gd_4 : xk_GF (xs_Day f a d) a 0 4 V ↔ V (.int (xj d.2.2.2.2.1)) := by unfold xk_GF; rw [xs_Day_0]; exact ⟨fun q => q.2, fun q => ⟨rfl, q⟩⟩
theorem gd_5 : xk_GF (xs_Day f a d) a 0 5 V ↔ V (.int (xj d.2.2.2.2.2.1)) := by unfold xk_GF; rw [xs_Day_0]; exact ⟨fun q => q.2, fun q => ⟨rfl, q⟩⟩
theorem gd_6 : xk_GF (xs_Day f a d) a 0 6 V ↔ V (.int (xj d.2.2.2.2.2.2.1)) := by unfold xk_GF; rw [xs_Day_0]; exact ⟨fun q => q.2, fun q => ⟨rfl, q⟩⟩
theorem gd_7 : xk_GF (xs_Day f a d) a 0 7 V ↔ V (.ref (a + 1)) := by unfold xk_GF; rw [xs_Day_0]; exact ⟨fun q => q.2, fun q => ⟨rfl, q⟩⟩
theorem cd_0 : xk_RC (xs_Day f a d) a 0 ↔ True := by unfold xk_RC; rw [xs_Day_0]; exact ⟨fun _ => trivial, fun _ => rfl⟩
theorem ad_s {F : (Nat → xk_C) → Prop} (h1 : 0 ≤ m) (h2 : m < 6) : xk_AS (xs_Day f a d) (a + 1) (xj m) (xj z) F ↔ F (xs_Day f a (d.1, d.2.1, d.2.2.1, d.2.2.2.1, d.2.2.2.2.1, d.2.2.2.2.2.1, d.2.2.2.2.2.2.1, upI d.2.2.2.2.2.2.2 m.toNat z)) := by
  rw [as_I (xs_Day_1 f a d) h1 h2 (by decide), xs_Day_arr]
theorem ad_l {F : Int32 → Prop} (h1 : 0 ≤ z) (h2 : z < 6) : xk_AL (xs_Day f a d) (a + 1) 0 (xj z) F ↔ F (xj (d.2.2.2.2.2.2.2 z.toNat)) := by
  unfold xk_AL
  rw [xs_Day_1]
  show (0 = 0 ∧ ¬ (xj z < 0 ∨ 6 ≤ (xj z).toNatClampNeg) ∧ F (xj (d.2.2.2.2.2.2.2 (xj z).toNatClampNeg))) ↔ _
  rw [xj_nat h1 (by omega)]
  exact ⟨fun q => q.2.2, fun q => ⟨rfl, by rw [← xj_nat h1 (by omega)]; exact (xj_in (n := 6) h1 h2 (by omega)).mpr trivial, q⟩⟩
theorem s_takeNewPen (hD : 1 ≤ D) (ho : xv_Off f o O) (h : xv_Day f a d) (hd : o + 9 < a ∨ a + 1 < o) : xk_Cl D 3 [.ref a, .ref o, .int (xj z)] (f, w) K ↔ K none (xs_Day f a (d.1, z, of_ink O, of_nib O, d.2.2.2.2), w) := by
  rw [e3 (by omega)]
  have hq : ∀ d', xv_Off (xs_Day f a d') o O := fun d' => xv_Off_day ho hd
  rw [← xs_Day_id h]
  simp (disch := omega) only [b3_0, b3_1, b3_2, b3_5, b3_6, b3_7, b3_10, b3_13, b3_14, b3_15, b3_18, b3_21, ↓gd_0, ↓gd_1, ↓gd_2, ↓gd_3, ↓gd_4, ↓gd_5, ↓gd_6, ↓gd_7, ↓pd_0, ↓pd_1, ↓pd_2, ↓pd_3, ↓pd_4, ↓pd_5, ↓pd_6, ↓ad_s, ↓ad_l, cd_0, xs_Day_2, List.getElem?_cons_zero, List.getElem?_cons_succ, List.length_cons, List.length_nil, List.set_cons_zero, List.set_cons_succ, true_and, and_true, Option.toList_some, Option.toList_none, List.cons_append, List.nil_append, ↓reduceIte, Nat.reduceAdd, xj0_01, xj1_01, xb_B, xb_True, xb_False, ↓go_0 (hq _), ↓go_1 (hq _), ↓go_2 (hq _), ↓go_3 (hq _), ↓go_4 (hq _), ↓go_5 (hq _), ↓go_6 (hq _), ↓go_7 (hq _), ↓go_8 (hq _), ↓go_9 (hq _), ↓go_10 (hq _), ↓go_11 (hq _), ↓go_12 (hq _), ↓go_13 (hq _), ↓go_14 (hq _), ↓go_15 (hq _), ↓ao_1 (hq _), ↓ao_2 (hq _), ↓ao_3 (hq _), ↓ao_4 (hq _), ↓ao_5 (hq _), ↓ao_6 (hq _), ↓ao_7 (hq _), ↓ao_8 (hq _), ↓ao_9 (hq _)]
end XS27
