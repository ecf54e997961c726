/-! the class's least late -/
def saP (O : Of) (s q o a n : Nat) : Prop := ∀ (D k : Nat) (f : Nat → xk_C) (w : Nat × Nat × Nat) (K : Option Value → xk_S → Prop) (B : Bst) (mo : Int) (row prow : Nat → Int) (ds : Nat → Dy) (d : Dy), k + n = 6 → n + 7 ≤ D → xv_Off f o O → xv_Pl f a B s q mo prow ds → ds k = d → xw_Day O d → -1 ≤ mo → mo ≤ 1000 →
  (∀ f' mo' ds', xv_Pl f' a B s q mo' prow ds' → (∀ x, x < a ∨ a + 18 ≤ x → f' x = f x) → (∀ i, i ≤ k → ds' i = ds i) → mo' = dfsG (fun d p => canF O d p) (fun d p => writeD O d p 63) (vMo O) (of_np O) n k d row mo → -1 ≤ mo' → mo' ≤ 1000 → K none (f', w)) →
  xk_Cl D 58 [.ref a, .ref o, .int (xj k)] (f, w) K
theorem uns0_can {O : Of} {d : Dy} {p : Nat} (h : unsF O d = 0) (hp : p < of_np O) : canF O d p = false := by
  cases hc : canF O d p
  · rfl
  · have h1 := can_uns hc
    have h2 := msk_bit (fun p => !d.2.2.2.2.1.testBit p) (of_np O) p
    unfold unsF at h
    rw [h, Nat.zero_testBit, h1, decide_eq_true hp] at h2
    cases h2
theorem u_saIn {O : Of} {s q o a : Nat} (hw : xw_Off O) (hoa : o + 9 < a ∨ a + 18 ≤ o) (n : Nat) (hch : ∀ n', n = n' + 1 → saP O s q o a n') : saP O s q o a n := by
  intro D k f w K B mo row prow ds d hkn hD ho hp hdk hwd hm1 hm2 hpost
  have hn := hw.2.2.2.1
  have hdv := hp.2.2.2.2.1 k (by omega)
  rw [hdk] at hdv
  have rcp : ∀ {f : Nat → xk_C} {mo : Int} {ds : Nat → Dy}, xv_Pl f a B s q mo prow ds → (xk_RC f a 6 ↔ True) := fun h => by unfold xk_RC; rw [h.1]; exact ⟨fun _ => trivial, fun _ => rfl⟩
  have rcd : ∀ {f : Nat → xk_C} {b : Nat} {d : Dy}, xv_Day f b d → (xk_RC f b 0 ↔ True) := fun h => by unfold xk_RC; rw [h.1]; exact ⟨fun _ => trivial, fun _ => rfl⟩
  have hu := uns_eq (d := d) hw
  have hul := uns_lt (d := d) hw
  have hwt := wt_rng hw d
  rw [e58 (by omega)]
  simp (disch := omega) only [b58_0, b58_1, b58_4, b58_5, b58_7, b58_10, b58_11, b58_12, b58_15, b58_16, b58_17, b58_18, b58_19, b58_20, List.getElem?_cons_zero, List.getElem?_cons_succ, List.length_cons, List.length_nil, List.set_cons_zero, List.set_cons_succ, true_and, and_true, Option.toList_some, Option.toList_none, List.cons_append, List.nil_append, ↓reduceIte, not_false_eq_true, not_true_eq_false, Nat.reduceAdd, xj0_01, xj1_01, xb_B, xb_True, xb_False, ↓xj_in, xj_nat, Int.toNat_natCast, xj_lt_t, xj_lt_f, xj_le_t, xj_le_f, xj_eq_t, xj_eq_f, xj_lt, xj_le, xj_eq, xj_add, xj_sub, xj_mul, show ¬ xj 1 = xj 0 from by decide, tn_add, tn_mul, tn_sub, Int.toNat_natCast, Int.reduceToNat, ↓gp_7 hp, ↓ap_ hp, rcd hdv, s_unsigned _ ho hw hdv hwd, hu]
  by_cases c : unsF O d = 0
  · have e1 : dfsG (fun d p => canF O d p) (fun d p => writeD O d p 63) (vMo O) (of_np O) n k d row mo = vMo O k d row mo := by
      rw [dfs_eq]
      refine itF_id _ (fun p hp a => ?_) _
      unfold gnF
      simp only [uns0_can c hp, Bool.false_eq_true, if_false]
    have e2 : vMo O k d row mo = if mo < wtF O d then wtF O d else mo := by unfold vMo; rw [if_pos c]
    have v1 := xv_Pl_obj (B' := B) (s' := s) (q' := q) (mo' := if mo < wtF O d then wtF O d else mo) hp rfl
    have r1 : -1 ≤ (if mo < wtF O d then wtF O d else mo) ∧ (if mo < wtF O d then wtF O d else mo) ≤ 1000 := by split <;> omega
    have t := hpost _ _ ds v1 (fun x hx => up_ne (by omega)) (fun _ _ => rfl) (by rw [e1, e2]) r1.1 r1.2
    have wtd : smF (inTF O d) (of_wo O) (of_np O) = wtF O d := rfl
    simp (disch := omega) only [b58_23, b58_26, b58_27, b58_28, b58_31, b58_32, b58_33, b58_36, List.getElem?_cons_zero, List.getElem?_cons_succ, List.length_cons, List.length_nil, List.set_cons_zero, List.set_cons_succ, true_and, and_true, Option.toList_some, Option.toList_none, List.cons_append, List.nil_append, ↓reduceIte, not_false_eq_true, not_true_eq_false, Nat.reduceAdd, xj0_01, xj1_01, xb_B, xb_True, xb_False, ↓xj_in, xj_nat, Int.toNat_natCast, xj_lt_t, xj_lt_f, xj_le_t, xj_le_f, xj_eq_t, xj_eq_f, xj_lt, xj_le, xj_eq, xj_add, xj_sub, xj_mul, show ¬ xj 1 = xj 0 from by decide, tn_add, tn_mul, tn_sub, Int.toNat_natCast, Int.reduceToNat, c, rcd hdv, s_worthInTime _ ho hw hdv hwd, wtd, ↓gp_8 hp]
    have pf8 : ∀ (x : Int) (G : (Nat → xk_C) → Prop), xk_PF f a 6 8 (.int (xj x)) G ↔ G (va_up f a (.inr (6, xp_c a B s q x))) := fun x G => pf_R hp.1 (by show 8 < 9; decide)
    by_cases c2 : mo < wtF O d
    · rw [if_pos c2] at t
      simp (disch := omega) only [b58_39, b58_42, List.getElem?_cons_zero, List.getElem?_cons_succ, List.length_cons, List.length_nil, List.set_cons_zero, List.set_cons_succ, true_and, and_true, Option.toList_some, Option.toList_none, List.cons_append, List.nil_append, ↓reduceIte, not_false_eq_true, not_true_eq_false, Nat.reduceAdd, xj0_01, xj1_01, xb_B, xb_True, xb_False, ↓xj_in, xj_nat, Int.toNat_natCast, xj_lt_t, xj_lt_f, xj_le_t, xj_le_f, xj_eq_t, xj_eq_f, xj_lt, xj_le, xj_eq, xj_add, xj_sub, xj_mul, show ¬ xj 1 = xj 0 from by decide, ↓pf8, c2]
      exact t
    · rw [if_neg c2] at t
      simp (disch := omega) only [b58_39, b58_42, List.getElem?_cons_zero, List.getElem?_cons_succ, List.length_cons, List.length_nil, List.set_cons_zero, List.set_cons_succ, true_and, and_true, Option.toList_some, Option.toList_none, List.cons_append, List.nil_append, ↓reduceIte, not_false_eq_true, not_true_eq_false, Nat.reduceAdd, xj0_01, xj1_01, xb_B, xb_True, xb_False, ↓xj_in, xj_nat, Int.toNat_natCast, xj_lt_t, xj_lt_f, xj_le_t, xj_le_f, xj_eq_t, xj_eq_f, xj_lt, xj_le, xj_eq, xj_add, xj_sub, xj_mul, show ¬ xj 1 = xj 0 from by decide, ↓pf8, c2]
      exact t
  · have e2 : vMo O k d row mo = mo := by unfold vMo; rw [if_neg c]
    cases n with
    | zero =>
      have t := hpost f mo ds hp (fun _ _ => rfl) (fun _ _ => rfl) (by show mo = vMo O k d row mo; rw [e2]) hm1 hm2
      by_cases c : 0 < of_np O
      · simp (disch := omega) only [b58_23, b58_26, b58_27, b58_28, b58_31, b58_32, b58_33, b58_36, b58_39, b58_42, b58_43, b58_44, b58_46, b58_48, b58_49, b58_52, b58_55, b58_56, b58_58, b58_105, List.getElem?_cons_zero, List.getElem?_cons_succ, List.length_cons, List.length_nil, List.set_cons_zero, List.set_cons_succ, true_and, and_true, Option.toList_some, Option.toList_none, List.cons_append, List.nil_append, ↓reduceIte, not_false_eq_true, not_true_eq_false, Nat.reduceAdd, xj0_01, xj1_01, xb_B, xb_True, xb_False, ↓go_0 ho, ↓go_1 ho, ↓go_2 ho, ↓go_3 ho, ↓go_4 ho, ↓go_5 ho, ↓go_6 ho, ↓go_7 ho, ↓go_8 ho, ↓go_9 ho, ↓go_10 ho, ↓go_11 ho, ↓go_12 ho, ↓go_13 ho, ↓go_14 ho, ↓go_15 ho, ↓ao_1 ho, ↓ao_2 ho, ↓ao_3 ho, ↓ao_4 ho, ↓ao_5 ho, ↓ao_6 ho, ↓ao_7 ho, ↓ao_8 ho, ↓ao_9 ho, ↓xj_in, xj_nat, Int.toNat_natCast, xj_lt_t, xj_lt_f, xj_le_t, xj_le_f, xj_eq_t, xj_eq_f, xj_lt, xj_le, xj_eq, xj_add, xj_sub, xj_mul, show ¬ xj 1 = xj 0 from by decide]
        exact t
      · simp (disch := omega) only [b58_23, b58_26, b58_27, b58_28, b58_31, b58_32, b58_33, b58_36, b58_39, b58_42, b58_43, b58_44, b58_46, b58_48, b58_49, b58_52, b58_105, List.getElem?_cons_zero, List.getElem?_cons_succ, List.length_cons, List.length_nil, List.set_cons_zero, List.set_cons_succ, true_and, and_true, Option.toList_some, Option.toList_none, List.cons_append, List.nil_append, ↓reduceIte, not_false_eq_true, not_true_eq_false, Nat.reduceAdd, xj0_01, xj1_01, xb_B, xb_True, xb_False, ↓go_0 ho, ↓go_1 ho, ↓go_2 ho, ↓go_3 ho, ↓go_4 ho, ↓go_5 ho, ↓go_6 ho, ↓go_7 ho, ↓go_8 ho, ↓go_9 ho, ↓go_10 ho, ↓go_11 ho, ↓go_12 ho, ↓go_13 ho, ↓go_14 ho, ↓go_15 ho, ↓ao_1 ho, ↓ao_2 ho, ↓ao_3 ho, ↓ao_4 ho, ↓ao_5 ho, ↓ao_6 ho, ↓ao_7 ho, ↓ao_8 ho, ↓ao_9 ho, ↓xj_in, xj_nat, Int.toNat_natCast, xj_lt_t, xj_lt_f, xj_le_t, xj_le_f, xj_eq_t, xj_eq_f, xj_lt, xj_le, xj_eq, xj_add, xj_sub, xj_mul, show ¬ xj 1 = xj 0 from by decide]
        exact t
    | succ n =>
      simp (disch := omega) only [b58_23, b58_26, b58_27, b58_28, b58_31, b58_32, b58_33, b58_36, b58_39, b58_42, b58_43, b58_44, List.getElem?_cons_zero, List.getElem?_cons_succ, List.length_cons, List.length_nil, List.set_cons_zero, List.set_cons_succ, true_and, and_true, Option.toList_some, Option.toList_none, List.cons_append, List.nil_append, ↓reduceIte, not_false_eq_true, not_true_eq_false, Nat.reduceAdd, xj0_01, xj1_01, xb_B, xb_True, xb_False, ↓xj_in, xj_nat, Int.toNat_natCast, xj_lt_t, xj_lt_f, xj_le_t, xj_le_f, xj_eq_t, xj_eq_f, xj_lt, xj_le, xj_eq, xj_add, xj_sub, xj_mul, show ¬ xj 1 = xj 0 from by decide]
      have loop : ∀ (m j : Nat) (g : Nat → xk_C) (mj : Int) (dj : Nat → Dy) (l5 : Value), j + m = of_np O → xv_Pl g a B s q mj prow dj → (∀ x, x < a ∨ a + 18 ≤ x → g x = f x) → (∀ i, i ≤ k → dj i = ds i) → mj = itF (gnF (fun d p => canF O d p) (fun d p => writeD O d p 63) (vMo O) (of_np O) (n + 1) k d row) j (vMo O k d row mo) → -1 ≤ mj → mj ≤ 1000 → xk_B (D - 1) 58 46 [.ref a, .ref o, .int (xj k), .ref (a + 4 + 2 * k), .int (xj j), l5] [] (g, w) K := by
        intro m
        induction m with
        | zero =>
          intro j g mj dj l5 hj hpj hg hdj hE r1 r2
          have hj : j = of_np O := by omega
          subst hj
          have hog : xv_Off g o O := xv_Off_fr ho (fun x h1 h2 => hg x (by omega))
          have h1 := hpost g mj dj hpj hg hdj (by rw [dfs_eq]; exact hE) r1 r2
          simp (disch := omega) only [b58_46, b58_48, b58_49, b58_52, b58_105, List.getElem?_cons_zero, List.getElem?_cons_succ, List.length_cons, List.length_nil, List.set_cons_zero, List.set_cons_succ, true_and, and_true, Option.toList_some, Option.toList_none, List.cons_append, List.nil_append, ↓reduceIte, not_false_eq_true, not_true_eq_false, Nat.reduceAdd, xj0_01, xj1_01, xb_B, xb_True, xb_False, ↓go_0 hog, ↓go_1 hog, ↓go_2 hog, ↓go_3 hog, ↓go_4 hog, ↓go_5 hog, ↓go_6 hog, ↓go_7 hog, ↓go_8 hog, ↓go_9 hog, ↓go_10 hog, ↓go_11 hog, ↓go_12 hog, ↓go_13 hog, ↓go_14 hog, ↓go_15 hog, ↓ao_1 hog, ↓ao_2 hog, ↓ao_3 hog, ↓ao_4 hog, ↓ao_5 hog, ↓ao_6 hog, ↓ao_7 hog, ↓ao_8 hog, ↓ao_9 hog, ↓xj_in, xj_nat, Int.toNat_natCast, xj_lt_t, xj_lt_f, xj_le_t, xj_le_f, xj_eq_t, xj_eq_f, xj_lt, xj_le, xj_eq, xj_add, xj_sub, xj_mul, show ¬ xj 1 = xj 0 from by decide]
          exact h1
        | succ m ihm =>
          intro j g mj dj l5 hj hpj hg hdj hE r1 r2
          have hjn : j < of_np O := by omega
          have hog : xv_Off g o O := xv_Off_fr ho (fun x h1 h2 => hg x (by omega))
          have hd1 := hpj.2.2.2.2.1 (k + 1) (by omega)
          have hz1 := hpj.2.2.2.2.2.1 (k + 1) (by omega)
          have hd0 := hpj.2.2.2.2.1 k (by omega)
          have hz0 := hpj.2.2.2.2.2.1 k (by omega)
          rw [hdj k (Nat.le_refl _), hdk] at hd0 hz0
          rw [b58_46]
          simp (disch := omega) only [b58_48, b58_49, b58_52, b58_55, b58_56, b58_58, b58_61, b58_62, b58_65, b58_66, b58_67, b58_68, b58_69, b58_71, b58_73, List.getElem?_cons_zero, List.getElem?_cons_succ, List.length_cons, List.length_nil, List.set_cons_zero, List.set_cons_succ, true_and, and_true, Option.toList_some, Option.toList_none, List.cons_append, List.nil_append, ↓reduceIte, not_false_eq_true, not_true_eq_false, Nat.reduceAdd, xj0_01, xj1_01, xb_B, xb_True, xb_False, ↓go_0 hog, ↓go_1 hog, ↓go_2 hog, ↓go_3 hog, ↓go_4 hog, ↓go_5 hog, ↓go_6 hog, ↓go_7 hog, ↓go_8 hog, ↓go_9 hog, ↓go_10 hog, ↓go_11 hog, ↓go_12 hog, ↓go_13 hog, ↓go_14 hog, ↓go_15 hog, ↓ao_1 hog, ↓ao_2 hog, ↓ao_3 hog, ↓ao_4 hog, ↓ao_5 hog, ↓ao_6 hog, ↓ao_7 hog, ↓ao_8 hog, ↓ao_9 hog, ↓xj_in, xj_nat, Int.toNat_natCast, xj_lt_t, xj_lt_f, xj_le_t, xj_le_f, xj_eq_t, xj_eq_f, xj_lt, xj_le, xj_eq, xj_add, xj_sub, xj_mul, show ¬ xj 1 = xj 0 from by decide, tn_add, tn_mul, tn_sub, Int.toNat_natCast, Int.reduceToNat, ↓gp_7 hpj, ↓ap_ hpj]
          rw [b58_74, rcd hd1, true_and, s_day_copy (by omega) hd1 hd0 hz1 hz0 (by omega)]
          have fr2 : ∀ (d' : Dy) (x : Nat), x < a ∨ a + 18 ≤ x → xs_Day g (a + 4 + 2 * (k + 1)) d' x = f x := fun d' x hx => (xs_Day_ne (by omega) (by omega)).trans (hg x hx)
          have e2 := xs_Day_v g (a + 4 + 2 * (k + 1)) d
          have ho2 : ∀ d', xv_Off (xs_Day g (a + 4 + 2 * (k + 1)) d') o O := fun d' => xv_Off_day hog (by omega)
          cases hb2 : canF O d j
          · have skip : itF (gnF (fun d p => canF O d p) (fun d p => writeD O d p 63) (vMo O) (of_np O) (n + 1) k d row) (j + 1) (vMo O k d row mo) = itF (gnF (fun d p => canF O d p) (fun d p => writeD O d p 63) (vMo O) (of_np O) (n + 1) k d row) j (vMo O k d row mo) := by
              show gnF (fun d p => canF O d p) (fun d p => writeD O d p 63) (vMo O) (of_np O) (n + 1) k d row _ j = _
              unfold gnF
              simp only [hb2, Bool.false_eq_true, if_false]
            have t := ihm (j + 1) (xs_Day g (a + 4 + 2 * (k + 1)) d) mj (fun i => if i = k + 1 then d else dj i) (.ref (a + 4 + 2 * (k + 1))) (by omega) (xv_Pl_day hpj (by omega) hz0) (fr2 d) (fun i hi => by simp only [show ¬ i = k + 1 by omega, if_false]; exact hdj i hi) (by rw [skip]; exact hE) r1 r2
            have wn : ∀ K, xk_Cl (D - 1) 10 [.ref (a + 4 + 2 * (k + 1)), .ref o, .int (xj j), .int (xj 63)] (xs_Day g (a + 4 + 2 * (k + 1)) d, w) K ↔ _ := fun K => s_write_no (D := D - 1) (y := 63) (by omega) (ho2 d) hw e2 hwd (by omega) (by omega) hb2
            simp (disch := omega) only [b58_77, b58_79, b58_80, b58_82, b58_84, b58_87, b58_88, b58_99, b58_102, List.getElem?_cons_zero, List.getElem?_cons_succ, List.length_cons, List.length_nil, List.set_cons_zero, List.set_cons_succ, true_and, and_true, Option.toList_some, Option.toList_none, List.cons_append, List.nil_append, ↓reduceIte, not_false_eq_true, not_true_eq_false, Nat.reduceAdd, xj0_01, xj1_01, xb_B, xb_True, xb_False, ↓xj_in, xj_nat, Int.toNat_natCast, xj_lt_t, xj_lt_f, xj_le_t, xj_le_f, xj_eq_t, xj_eq_f, xj_lt, xj_le, xj_eq, xj_add, xj_sub, xj_mul, show ¬ xj 1 = xj 0 from by decide, rcd e2, wn]
            exact t
          · have hb := beginF_rng hw hwd hjn
            have hsk := hw.2.2.2.2.2.2 j hjn
            have he : 0 ≤ endF O d j ∧ endF O d j ≤ 20000 := by unfold endF; omega
            have hz' : xz_Day (writeD O d j 63) := xz_writeD hz0 (by omega)
            have hwd' : xw_Day O (writeD O d j 63) := xw_writeD hw hwd hb2
            have v3 := xv_Pl_day hpj (k := k + 1) (d' := writeD O d j 63) (by omega) hz'
            have hc := hch n rfl (D - 1) (k + 1) (xs_Day g (a + 4 + 2 * (k + 1)) (writeD O d j 63)) w (fun v σ' => xk_B (D - 1) 58 99 [.ref a, .ref o, .int (xj k), .ref (a + 4 + 2 * k), .int (xj j), .ref (a + 4 + 2 * (k + 1))] (v.toList ++ []) σ' K) B mj (upI row k j) prow (fun i => if i = k + 1 then writeD O d j 63 else dj i) (writeD O d j 63) (by omega) (by omega) (ho2 _) v3 (if_pos rfl) hwd' r1 r2 (fun f' mo' ds' g1 g2 g3 g4 g5 g6 => ?_)
            · have wn : ∀ K, xk_Cl (D - 1) 10 [.ref (a + 4 + 2 * (k + 1)), .ref o, .int (xj j), .int (xj 63)] (xs_Day g (a + 4 + 2 * (k + 1)) d, w) K ↔ _ := fun K => s_write (D := D - 1) (q := 63) (by omega) (ho2 d) hw e2 hwd (by omega) hb2 (by omega)
              simp (disch := omega) only [b58_77, b58_79, b58_80, b58_82, b58_84, b58_87, b58_88, b58_91, b58_92, b58_93, b58_94, b58_95, List.getElem?_cons_zero, List.getElem?_cons_succ, List.length_cons, List.length_nil, List.set_cons_zero, List.set_cons_succ, true_and, and_true, Option.toList_some, Option.toList_none, List.cons_append, List.nil_append, ↓reduceIte, not_false_eq_true, not_true_eq_false, Nat.reduceAdd, xj0_01, xj1_01, xb_B, xb_True, xb_False, ↓xj_in, xj_nat, Int.toNat_natCast, xj_lt_t, xj_lt_f, xj_le_t, xj_le_f, xj_eq_t, xj_eq_f, xj_lt, xj_le, xj_eq, xj_add, xj_sub, xj_mul, show ¬ xj 1 = xj 0 from by decide, tn_add, tn_mul, tn_sub, Int.toNat_natCast, Int.reduceToNat, rcd e2, wn, xs_Day_2]
              rw [b58_96]
              exact hc
            · have hx : ∀ x, x < a ∨ a + 18 ≤ x → f' x = f x := fun x hx => (g2 x hx).trans (fr2 _ x hx)
              have t := ihm (j + 1) f' mo' ds' (.ref (a + 4 + 2 * (k + 1))) (by omega) g1 hx (fun i hi => by rw [g3 i (by omega)]; simp only [show ¬ i = k + 1 by omega, if_false]; exact hdj i hi) (by
                have e8 : itF (gnF (fun d p => canF O d p) (fun d p => writeD O d p 63) (vMo O) (of_np O) (n + 1) k d row) (j + 1) (vMo O k d row mo) = dfsG (fun d p => canF O d p) (fun d p => writeD O d p 63) (vMo O) (of_np O) n (k + 1) (writeD O d j 63) (upI row k j) (itF (gnF (fun d p => canF O d p) (fun d p => writeD O d p 63) (vMo O) (of_np O) (n + 1) k d row) j (vMo O k d row mo)) := by
                  show gnF (fun d p => canF O d p) (fun d p => writeD O d p 63) (vMo O) (of_np O) (n + 1) k d row _ j = _
                  unfold gnF
                  simp only [hb2, if_true]
                rw [e8, ← hE]; exact g4) g5 g6
              simp (disch := omega) only [b58_99, b58_102, List.getElem?_cons_zero, List.getElem?_cons_succ, List.length_cons, List.length_nil, List.set_cons_zero, List.set_cons_succ, true_and, and_true, Option.toList_some, Option.toList_none, List.cons_append, List.nil_append, ↓reduceIte, not_false_eq_true, not_true_eq_false, Nat.reduceAdd, xj0_01, xj1_01, xb_B, xb_True, xb_False, ↓xj_in, xj_nat, Int.toNat_natCast, xj_lt_t, xj_lt_f, xj_le_t, xj_le_f, xj_eq_t, xj_eq_f, xj_lt, xj_le, xj_eq, xj_add, xj_sub, xj_mul, show ¬ xj 1 = xj 0 from by decide]
              exact t
      exact loop (of_np O) 0 f mo ds xk_dd (by omega) hp (fun _ _ => rfl) (fun _ _ => rfl) e2.symm hm1 hm2
theorem u_seekAll {O : Of} {s q o a : Nat} (hw : xw_Off O) (hoa : o + 9 < a ∨ a + 18 ≤ o) (n : Nat) : saP O s q o a n := by
  induction n with
  | zero => exact u_saIn hw hoa 0 (fun n' h => by omega)
  | succ n ih => exact u_saIn hw hoa (n + 1) (fun n' h => by cases h; exact ih)
section XS56
variable {D a b o k p q s : Nat} {f g : Nat → xk_C} {w : Nat × Nat × Nat} {K : Option Value → xk_S → Prop} {O : Of} {d d2 : Dy} {mo z y : Int} {B : Bst} {row r : Nat → Int} {ds : Nat → Dy}
def clAns (O : Of) (d : Dy) : Int := if cLate O d = -1 then -2 else wtF O d + smF (fun p => (unsF O d).testBit p) (of_wo O) (of_np O) - cLate O d
theorem u_leastLate (hD : 14 ≤ D) (ho : xv_Off f o O) (hw : xw_Off O) (hp : xv_Pl f a B s q mo row ds) (hd : xv_Day f b d) (hz : xz_Day d) (hwd : xw_Day O d) (hoa : o + 9 < a ∨ a + 18 ≤ o) (hba : b + 1 < a ∨ a + 18 ≤ b)
    (hpost : ∀ f' mo' ds', xv_Pl f' a B s q mo' row ds' → (∀ x, x < a ∨ a + 18 ≤ x → f' x = f x) → K (some (.int (xj (clAns O d)))) (f', w)) : xk_Cl D 57 [.ref a, .ref o, .ref b] (f, w) K := by
  rw [e57 (by omega)]
  have hn := hw.2.2.2.1
  have hc0 := hp.2.2.2.2.1 0 (by omega)
  have hz0 := hp.2.2.2.2.2.1 0 (by omega)
  have v2 := xv_Pl_day hp (k := 0) (d' := d) (by omega) hz
  have v3 := xv_Pl_obj (B' := B) (s' := s) (q' := q) (mo' := -1) v2 rfl
  have n3 : ∀ x, x < a ∨ a + 18 ≤ x → va_up (xs_Day f (a + 4 + 2 * 0) d) a (.inr (6, xp_c a B s q (-1))) x = f x := fun x hx => (up_ne (by omega)).trans (xs_Day_ne (by omega) (by omega))
  have ho3 := xv_Off_fr (f' := va_up (xs_Day f (a + 4 + 2 * 0) d) a (.inr (6, xp_c a B s q (-1)))) ho (fun x h1 h2 => n3 x (by omega))
  have rcd : ∀ {f : Nat → xk_C} {b : Nat} {d : Dy}, xv_Day f b d → (xk_RC f b 0 ↔ True) := fun h => by unfold xk_RC; rw [h.1]; exact ⟨fun _ => trivial, fun _ => rfl⟩
  have z0 : (0 : Int).toNat = 0 := rfl
  have ap0 : ∀ V : Value → Prop, xk_ALQ f (a + 3) (xj 0) V ↔ V (.ref (a + 4 + 2 * 0)) := fun V => by rw [ap_ hp (by omega) (by omega), z0]
  have pf8 : ∀ (x : Int) (G : (Nat → xk_C) → Prop), xk_PF (xs_Day f (a + 4 + 2 * 0) d) a 6 8 (.int (xj x)) G ↔ G (va_up (xs_Day f (a + 4 + 2 * 0) d) a (.inr (6, xp_c a B s q x))) := fun x G => pf_R v2.1 (by show 8 < 9; decide)
  simp (disch := omega) only [b57_0, b57_1, b57_4, b57_5, b57_6, ↓gp_7 hp, ↓ap0, List.getElem?_cons_zero, List.getElem?_cons_succ, List.length_cons, List.length_nil, List.set_cons_zero, List.set_cons_succ, true_and, and_true, Option.toList_some, Option.toList_none, List.cons_append, List.nil_append, ↓reduceIte, not_false_eq_true, not_true_eq_false, Nat.reduceAdd, xj0_01, xj1_01, xb_B, xb_True, xb_False]
  rw [b57_7, rcd hc0, true_and, s_day_copy (by omega) hc0 hd hz0 hz (by omega)]
  simp (disch := omega) only [b57_10, b57_11, b57_12, b57_15, b57_16, b57_17, ↓pf8, List.getElem?_cons_zero, List.getElem?_cons_succ, List.length_cons, List.length_nil, List.set_cons_zero, List.set_cons_succ, true_and, and_true, Option.toList_some, Option.toList_none, List.cons_append, List.nil_append, ↓reduceIte, not_false_eq_true, not_true_eq_false, Nat.reduceAdd, xj0_01, xj1_01, xb_B, xb_True, xb_False]
  rw [b57_18]
  refine u_seekAll hw hoa 6 (D - 1) 0 _ w _ B (-1) row0 row _ d (by omega) (by omega) ho3 v3 (if_pos rfl) hwd (by omega) (by omega) (fun f' mo' ds' g1 g2 g3 g4 g5 g6 => ?_)
  have g4 : mo' = cLate O d := g4
  have hx : ∀ x, x < a ∨ a + 18 ≤ x → f' x = f x := fun x hx => (g2 x hx).trans (n3 x hx)
  have t := hpost f' mo' ds' g1 hx
  have ho4 : xv_Off f' o O := xv_Off_fr ho (fun x h1 h2 => hx x (by omega))
  have hd4 : xv_Day f' b d := xv_Day_fr hd (fun x h1 h2 => hx x (by omega))
  have hwt := wt_rng hw d
  unfold clAns at t
  by_cases c : cLate O d = -1
  · rw [if_pos c] at t
    simp (disch := omega) only [b57_21, b57_22, b57_25, b57_26, b57_29, b57_31, List.getElem?_cons_zero, List.getElem?_cons_succ, List.length_cons, List.length_nil, List.set_cons_zero, List.set_cons_succ, true_and, and_true, Option.toList_some, Option.toList_none, List.cons_append, List.nil_append, ↓reduceIte, not_false_eq_true, not_true_eq_false, Nat.reduceAdd, xj0_01, xj1_01, xb_B, xb_True, xb_False, ↓xj_in, xj_nat, Int.toNat_natCast, xj_lt_t, xj_lt_f, xj_le_t, xj_le_f, xj_eq_t, xj_eq_f, xj_lt, xj_le, xj_eq, xj_add, xj_sub, xj_mul, show ¬ xj 1 = xj 0 from by decide, ↓gp_8 g1, g4, c]
    exact t
  · rw [if_neg c] at t
    have hu := uns_eq (d := d) hw
    have hul := uns_lt (d := d) hw
    have wtd : smF (inTF O d) (of_wo O) (of_np O) = wtF O d := rfl
    simp (disch := omega) only [b57_21, b57_22, b57_25, b57_26, b57_29, b57_31, b57_32, b57_33, b57_34, b57_37, b57_38, b57_39, b57_40, b57_43, b57_45, b57_46, List.getElem?_cons_zero, List.getElem?_cons_succ, List.length_cons, List.length_nil, List.set_cons_zero, List.set_cons_succ, true_and, and_true, Option.toList_some, Option.toList_none, List.cons_append, List.nil_append, ↓reduceIte, not_false_eq_true, not_true_eq_false, Nat.reduceAdd, xj0_01, xj1_01, xb_B, xb_True, xb_False, ↓xj_in, xj_nat, Int.toNat_natCast, xj_lt_t, xj_lt_f, xj_le_t, xj_le_f, xj_eq_t, xj_eq_f, xj_lt, xj_le, xj_eq, xj_add, xj_sub, xj_mul, show ¬ xj 1 = xj 0 from by decide, ↓gp_8 g1, g4, rcd hd4, s_unsigned _ ho4 hw hd4 hwd, hu, s_worthInTime _ ho4 hw hd4 hwd, wtd]
    have key := xk_down (J := Unit) (n := of_np O) (P := fun r _ => xk_B (D - 1) 57 48 [.ref a, .ref o, .ref b, .int (xj (unsF O d : Nat)), .int (xj (wtF O d + smF (fun p => (unsF O d).testBit p) (of_wo O) r)), .int (xj r)] [] (f', w) K) (Q := K (some (.int (xj (wtF O d + smF (fun p => (unsF O d).testBit p) (of_wo O) (of_np O) - cLate O d)))) (f', w)) (fun j => ?_) (fun r hrr ih j => ?_) 0 (Nat.zero_le _) ()
    · rw [show smF (fun p => (unsF O d).testBit p) (of_wo O) 0 = 0 from rfl, Int.add_zero] at key
      exact key.mpr t
    · simp (disch := omega) only [b57_48, b57_50, b57_51, b57_54, b57_88, b57_90, b57_91, b57_94, b57_95, List.getElem?_cons_zero, List.getElem?_cons_succ, List.length_cons, List.length_nil, List.set_cons_zero, List.set_cons_succ, true_and, and_true, Option.toList_some, Option.toList_none, List.cons_append, List.nil_append, ↓reduceIte, not_false_eq_true, not_true_eq_false, Nat.reduceAdd, xj0_01, xj1_01, xb_B, xb_True, xb_False, ↓xj_in, xj_nat, Int.toNat_natCast, xj_lt_t, xj_lt_f, xj_le_t, xj_le_f, xj_eq_t, xj_eq_f, xj_lt, xj_le, xj_eq, xj_add, xj_sub, xj_mul, show ¬ xj 1 = xj 0 from by decide, ↓go_0 ho4, ↓go_1 ho4, ↓go_2 ho4, ↓go_3 ho4, ↓go_4 ho4, ↓go_5 ho4, ↓go_6 ho4, ↓go_7 ho4, ↓go_8 ho4, ↓go_9 ho4, ↓go_10 ho4, ↓go_11 ho4, ↓go_12 ho4, ↓go_13 ho4, ↓go_14 ho4, ↓go_15 ho4, ↓ao_1 ho4, ↓ao_2 ho4, ↓ao_3 ho4, ↓ao_4 ho4, ↓ao_5 ho4, ↓ao_6 ho4, ↓ao_7 ho4, ↓ao_8 ho4, ↓ao_9 ho4, ↓gp_8 g1, g4]
    · have hs := hw.2.2.2.2.2.2 r hrr
      rw [b57_48, ← ih ()]
      have e : smF (fun p => (unsF O d).testBit p) (of_wo O) (r + 1) = if (unsF O d).testBit r = true then smF (fun p => (unsF O d).testBit p) (of_wo O) r + of_wo O r else smF (fun p => (unsF O d).testBit p) (of_wo O) r := rfl
      rw [e]
      cases h1 : (unsF O d).testBit r
      · simp (disch := omega) only [b57_50, b57_51, b57_54, b57_57, b57_59, b57_60, b57_62, b57_65, b57_68, b57_69, b57_72, b57_74, b57_75, b57_78, b57_79, b57_80, b57_82, b57_85, List.getElem?_cons_zero, List.getElem?_cons_succ, List.length_cons, List.length_nil, List.set_cons_zero, List.set_cons_succ, true_and, and_true, Option.toList_some, Option.toList_none, List.cons_append, List.nil_append, ↓reduceIte, not_false_eq_true, not_true_eq_false, Nat.reduceAdd, xj0_01, xj1_01, xb_B, xb_True, xb_False, ↓xj_in, xj_nat, Int.toNat_natCast, xj_lt_t, xj_lt_f, xj_le_t, xj_le_f, xj_eq_t, xj_eq_f, xj_lt, xj_le, xj_eq, xj_add, xj_sub, xj_mul, show ¬ xj 1 = xj 0 from by decide, tn_add, tn_mul, tn_sub, Int.toNat_natCast, Int.reduceToNat, ↓go_0 ho4, ↓go_1 ho4, ↓go_2 ho4, ↓go_3 ho4, ↓go_4 ho4, ↓go_5 ho4, ↓go_6 ho4, ↓go_7 ho4, ↓go_8 ho4, ↓go_9 ho4, ↓go_10 ho4, ↓go_11 ho4, ↓go_12 ho4, ↓go_13 ho4, ↓go_14 ho4, ↓go_15 ho4, ↓ao_1 ho4, ↓ao_2 ho4, ↓ao_3 ho4, ↓ao_4 ho4, ↓ao_5 ho4, ↓ao_6 ho4, ↓ao_7 ho4, ↓ao_8 ho4, ↓ao_9 ho4, s_has, h1, Bool.false_eq_true, xb_F, Int.add_zero]
        rfl
      · simp (disch := omega) only [b57_50, b57_51, b57_54, b57_57, b57_59, b57_60, b57_62, b57_65, b57_68, b57_69, b57_72, b57_74, b57_75, b57_78, b57_79, b57_80, b57_82, b57_85, List.getElem?_cons_zero, List.getElem?_cons_succ, List.length_cons, List.length_nil, List.set_cons_zero, List.set_cons_succ, true_and, and_true, Option.toList_some, Option.toList_none, List.cons_append, List.nil_append, ↓reduceIte, not_false_eq_true, not_true_eq_false, Nat.reduceAdd, xj0_01, xj1_01, xb_B, xb_True, xb_False, ↓xj_in, xj_nat, Int.toNat_natCast, xj_lt_t, xj_lt_f, xj_le_t, xj_le_f, xj_eq_t, xj_eq_f, xj_lt, xj_le, xj_eq, xj_add, xj_sub, xj_mul, show ¬ xj 1 = xj 0 from by decide, tn_add, tn_mul, tn_sub, Int.toNat_natCast, Int.reduceToNat, ↓go_0 ho4, ↓go_1 ho4, ↓go_2 ho4, ↓go_3 ho4, ↓go_4 ho4, ↓go_5 ho4, ↓go_6 ho4, ↓go_7 ho4, ↓go_8 ho4, ↓go_9 ho4, ↓go_10 ho4, ↓go_11 ho4, ↓go_12 ho4, ↓go_13 ho4, ↓go_14 ho4, ↓go_15 ho4, ↓ao_1 ho4, ↓ao_2 ho4, ↓ao_3 ho4, ↓ao_4 ho4, ↓ao_5 ho4, ↓ao_6 ho4, ↓ao_7 ho4, ↓ao_8 ho4, ↓ao_9 ho4, s_has, h1, xb_T, Int.add_assoc]
        rfl
end XS56
