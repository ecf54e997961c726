/-! the class's search, from its entry; the least late -/
def cpB (O : Of) (q s : Nat) (d : Dy) : Bst := dfsG (okP O q s) (fun d p => writeD O d p q) (vPl (wtF O)) (of_np O) 6 0 d row0 bst0
theorem wt_rng {O : Of} (hw : xw_Off O) (d : Dy) : 0 ≤ wtF O d ∧ wtF O d ≤ 180 := by
  have := smF_wo hw (inTF O d) (of_np O) (Nat.le_refl _)
  have := hw.2.2.2.1
  unfold wtF
  omega
theorem cpB_any {O : Of} {q s : Nat} {d : Dy} (hw : xw_Off O) {r : Nat → Int} {B : Bst} (hB : B.1 = -1) : bstE (dfsG (okP O q s) (fun d p => writeD O d p q) (vPl (wtF O)) (of_np O) 6 0 d r B) (cpB O q s d) := by
  have h := wt_rng hw d
  refine dfs_rel1 (V := vPl (wtF O)) (V' := vPl (wtF O)) (T := bstE) (I := fun k _ r r' => ∀ i, i < k → r i = r' i) (fun _ _ _ _ _ _ _ => rfl) (fun k d r r' p hi _ _ => ⟨rfl, fun i hi2 => ?_⟩) (fun k d r r' a b hi t => vPl_E t hi) (fun i hi => by omega) ?_
  · by_cases c : i = k
    · subst c; rw [up_e, up_e]
    · rw [up_n c, up_n c]; exact hi i (by omega)
  · unfold vPl
    rw [if_pos (Or.inl (by omega)), if_pos (Or.inl (by show (-1 : Int) < _; omega))]
    exact ⟨rfl, rfl, rfl, fun i hi => by have hi : i < 0 := hi; omega⟩
theorem bstE_t {A B C : Bst} (h : bstE A B) (h' : bstE B C) : bstE A C := ⟨h.1.trans h'.1, h.2.1.trans h'.2.1, h.2.2.1.trans h'.2.2.1, fun i hi => (h.2.2.2 i (by rw [h'.2.2.1]; exact hi)).trans (h'.2.2.2 i hi)⟩
def bpF (row : Nat → Int) : Nat → Nat
  | 0 => 0
  | k + 1 => bpF row k ||| 2 ^ (row k).toNat
theorem bpF_lt {row : Nat → Int} : ∀ k, (∀ i, i < k → row i < 6) → bpF row k < 64 := by
  intro k
  induction k with
  | zero => intro _; unfold bpF; decide
  | succ k ih =>
    intro h
    have h1 := ih (fun i hi => h i (by omega))
    have h2 := h k (by omega)
    unfold bpF
    exact Nat.or_lt_two_pow (n := 6) h1 (Nat.pow_lt_pow_right (by decide) (by omega))
def vMo (O : Of) (_ : Nat) (d : Dy) (_ : Nat → Int) (a : Int) : Int := if unsF O d = 0 then (if a < wtF O d then wtF O d else a) else a
def cLate (O : Of) (d : Dy) : Int := dfsG (fun d p => canF O d p) (fun d p => writeD O d p 63) (vMo O) (of_np O) 6 0 d row0 (-1)
theorem uns_eq {O : Of} {d : Dy} (hw : xw_Off O) : (2 ^ of_np O - 1) &&& (d.2.2.2.2.1 ^^^ 2147483647) = unsF O d := by
  have hn := hw.2.2.2.1
  apply Nat.eq_of_testBit_eq
  intro i
  unfold unsF
  rw [msk_bit]
  by_cases c : i < 31
  · rw [xt_andnot c, Nat.testBit_two_pow_sub_one]
  · rw [Nat.testBit_and, Nat.testBit_two_pow_sub_one, decide_eq_false (by omega)]; rfl
section XS55
variable {D a b o k p q s : Nat} {f g : Nat → xk_C} {w : Nat × Nat × Nat} {K : Option Value → xk_S → Prop} {O : Of} {d d2 : Dy} {mo z y : Int} {B : Bst} {row r : Nat → Int} {ds : Nat → Dy}
theorem u_search (hD : 14 ≤ D) (ho : xv_Off f o O) (hw : xw_Off O) (hp : xv_Pl f a B s q mo row ds) (hd : xv_Day f b d) (hz : xz_Day d) (hwd : xw_Day O d) (hvs : vsD d) {s' q' : Nat} (hs : s' < 2147483648) (hq : q' < 2147483648) (hB : bOK B) (hoa : o + 9 < a ∨ a + 18 ≤ o) (hba : b + 1 < a ∨ a + 18 ≤ b)
    (hpost : ∀ f' B' row' ds', xv_Pl f' a B' s' q' mo row' ds' → (∀ x, x < a ∨ a + 18 ≤ x → f' x = f x) → bstE B' (cpB O q' s' d) → bOK B' → K (some (.int (xj (cpB O q' s' d).1))) (f', w)) : xk_Cl D 53 [.ref a, .ref o, .ref b, .int (xj s'), .int (xj q')] (f, w) K := by
  rw [e53 (by omega)]
  have v1 := xv_Pl_obj (B' := B) (s' := s') (q' := q') (mo' := mo) hp rfl
  have n1 : ∀ x, x < a ∨ a + 18 ≤ x → va_up f a (.inr (6, xp_c a B s' q' mo)) x = f x := fun x hx => up_ne (by omega)
  have hd1 : xv_Day (va_up f a (.inr (6, xp_c a B s' q' mo))) b d := xv_Day_fr hd (fun x h1 h2 => n1 x (by omega))
  have hc0 := v1.2.2.2.2.1 0 (by omega)
  have hz0 := v1.2.2.2.2.2.1 0 (by omega)
  have v2 := xv_Pl_day v1 (k := 0) (d' := d) (by omega) hz
  have v3 := xv_Pl_obj (B' := (-1, B.2.1, B.2.2.1, B.2.2.2)) (s' := s') (q' := q') (mo' := mo) v2 rfl
  have n3 : ∀ x, x < a ∨ a + 18 ≤ x → va_up (xs_Day (va_up f a (.inr (6, xp_c a B s' q' mo))) (a + 4 + 2 * 0) d) a (.inr (6, xp_c a (-1, B.2.1, B.2.2.1, B.2.2.2) s' q' mo)) x = f x := fun x hx => (up_ne (by omega)).trans ((xs_Day_ne (by omega) (by omega)).trans (n1 x hx))
  have ho3 := xv_Off_fr (f' := va_up (xs_Day (va_up f a (.inr (6, xp_c a B s' q' mo))) (a + 4 + 2 * 0) d) a (.inr (6, xp_c a (-1, B.2.1, B.2.2.1, B.2.2.2) s' q' mo))) ho (fun x h1 h2 => n3 x (by omega))
  obtain ⟨k1, k2, k3, k4, k5⟩ := hB
  have sk := u_seek (s := s') (q := q') hw hs hq hoa 6 (D - 1) 0 _ w (fun v σ' => xk_B (D - 1) 53 32 [.ref a, .ref o, .ref b, .int (xj s'), .int (xj q')] (v.toList ++ []) σ' K) (-1, B.2.1, B.2.2.1, B.2.2.2) (-1, B.2.1, B.2.2.1, B.2.2.2) mo row0 row _ d (by omega) (by omega) ho3 v3 (if_pos rfl) hwd hvs (fun i hi => by omega) ⟨rfl, rfl, rfl, fun _ _ => rfl⟩ ⟨by show (-1 : Int) ≤ -1; decide, by show (-1 : Int) ≤ 1000; decide, k3, k4, k5⟩ (fun f' B' row' ds' g1 g2 g3 g4 g5 g6 => ?_)
  · have rcd : xk_RC (va_up f a (.inr (6, xp_c a B s' q' mo))) (a + 4 + 2 * 0) 0 ↔ True := by unfold xk_RC; rw [hc0.1]; exact ⟨fun _ => trivial, fun _ => rfl⟩
    have rcp : xk_RC (va_up (xs_Day (va_up f a (.inr (6, xp_c a B s' q' mo))) (a + 4 + 2 * 0) d) a (.inr (6, xp_c a (-1, B.2.1, B.2.2.1, B.2.2.2) s' q' mo))) a 6 ↔ True := by unfold xk_RC; rw [up_s]; exact ⟨fun _ => trivial, fun _ => rfl⟩
    have z0 : (0 : Int).toNat = 0 := rfl
    have ap0 : ∀ V : Value → Prop, xk_ALQ (va_up f a (.inr (6, xp_c a B s' q' mo))) (a + 3) (xj 0) V ↔ V (.ref (a + 4 + 2 * 0)) := fun V => by rw [ap_ v1 (by omega) (by omega), z0]
    rw [← up_id hp.1]
    unfold xp_c at ap0 rcd rcp sk hd1 hc0 ⊢
    simp (disch := first | omega | (simp only [List.length_cons, List.length_nil] <;> omega)) only [b53_0, b53_1, b53_2, b53_5, b53_6, b53_8, b53_11, b53_12, b53_15, b53_16, b53_17, ↓pfu, ↓gfu, List.getElem?_cons_zero, List.getElem?_cons_succ, List.length_cons, List.length_nil, List.set_cons_zero, List.set_cons_succ, true_and, and_true, Option.toList_some, Option.toList_none, List.cons_append, List.nil_append, ↓reduceIte, not_false_eq_true, not_true_eq_false, Nat.reduceAdd, xj0_01, xj1_01, xb_B, xb_True, xb_False, Option.elim_some, ↓ap0]
    rw [b53_18, rcd, true_and, s_day_copy (by omega) hc0 hd1 hz0 hz (by omega)]
    have up2 : va_up (xs_Day (va_up f a (.inr (6, [.int (xj B.1), .int (xj B.2.1), .int (xj B.2.2.1), .ref (a + 1), .int (xj s'), .int (xj q'), .ref (a + 2), .ref (a + 3), .int (xj mo)]))) (a + 4 + 2 * 0) d) a (.inr (6, [.int (xj B.1), .int (xj B.2.1), .int (xj B.2.2.1), .ref (a + 1), .int (xj s'), .int (xj q'), .ref (a + 2), .ref (a + 3), .int (xj mo)])) = xs_Day (va_up f a (.inr (6, [.int (xj B.1), .int (xj B.2.1), .int (xj B.2.2.1), .ref (a + 1), .int (xj s'), .int (xj q'), .ref (a + 2), .ref (a + 3), .int (xj mo)]))) (a + 4 + 2 * 0) d := up_id v2.1
    rw [← up2]
    simp (disch := first | omega | (simp only [List.length_cons, List.length_nil] <;> omega)) only [b53_21, b53_22, b53_23, b53_26, b53_27, b53_28, ↓pfu, ↓gfu, List.getElem?_cons_zero, List.getElem?_cons_succ, List.length_cons, List.length_nil, List.set_cons_zero, List.set_cons_succ, true_and, and_true, Option.toList_some, Option.toList_none, List.cons_append, List.nil_append, ↓reduceIte, not_false_eq_true, not_true_eq_false, Nat.reduceAdd, xj0_01, xj1_01, xb_B, xb_True, xb_False]
    rw [b53_29]
    exact sk
  · have e := bstE_t g5 (cpB_any hw rfl)
    have t := hpost f' B' row' ds' g1 (fun x hx => (g2 x hx).trans (n3 x hx)) e g6
    have e1 := e.1
    simp (disch := omega) only [b53_32, b53_33, b53_36, List.getElem?_cons_zero, List.getElem?_cons_succ, List.length_cons, List.length_nil, List.set_cons_zero, List.set_cons_succ, true_and, and_true, Option.toList_some, Option.toList_none, List.cons_append, List.nil_append, ↓reduceIte, not_false_eq_true, not_true_eq_false, Nat.reduceAdd, xj0_01, xj1_01, xb_B, xb_True, xb_False, ↓gp_0 g1, e1]
    exact t
theorem s_bestPapers (hD : 1 ≤ D) (hp : xv_Pl f a B s q mo row ds) (hB : B.2.2.1 ≤ 6) (hr : ∀ i, i < B.2.2.1 → 0 ≤ B.2.2.2 i ∧ B.2.2.2 i < 6) : xk_Cl D 56 [.ref a] (f, w) K ↔ K (some (.int (xj (bpF B.2.2.2 B.2.2.1 : Nat)))) (f, w) := by
  rw [e56 (by omega)]
  simp only [b56_0, b56_1, b56_2, b56_3]
  refine xk_down (J := Unit) (n := B.2.2.1) (P := fun r _ => xk_B (D - 1) 56 4 [.ref a, .int (xj (bpF B.2.2.2 r : Nat)), .int (xj r)] [] (f, w) K) (fun j => ?_) (fun r hrr ih j => ?_) 0 (Nat.zero_le _) ()
  · simp (disch := omega) only [b56_0, b56_1, b56_2, b56_3, b56_4, b56_5, b56_6, b56_9, b56_12, b56_13, b56_14, b56_17, b56_18, b56_21, b56_22, b56_23, b56_24, b56_27, b56_28, b56_29, b56_30, b56_31, b56_32, b56_35, b56_38, b56_39, List.getElem?_cons_zero, List.getElem?_cons_succ, List.length_cons, List.length_nil, List.set_cons_zero, List.set_cons_succ, true_and, and_true, Option.toList_some, Option.toList_none, List.cons_append, List.nil_append, ↓reduceIte, not_false_eq_true, not_true_eq_false, Nat.reduceAdd, xj0_01, xj1_01, xb_B, xb_True, xb_False, ↓xj_in, xj_nat, Int.toNat_natCast, xj_lt_t, xj_lt_f, xj_le_t, xj_le_f, xj_eq_t, xj_eq_f, xj_lt, xj_le, xj_eq, xj_add, xj_sub, xj_mul, show ¬ xj 1 = xj 0 from by decide, ↓gp_2 hp]
  · have hx := hr r hrr
    obtain ⟨p, hp2⟩ : ∃ p : Nat, B.2.2.2 r = p := ⟨(B.2.2.2 r).toNat, by omega⟩
    have e : bpF B.2.2.2 (r + 1) = bpF B.2.2.2 r ||| 2 ^ p := by
      show bpF B.2.2.2 r ||| 2 ^ (B.2.2.2 r).toNat = _
      rw [hp2, Int.toNat_natCast]
    have hl := bpF_lt (row := B.2.2.2) r (fun i hi => (hr i (by omega)).2)
    rw [b56_4, ← ih (), e]
    simp (disch := omega) only [b56_5, b56_6, b56_9, b56_12, b56_13, b56_14, b56_17, b56_18, b56_21, b56_22, b56_23, b56_24, b56_27, b56_28, b56_29, b56_30, b56_31, b56_32, b56_35, List.getElem?_cons_zero, List.getElem?_cons_succ, List.length_cons, List.length_nil, List.set_cons_zero, List.set_cons_succ, true_and, and_true, Option.toList_some, Option.toList_none, List.cons_append, List.nil_append, ↓reduceIte, not_false_eq_true, not_true_eq_false, Nat.reduceAdd, xj0_01, xj1_01, xb_B, xb_True, xb_False, ↓xj_in, xj_nat, Int.toNat_natCast, xj_lt_t, xj_lt_f, xj_le_t, xj_le_f, xj_eq_t, xj_eq_f, xj_lt, xj_le, xj_eq, xj_add, xj_sub, xj_mul, show ¬ xj 1 = xj 0 from by decide, tn_add, tn_mul, tn_sub, Int.toNat_natCast, Int.reduceToNat, ↓gp_2 hp, ↓gp_3 hp, ↓ln_I hp.2.1, ↓al_I hp.2.1, hp2, xj_shl1 (k := p) (by omega), xj_or (show bpF B.2.2.2 r < 2147483648 by omega) (p2lt (by omega : p < 31))]
    rfl
end XS55
