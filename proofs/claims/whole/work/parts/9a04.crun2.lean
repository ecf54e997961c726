/-! the class signs by rules: a run, who waits -/
theorem gD_end {O : Of} {d : Dy} {p q : Nat} : (writeD O d p q).2.2.2.2.2.2.2 = upI d.2.2.2.2.2.2.2 p (endF O d p) := rfl
/-- what is signed by a rule has its minute -/
theorem by_ends {O : Of} {ru : Ru} (hw : xw_Off O) : ∀ (n : Nat) (d : Dy) (k : Nat) (row : Nat → Int), xw_Day O d → (∀ i, i < k → 0 ≤ row i ∧ row i < of_np O ∧ 0 ≤ d.2.2.2.2.2.2.2 (row i).toNat) → xw_Day O (byF O ru n d k row).1 ∧ (byF O ru n d k row).2.1 ≤ k + n ∧ ∀ i, i < (byF O ru n d k row).2.1 → 0 ≤ (byF O ru n d k row).2.2 i ∧ (byF O ru n d k row).2.2 i < of_np O ∧ 0 ≤ (byF O ru n d k row).1.2.2.2.2.2.2.2 ((byF O ru n d k row).2.2 i).toNat := by
  intro n
  induction n with
  | zero => intro d k row h1 h2; exact ⟨h1, Nat.le_refl _, h2⟩
  | succ n ih =>
    intro d k row h1 h2
    unfold byF
    by_cases c : (nbF O d ru (of_np O)).1 < 0
    · rw [if_pos c]; exact ⟨h1, by show k ≤ k + (n + 1); omega, h2⟩
    · rw [if_neg c]
      obtain ⟨r1, r2, r3⟩ := nbF_rng (O := O) (d := d) (ru := ru) (of_np O)
      have hc := r3 (by omega)
      obtain ⟨p, hp⟩ : ∃ p : Nat, (nbF O d ru (of_np O)).1 = p := ⟨(nbF O d ru (of_np O)).1.toNat, by omega⟩
      rw [hp] at hc r2
      rw [hp, Int.toNat_natCast]
      have hw2 := xw_writeD (q := 63) hw h1 hc
      have he := can_wr hw h1 hc
      have key := ih (writeD O d p 63) (k + 1) (upI row k (p : Nat)) hw2 (fun i hi => by
        by_cases ci : i = k
        · subst ci
          rw [up_e, gD_end, Int.toNat_natCast, up_e]
          exact ⟨by omega, by omega, he.1⟩
        · rw [up_n ci, gD_end]
          have q := h2 i (by omega)
          refine ⟨q.1, q.2.1, ?_⟩
          by_cases cp : (row i).toNat = p
          · rw [cp, up_e]; exact he.1
          · rw [up_n cp]; exact q.2.2)
      exact ⟨key.1, by omega, key.2.2⟩
section XS9a04
variable {D a b o k p q n r t c v fa s sz : Nat} {f : Nat → xk_C} {w : Nat × Nat × Nat} {K : Option Value → xk_S → Prop} {x y z : Int} {g wv wd : Nat → Int64} {cs : List St} {ru : Ru} {O : Of} {d d2 d0 : Dy} {row : Nat → Int} {V : Value → Prop}
/-- what a run by a rule leaves alone -/
def frRn (a r : Nat) (f f' : Nat → xk_C) : Prop := ∀ x, (x < a ∨ a + 5 ≤ x) → x ≠ r + 3 → f' x = f x
theorem u_run (hD : 8 ≤ D) (ho : xv_Off f o O) (hw : xw_Off O) (h : xv_Rn f a d0 row sz wv) (hz0 : xz_Day d0) (hday : xv_Day f b d) (hd : xw_Day O d) (hz : xz_Day d) (hL : xL f r (flC ru)) (hst : f (r + 3) = .inl (3, 64, .inr (.inl g))) (hru : ruOK ru) (hoa : o + 9 < a ∨ a + 4 < o) (hor : o + 9 < r ∨ r + 3 < o) (har : a + 4 < r ∨ r + 3 < a) (hab : a + 4 < b ∨ b + 1 < a) (hpost : ∀ f' row' wv' g', frRn a r f f' → xv_Rn f' a (byF O ru 6 d 0 row0).1 row' (byF O ru 6 d 0 row0).2.1 wv' → xz_Day (byF O ru 6 d 0 row0).1 → f' (r + 3) = .inl (3, 64, .inr (.inl g')) → (∀ i, i < (byF O ru 6 d 0 row0).2.1 → row' i = (byF O ru 6 d 0 row0).2.2 i) → K none (f', w)) : xk_Cl D 79 [.ref a, .ref o, .ref b, .ref r] (f, w) K := by
  rw [e79 (by omega)]
  have hn := hw.2.2.2.1
  have loop : ∀ (m k : Nat) (d1 : Dy) (rw0 row1 : Nat → Int) (f1 : Nat → xk_C) (wv1 g1 : Nat → Int64) (l5 : Value), k + m = 6 → frRn a r f f1 → xv_Rn f1 a d1 row1 k wv1 → xw_Day O d1 → xz_Day d1 → f1 (r + 3) = .inl (3, 64, .inr (.inl g1)) → (∀ i, i < k → row1 i = rw0 i) → byF O ru m d1 k rw0 = byF O ru 6 d 0 row0 → xk_B (D - 1) 79 16 [.ref a, .ref o, .ref b, .ref r, .int (xj (k : Nat)), l5] [] (f1, w) K := by
    intro m
    induction m with
    | zero =>
      intro k d1 rw0 row1 f1 wv1 g1 l5 e1 fr h1 hd1 hz1 k2 hr hb
      have hk : k = 6 := by omega
      have hb : (d1, k, rw0) = byF O ru 6 d 0 row0 := hb
      rw [← hb] at hpost
      have po := hpost f1 row1 wv1 g1 fr h1 hz1 k2 hr
      subst hk
      simp (disch := omega) only [b79_16, b79_18, b79_19, b79_22, b79_23, b79_82, List.getElem?_cons_zero, List.getElem?_cons_succ, List.length_cons, List.length_nil, List.set_cons_zero, List.set_cons_succ, true_and, and_true, Option.toList_some, Option.toList_none, List.cons_append, List.nil_append, ↓reduceIte, not_false_eq_true, not_true_eq_false, Nat.reduceAdd, xj0_01, xj1_01, xb_B, xb_True, xb_False, ↓gn_1 h1, ↓ln_I h1.2.2.1, ↓xj_in, xj_nat, Int.toNat_natCast, xj_lt_t, xj_lt_f, xj_le_t, xj_le_f, xj_eq_t, xj_eq_f, xj_lt, xj_le, xj_eq, xj_add, xj_sub, xj_mul, show ¬ xj 1 = xj 0 from by decide]
      exact po
    | succ m ih =>
      intro k d1 rw0 row1 f1 wv1 g1 l5 e1 fr h1 hd1 hz1 k2 hr hb
      have ho1 : xv_Off f1 o O := xv_Off_fr ho (fun x q1 q2 => fr x (by omega) (by omega))
      have hL1 : xL f1 r (flC ru) := xL_fr hL (fun x q1 q2 => fr x (by omega) (by omega))
      have hb : (if (nbF O d1 ru (of_np O)).1 < 0 then (d1, k, rw0) else byF O ru m (writeD O d1 (nbF O d1 ru (of_np O)).1.toNat 63) (k + 1) (upI rw0 k (nbF O d1 ru (of_np O)).1)) = byF O ru 6 d 0 row0 := hb
      rw [b79_16]
      simp (disch := omega) only [b79_18, b79_19, b79_22, b79_23, b79_26, b79_27, b79_28, List.getElem?_cons_zero, List.getElem?_cons_succ, List.length_cons, List.length_nil, List.set_cons_zero, List.set_cons_succ, true_and, and_true, Option.toList_some, Option.toList_none, List.cons_append, List.nil_append, ↓reduceIte, not_false_eq_true, not_true_eq_false, Nat.reduceAdd, xj0_01, xj1_01, xb_B, xb_True, xb_False, ↓gn_1 h1, ↓ln_I h1.2.2.1, ↓xj_in, xj_nat, Int.toNat_natCast, xj_lt_t, xj_lt_f, xj_le_t, xj_le_f, xj_eq_t, xj_eq_f, xj_lt, xj_le, xj_eq, xj_add, xj_sub, xj_mul, show ¬ xj 1 = xj 0 from by decide]
      rw [b79_29, rc_Rn h1, true_and]
      refine u_choose (by omega) ho1 hw h1 hd1 hL1 k2 hru hoa hor har (fun f2 wv2 g2 fr2 q1 q2 => ?_)
      have en : ∀ x, (x < a ∨ a + 5 ≤ x) → x ≠ r + 3 → f2 x = f x := fun x s1 s2 => (fr2 x (by omega) s2).trans (fr x s1 s2)
      have h2 : xv_Rn f2 a d1 row1 k wv2 := ⟨(fr2 a (by omega) (by omega)).trans h1.1, xv_Day_fr h1.2.1 (fun x s1 s2 => fr2 x (by omega) (by omega)), (fr2 _ (by omega) (by omega)).trans h1.2.2.1, q1⟩
      have ho2 : xv_Off f2 o O := xv_Off_fr ho (fun x s1 s2 => en x (by omega) (by omega))
      obtain ⟨r1, r2, r3⟩ := nbF_rng (O := O) (d := d1) (ru := ru) (of_np O)
      by_cases c : (nbF O d1 ru (of_np O)).1 < 0
      · have e0 : (nbF O d1 ru (of_np O)).1 = -1 := by omega
        rw [if_pos c] at hb
        rw [← hb] at hpost
        have po := hpost f2 row1 wv2 g2 en h2 hz1 q2 hr
        rw [e0]
        simp (disch := omega) only [b79_32, b79_34, b79_36, b79_37, b79_56, List.getElem?_cons_zero, List.getElem?_cons_succ, List.length_cons, List.length_nil, List.set_cons_zero, List.set_cons_succ, true_and, and_true, Option.toList_some, Option.toList_none, List.cons_append, List.nil_append, ↓reduceIte, not_false_eq_true, not_true_eq_false, Nat.reduceAdd, xj0_01, xj1_01, xb_B, xb_True, xb_False, ↓xj_in, xj_nat, Int.toNat_natCast, xj_lt_t, xj_lt_f, xj_le_t, xj_le_f, xj_eq_t, xj_eq_f, xj_lt, xj_le, xj_eq, xj_add, xj_sub, xj_mul, show ¬ xj 1 = xj 0 from by decide]
        exact po
      · have hc := r3 (by omega)
        obtain ⟨p, hp⟩ : ∃ p : Nat, (nbF O d1 ru (of_np O)).1 = p := ⟨(nbF O d1 ru (of_np O)).1.toNat, by omega⟩
        rw [if_neg c, hp, Int.toNat_natCast] at hb
        rw [hp] at hc r2 ⊢
        have he := can_wr hw hd1 hc
        have wr : ∀ K', xk_Cl (D - 1) 10 [.ref (a + 1), .ref o, .int (xj (p : Nat)), .int (xj 63)] (f2, w) K' ↔ K' (some (.int (xj (endF O d1 p)))) (xs_Day f2 (a + 1) (writeD O d1 p 63), w) := fun K' => s_write (q := 63) (by omega) ho2 hw h2.2.1 hd1 (by omega) hc (by decide)
        have h3 : xv_Rn (xs_Day f2 (a + 1) (writeD O d1 p 63)) a (writeD O d1 p 63) row1 k wv2 := ⟨(xs_Day_ne (by omega) (by omega)).trans h2.1, xs_Day_v _ _ _, (xs_Day_ne (by omega) (by omega)).trans h2.2.2.1, (xs_Day_ne (by omega) (by omega)).trans h2.2.2.2⟩
        simp (disch := omega) only [b79_32, b79_34, b79_36, b79_37, b79_40, b79_41, b79_44, b79_45, b79_47, b79_49, b79_52, b79_53, List.getElem?_cons_zero, List.getElem?_cons_succ, List.length_cons, List.length_nil, List.set_cons_zero, List.set_cons_succ, true_and, and_true, Option.toList_some, Option.toList_none, List.cons_append, List.nil_append, ↓reduceIte, not_false_eq_true, not_true_eq_false, Nat.reduceAdd, xj0_01, xj1_01, xb_B, xb_True, xb_False, ↓gn_0 h2, rc_Day h2.2.1, wr, ↓xj_in, xj_nat, Int.toNat_natCast, xj_lt_t, xj_lt_f, xj_le_t, xj_le_f, xj_eq_t, xj_eq_f, xj_lt, xj_le, xj_eq, xj_add, xj_sub, xj_mul, show ¬ xj 1 = xj 0 from by decide]
        have e3 : ∀ x, (x < a ∨ a + 5 ≤ x) → x ≠ r + 3 → xs_Day f2 (a + 1) (writeD O d1 p 63) x = f x := fun x s1 s2 => by rw [xs_Day_ne (by omega) (by omega)]; exact en x s1 s2
        have k3 : xs_Day f2 (a + 1) (writeD O d1 p 63) (r + 3) = .inl (3, 64, .inr (.inl g2)) := (xs_Day_ne (by omega) (by omega)).trans q2
        generalize xs_Day f2 (a + 1) (writeD O d1 p 63) = f3 at *
        have as3 : ∀ G, xk_AS f3 (a + 3) (xj (k : Nat)) (xj (p : Nat)) G ↔ G (va_up f3 (a + 3) (xa_I 6 (upI row1 k (p : Nat)))) := fun G => as_I h3.2.2.1 (by omega) (by omega) (by decide)
        have e4 : ∀ x, x ≠ a + 3 → va_up f3 (a + 3) (xa_I 6 (upI row1 k (p : Nat))) x = f3 x := fun x hx => up_ne hx
        have r4 : va_up f3 (a + 3) (xa_I 6 (upI row1 k (p : Nat))) (a + 3) = xa_I 6 (upI row1 k (p : Nat)) := up_s _ _ _
        have g30 : ∀ V, xk_GF f3 a 9 1 V ↔ V (.ref (a + 3)) := fun V => gf_R h3.1 rfl
        generalize va_up f3 (a + 3) (xa_I 6 (upI row1 k (p : Nat))) = f4 at *
        have o4 : f4 a = .inr (9, [.ref (a + 1), .ref (a + 3), .int (xj (k : Nat)), .ref (a + 4)]) := (e4 a (by omega)).trans h3.1
        have g42 : ∀ V, xk_GF f4 a 9 2 V ↔ V (.int (xj (k : Nat))) := fun V => gf_R o4 rfl
        have p42 : ∀ v G, xk_PF f4 a 9 2 v G ↔ G (va_up f4 a (.inr (9, [.ref (a + 1), .ref (a + 3), v, .ref (a + 4)]))) := fun v G => pf_R o4 (by show 2 < 4; decide)
        have ek : ((k : Nat) : Int) + 1 = ((k + 1 : Nat) : Int) := by omega
        have e5 : ∀ x, x ≠ a → va_up f4 a (.inr (9, [.ref (a + 1), .ref (a + 3), .int (xj (k + 1 : Nat)), .ref (a + 4)])) x = f4 x := fun x hx => up_ne hx
        have po := ih (k + 1) (writeD O d1 p 63) (upI rw0 k (p : Nat)) (upI row1 k (p : Nat)) (va_up f4 a (.inr (9, [.ref (a + 1), .ref (a + 3), .int (xj (k + 1 : Nat)), .ref (a + 4)]))) wv2 g2 (.int (xj (p : Nat))) (by omega) (fun x s1 s2 => by rw [e5 x (by omega), e4 x (by omega)]; exact e3 x s1 s2) ⟨up_s _ _ _, xv_Day_fr h3.2.1 (fun x s1 s2 => by rw [e5 x (by omega), e4 x (by omega)]), (e5 _ (by omega)).trans r4, by rw [e5 _ (by omega), e4 _ (by omega)]; exact h3.2.2.2⟩ (xw_writeD hw hd1 hc) (xz_writeD hz1 (by omega)) (by rw [e5 _ (by omega), e4 _ (by omega)]; exact k3) (fun i hi => by
          by_cases ci : i = k
          · rw [ci, up_e, up_e]
          · rw [up_n ci, up_n ci]; exact hr i (by omega)) hb
        simp (disch := omega) only [b79_57, b79_58, b79_61, b79_63, b79_65, b79_66, b79_67, b79_68, b79_71, b79_72, b79_73, b79_76, b79_79, List.getElem?_cons_zero, List.getElem?_cons_succ, List.length_cons, List.length_nil, List.set_cons_zero, List.set_cons_succ, true_and, and_true, Option.toList_some, Option.toList_none, List.cons_append, List.nil_append, ↓reduceIte, not_false_eq_true, not_true_eq_false, Nat.reduceAdd, xj0_01, xj1_01, xb_B, xb_True, xb_False, ↓g30, ↓as3, ↓g42, ↓p42, ↓xj_in, xj_nat, Int.toNat_natCast, xj_lt_t, xj_lt_f, xj_le_t, xj_le_f, xj_eq_t, xj_eq_f, xj_lt, xj_le, xj_eq, xj_add, xj_sub, xj_mul, show ¬ xj 1 = xj 0 from by decide, ek]
        exact po
  have dc := fun K' => s_day_copy (D := D - 1) (w := w) (K := K') (by omega) h.2.1 hday hz0 hz (by omega)
  have h1 : xv_Rn (xs_Day f (a + 1) d) a d row sz wv := ⟨(xs_Day_ne (by omega) (by omega)).trans h.1, xs_Day_v _ _ _, (xs_Day_ne (by omega) (by omega)).trans h.2.2.1, (xs_Day_ne (by omega) (by omega)).trans h.2.2.2⟩
  have e1 : ∀ x, (x < a ∨ a + 5 ≤ x) → xs_Day f (a + 1) d x = f x := fun x s1 => xs_Day_ne (by omega) (by omega)
  generalize xs_Day f (a + 1) d = f1 at *
  have p12 : ∀ v G, xk_PF f1 a 9 2 v G ↔ G (va_up f1 a (.inr (9, [.ref (a + 1), .ref (a + 3), v, .ref (a + 4)]))) := fun v G => pf_R h1.1 (by show 2 < 4; decide)
  have e5 : ∀ x, x ≠ a → va_up f1 a (.inr (9, [.ref (a + 1), .ref (a + 3), .int (xj 0), .ref (a + 4)])) x = f1 x := fun x hx => up_ne hx
  have l0 := loop 6 0 d row0 row (va_up f1 a (.inr (9, [.ref (a + 1), .ref (a + 3), .int (xj 0), .ref (a + 4)]))) wv g xk_dd (by omega) (fun x s1 s2 => by rw [e5 x (by omega)]; exact e1 x s1) ⟨up_s _ _ _, xv_Day_fr h1.2.1 (fun x s1 s2 => e5 x (by omega)), (e5 _ (by omega)).trans h1.2.2.1, (e5 _ (by omega)).trans h1.2.2.2⟩ hd hz (by rw [e5 _ (by omega), e1 _ (by omega)]; exact hst) (fun i hi => absurd hi (Nat.not_lt_zero i)) rfl
  simp (disch := omega) only [b79_0, b79_1, b79_4, b79_5, b79_8, b79_9, b79_10, b79_13, b79_14, List.getElem?_cons_zero, List.getElem?_cons_succ, List.length_cons, List.length_nil, List.set_cons_zero, List.set_cons_succ, true_and, and_true, Option.toList_some, Option.toList_none, List.cons_append, List.nil_append, ↓reduceIte, not_false_eq_true, not_true_eq_false, Nat.reduceAdd, xj0_01, xj1_01, xb_B, xb_True, xb_False, ↓gn_0 h, rc_Day h.2.1, dc, ↓p12]
  exact l0
/-- who waits: the class's sum -/
theorem s_waitOf {tr : Dy × Nat × (Nat → Int)} (hD : 2 ≤ D) (ho : xv_Off f o O) (hw : xw_Off O) (h : xv_Rn f a tr.1 row tr.2.1 wv) (hrow : ∀ i, i < tr.2.1 → row i = tr.2.2 i) (hs : tr.2.1 ≤ 6) (htr : ∀ i, i < tr.2.1 → 0 ≤ tr.2.2 i ∧ tr.2.2 i < of_np O ∧ 0 ≤ tr.1.2.2.2.2.2.2.2 (tr.2.2 i).toNat ∧ tr.1.2.2.2.2.2.2.2 (tr.2.2 i).toNat ≤ 9999) (hm : d.1 = x) (h1 : 0 ≤ x) (h2 : x ≤ 9999) (hc1 : -2147483648 ≤ z) (hc2 : z ≤ 2147483647) : xk_Cl D 82 [.ref a, .ref o, .int (xj z), .int (xj x)] (f, w) K ↔ K (some (.int (xj (waAns O d tr z)))) (f, w) := by
  rw [e82 (by omega)]
  have hn := hw.2.2.2.1
  have hnc := hw.2.1
  simp (disch := omega) only [b82_0, b82_1, b82_3, b82_4, b82_6, b82_7, List.getElem?_cons_zero, List.getElem?_cons_succ, List.length_cons, List.length_nil, List.set_cons_zero, List.set_cons_succ, true_and, and_true, Option.toList_some, Option.toList_none, List.cons_append, List.nil_append, ↓reduceIte, not_false_eq_true, not_true_eq_false, Nat.reduceAdd, xj0_01, xj1_01, xb_B, xb_True, xb_False]
  -- what the model's sums are like
  have rng : ∀ k : Nat, k ≤ tr.2.1 → -1 ≤ (waF O tr z k).1 ∧ (waF O tr z k).1 ≤ 9999 ∧ 0 ≤ (waF O tr z k).2 ∧ (waF O tr z k).2 ≤ 20 * k := by
    intro k
    induction k with
    | zero => intro _; exact ⟨by show (-1 : Int) ≤ -1; omega, by show (-1 : Int) ≤ 9999; omega, by show (0 : Int) ≤ 0; omega, by show (0 : Int) ≤ 20 * ((0 : Nat) : Int); omega⟩
    | succ k ih =>
      intro hk
      have q := ih (by omega)
      have q2 := htr k (by omega)
      have q3 := hw.2.2.2.2.2.2 (tr.2.2 k).toNat (by omega)
      unfold waF
      split
      · show -1 ≤ tr.1.2.2.2.2.2.2.2 (tr.2.2 k).toNat ∧ tr.1.2.2.2.2.2.2.2 (tr.2.2 k).toNat ≤ 9999 ∧ 0 ≤ (waF O tr z k).2 + of_sk O (tr.2.2 k).toNat ∧ (waF O tr z k).2 + of_sk O (tr.2.2 k).toNat ≤ _
        omega
      · omega
  have key := xk_down (J := Value) (n := tr.2.1) (P := fun k l7 => xk_B (D - 1) 82 9 [.ref a, .ref o, .int (xj z), .int (xj x), .int (xj (if (waF O tr z k).1 < 0 then x else (waF O tr z k).1)), .int (xj (waF O tr z k).2), .int (xj (k : Nat)), l7] [] (f, w) K) (Q := K (some (.int (xj (waAns O d tr z)))) (f, w)) (fun l7 => ?_) (fun k hk ih l7 => ?_) 0 (Nat.zero_le _) xk_dd
  · have e0 : (if (waF O tr z 0).1 < 0 then x else (waF O tr z 0).1) = x := if_pos (by show (-1 : Int) < 0; decide)
    rw [e0] at key
    exact key
  · have q := rng tr.2.1 (Nat.le_refl _)
    have e : waAns O d tr z = (if (waF O tr z tr.2.1).1 < 0 then x else (waF O tr z tr.2.1).1) - x - (waF O tr z tr.2.1).2 := by
      unfold waAns
      rw [hm]
      by_cases c : (waF O tr z tr.2.1).1 < 0
      · rw [if_pos c, if_pos c]
        -- none of theirs: no strokes
        have none0 : ∀ k : Nat, k ≤ tr.2.1 → (waF O tr z k).1 < 0 → (waF O tr z k).2 = 0 := by
          intro k
          induction k with
          | zero => intro _ _; rfl
          | succ k ih =>
            intro hk
            have q2 := htr k (by omega)
            unfold waF
            split
            · intro q3; have q3 : tr.1.2.2.2.2.2.2.2 (tr.2.2 k).toNat < 0 := q3; omega
            · exact ih (by omega)
        have := none0 tr.2.1 (Nat.le_refl _) c
        omega
      · rw [if_neg c, if_neg c]
    rw [e]
    generalize (if (waF O tr z tr.2.1).1 < 0 then x else (waF O tr z tr.2.1).1) = m1 at *
    simp (disch := omega) only [b82_9, b82_11, b82_12, b82_15, b82_87, b82_89, b82_90, b82_91, b82_93, b82_94, List.getElem?_cons_zero, List.getElem?_cons_succ, List.length_cons, List.length_nil, List.set_cons_zero, List.set_cons_succ, true_and, and_true, Option.toList_some, Option.toList_none, List.cons_append, List.nil_append, ↓reduceIte, not_false_eq_true, not_true_eq_false, Nat.reduceAdd, xj0_01, xj1_01, xb_B, xb_True, xb_False, ↓gn_2 h, ↓xj_in, xj_nat, Int.toNat_natCast, xj_lt_t, xj_lt_f, xj_le_t, xj_le_f, xj_eq_t, xj_eq_f, xj_lt, xj_le, xj_eq, xj_add, xj_sub, xj_mul, show ¬ xj 1 = xj 0 from by decide]
  · have q := rng k (by omega)
    have q2 := htr k hk
    have q3 := hw.2.2.2.2.2.2 (tr.2.2 k).toNat (by omega)
    have hrk := hrow k hk
    obtain ⟨p, hp⟩ : ∃ p : Nat, tr.2.2 k = p := ⟨(tr.2.2 k).toNat, by omega⟩
    have ws : waF O tr z (k + 1) = if of_ow O (tr.2.2 k).toNat = z then (tr.1.2.2.2.2.2.2.2 (tr.2.2 k).toNat, (waF O tr z k).2 + of_sk O (tr.2.2 k).toNat) else waF O tr z k := rfl
    rw [hp, Int.toNat_natCast] at ws q2 q3
    have hrk2 : row k = p := hrk.trans hp
    have hday := h.2.1
    have ad : ∀ F, xk_AL f (a + 1 + 1) 0 (xj (p : Nat)) F ↔ F (xj (tr.1.2.2.2.2.2.2.2 p)) := fun F => al_I hday.2 (by omega) (by omega) (by decide)
    have hpp := fun K' => s_hasPaper (D := D - 1) (K := K') (w := w) (z := (p : Nat)) (by omega) ho hw (by omega) (by omega)
    have xw : ∀ i, @xb (0 ≤ ((p : Nat) : Int) ∧ ((p : Nat) : Int) < of_np O) i = xj 1 := fun i => xb_T ⟨by omega, by omega⟩
    have ek : ((k : Nat) : Int) + 1 = ((k + 1 : Nat) : Int) := by omega
    rw [b82_9]
    by_cases c : of_ow O p = z
    · rw [if_pos c] at ws
      have i1 := ih (.int (xj (p : Nat)))
      rw [ws] at i1
      have i2 : (if (tr.1.2.2.2.2.2.2.2 p, (waF O tr z k).2 + of_sk O p).1 < 0 then x else (tr.1.2.2.2.2.2.2.2 p, (waF O tr z k).2 + of_sk O p).1) = tr.1.2.2.2.2.2.2.2 p := if_neg (by show ¬ tr.1.2.2.2.2.2.2.2 p < 0; omega)
      rw [i2] at i1
      rw [← i1]
      simp (disch := omega) only [b82_11, b82_12, b82_15, b82_18, b82_20, b82_21, b82_24, b82_25, b82_28, b82_29, b82_32, b82_34, b82_35, b82_37, b82_38, b82_40, b82_43, b82_46, b82_47, b82_50, b82_52, b82_53, b82_54, b82_57, b82_58, b82_61, b82_64, b82_66, b82_67, b82_69, b82_71, b82_72, b82_75, b82_77, b82_78, b82_79, b82_81, b82_84, List.getElem?_cons_zero, List.getElem?_cons_succ, List.length_cons, List.length_nil, List.set_cons_zero, List.set_cons_succ, true_and, and_true, Option.toList_some, Option.toList_none, List.cons_append, List.nil_append, ↓reduceIte, not_false_eq_true, not_true_eq_false, Nat.reduceAdd, xj0_01, xj1_01, xb_B, xb_True, xb_False, ↓go_0 ho, ↓go_1 ho, ↓go_2 ho, ↓go_3 ho, ↓go_4 ho, ↓go_5 ho, ↓go_6 ho, ↓go_7 ho, ↓go_8 ho, ↓go_9 ho, ↓go_10 ho, ↓go_11 ho, ↓go_12 ho, ↓go_13 ho, ↓go_14 ho, ↓go_15 ho, ↓ao_1 ho, ↓ao_2 ho, ↓ao_3 ho, ↓ao_4 ho, ↓ao_5 ho, ↓ao_6 ho, ↓ao_7 ho, ↓ao_8 ho, ↓ao_9 ho, ↓gn_0 h, ↓gn_1 h, ↓gn_2 h, ↓gv_7 hday, ↓ln_I h.2.2.1, ↓al_I h.2.2.1, hrk2, rc_Off ho, hpp, xw, ↓ad, ↓xj_in, xj_nat, Int.toNat_natCast, xj_lt_t, xj_lt_f, xj_le_t, xj_le_f, xj_eq_t, xj_eq_f, xj_lt, xj_le, xj_eq, xj_add, xj_sub, xj_mul, show ¬ xj 1 = xj 0 from by decide, c, ek]
    · rw [if_neg c] at ws
      have i1 := ih (.int (xj (p : Nat)))
      rw [ws] at i1
      rw [← i1]
      simp (disch := omega) only [b82_11, b82_12, b82_15, b82_18, b82_20, b82_21, b82_24, b82_25, b82_28, b82_29, b82_32, b82_34, b82_35, b82_37, b82_38, b82_40, b82_43, b82_46, b82_47, b82_50, b82_52, b82_53, b82_54, b82_57, b82_58, b82_61, b82_64, b82_66, b82_67, b82_69, b82_71, b82_72, b82_75, b82_77, b82_78, b82_79, b82_81, b82_84, List.getElem?_cons_zero, List.getElem?_cons_succ, List.length_cons, List.length_nil, List.set_cons_zero, List.set_cons_succ, true_and, and_true, Option.toList_some, Option.toList_none, List.cons_append, List.nil_append, ↓reduceIte, not_false_eq_true, not_true_eq_false, Nat.reduceAdd, xj0_01, xj1_01, xb_B, xb_True, xb_False, ↓go_0 ho, ↓go_1 ho, ↓go_2 ho, ↓go_3 ho, ↓go_4 ho, ↓go_5 ho, ↓go_6 ho, ↓go_7 ho, ↓go_8 ho, ↓go_9 ho, ↓go_10 ho, ↓go_11 ho, ↓go_12 ho, ↓go_13 ho, ↓go_14 ho, ↓go_15 ho, ↓ao_1 ho, ↓ao_2 ho, ↓ao_3 ho, ↓ao_4 ho, ↓ao_5 ho, ↓ao_6 ho, ↓ao_7 ho, ↓ao_8 ho, ↓ao_9 ho, ↓gn_0 h, ↓gn_1 h, ↓gn_2 h, ↓gv_7 hday, ↓ln_I h.2.2.1, ↓al_I h.2.2.1, hrk2, rc_Off ho, hpp, xw, ↓xj_in, xj_nat, Int.toNat_natCast, xj_lt_t, xj_lt_f, xj_le_t, xj_le_f, xj_eq_t, xj_eq_f, xj_lt, xj_le, xj_eq, xj_add, xj_sub, xj_mul, show ¬ xj 1 = xj 0 from by decide, ek]
end XS9a04
