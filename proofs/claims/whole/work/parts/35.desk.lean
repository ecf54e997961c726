/-! a desk: office at s+1, day at s+11, logs at s+13 -/
abbrev Dk : Type := Of × Dy × Lg × Int
def xd_c (s : Nat) (x : Int) : xk_C := .inr (1, [.ref (s + 1), .ref (s + 11), .ref (s + 13), .int (xj x)])
def xv_Dk (f : Nat → xk_C) (s : Nat) (S : Dk) : Prop := f s = xd_c s S.2.2.2 ∧ xv_Off f (s + 1) S.1 ∧ xv_Day f (s + 11) S.2.1 ∧ xv_Lg f (s + 13) S.2.2.1
def xw_Dk (S : Dk) : Prop := xw_Off S.1 ∧ xz_Off S.1 ∧ xw_Day S.1 S.2.1 ∧ xz_Day S.2.1 ∧ xw_Lg S.1 S.2.2.1 ∧ xz_Lg S.2.2.1 ∧ 0 ≤ S.2.2.2 ∧ S.2.2.2 ≤ 2147483647
def xs_Dk (f : Nat → xk_C) (s : Nat) (S : Dk) : Nat → xk_C := va_up (xs (xs_Day (xs f (s + 1) (xl_Off (s + 1) S.1)) (s + 11) S.2.1) (s + 13) (xc_Lg (s + 13) S.2.2.1)) s (xd_c s S.2.2.2)
theorem xs_Dk_ne {f : Nat → xk_C} {s x : Nat} {S : Dk} (h : x < s ∨ s + 17 ≤ x) : xs_Dk f s S x = f x := by
  unfold xs_Dk
  rw [up_ne (by omega), xs_ne (by show x < s + 13 ∨ s + 13 + 4 ≤ x; omega), xs_Day_ne (by omega) (by omega), xs_ne (by show x < s + 1 ∨ s + 1 + 10 ≤ x; omega)]
theorem xv_Lg_fr {f f' : Nat → xk_C} {a : Nat} {L : Lg} (h : xv_Lg f a L) (hf : ∀ x, a ≤ x → x < a + 4 → f' x = f x) : xv_Lg f' a L := ⟨(hf _ (by omega) (by omega)).trans h.1, (hf _ (by omega) (by omega)).trans h.2.1, (hf _ (by omega) (by omega)).trans h.2.2.1, (hf _ (by omega) (by omega)).trans h.2.2.2⟩
theorem xv_Dk_fr {f f' : Nat → xk_C} {s : Nat} {S : Dk} (h : xv_Dk f s S) (hf : ∀ x, s ≤ x → x < s + 17 → f' x = f x) : xv_Dk f' s S := ⟨(hf _ (by omega) (by omega)).trans h.1, xv_Off_fr h.2.1 (fun x h1 h2 => hf x (by omega) (by omega)), xv_Day_fr h.2.2.1 (fun x h1 h2 => hf x (by omega) (by omega)), xv_Lg_fr h.2.2.2 (fun x h1 h2 => hf x (by omega) (by omega))⟩
theorem xv_Dk_xs (f : Nat → xk_C) (s : Nat) (S : Dk) : xv_Dk (xs_Dk f s S) s S := by
  unfold xs_Dk
  refine ⟨up_s _ _ _, ?_, ?_, ?_⟩
  · exact xv_Off_fr (xv_Off_xs (f := f)) (fun x h1 h2 => by rw [up_ne (by omega), xs_ne (by omega), xs_Day_ne (by omega) (by omega)])
  · exact xv_Day_fr (xs_Day_v (xs f (s + 1) (xl_Off (s + 1) S.1)) (s + 11) S.2.1) (fun x h1 h2 => by rw [up_ne (by omega), xs_ne (by omega)])
  · exact xv_Lg_fr (xv_Lg_xs (f := xs_Day (xs f (s + 1) (xl_Off (s + 1) S.1)) (s + 11) S.2.1)) (fun x h1 h2 => by rw [up_ne (by omega)])
section XS35
variable {D a b h o r s k p q : Nat} {f g : Nat → xk_C} {w : Nat × Nat × Nat} {K : Option Value → xk_S → Prop} {S S2 : Dk} {z y : Int} {V : Value → Prop}
theorem gk_0 (hh : f s = xd_c s z) : xk_GF f s 1 0 V ↔ V (.ref (s + 1)) := gf_R hh rfl
theorem gk_1 (hh : f s = xd_c s z) : xk_GF f s 1 1 V ↔ V (.ref (s + 11)) := gf_R hh rfl
theorem gk_2 (hh : f s = xd_c s z) : xk_GF f s 1 2 V ↔ V (.ref (s + 13)) := gf_R hh rfl
theorem gk_3 (hh : f s = xd_c s z) : xk_GF f s 1 3 V ↔ V (.int (xj z)) := gf_R hh rfl
theorem s_copyDk (hD : 3 ≤ D) (hs : xv_Dk f s S) (hb : xv_Dk f b S2) (hw : xw_Dk S) (hw2 : xw_Dk S2) (hdis : s + 16 < b ∨ b + 16 < s) : xk_Cl D 13 [.ref s, .ref b] (f, w) K ↔ K none (xs_Dk f s S2, w) := by
  rw [e13 (by omega)]
  have rco : ∀ {f : Nat → xk_C} {o : Nat} {O : Of}, xv_Off f o O → (xk_RC f o 4 ↔ True) := fun ho => by unfold xk_RC; rw [ho.at.1]; exact ⟨fun _ => trivial, fun _ => rfl⟩
  have rcd : ∀ {f : Nat → xk_C} {a : Nat} {d : Dy}, xv_Day f a d → (xk_RC f a 0 ↔ True) := fun hd => by unfold xk_RC; rw [hd.1]; exact ⟨fun _ => trivial, fun _ => rfl⟩
  have rcl : ∀ {f : Nat → xk_C} {a : Nat} {L : Lg}, xv_Lg f a L → (xk_RC f a 3 ↔ True) := fun hl => by unfold xk_RC; rw [hl.1]; exact ⟨fun _ => trivial, fun _ => rfl⟩
  obtain ⟨w1, w2, w3, w4, w5, w6, w7⟩ := hw
  obtain ⟨v1, v2, v3, v4, v5, v6, v7⟩ := hw2
  simp (disch := omega) only [b13_0, b13_1, b13_4, b13_5, List.getElem?_cons_zero, List.getElem?_cons_succ, List.length_cons, List.length_nil, List.set_cons_zero, List.set_cons_succ, true_and, and_true, Option.toList_some, Option.toList_none, List.cons_append, List.nil_append, ↓reduceIte, not_false_eq_true, not_true_eq_false, Nat.reduceAdd, xj0_01, xj1_01, xb_B, xb_True, xb_False, ↓gk_0 hs.1, ↓gk_0 hb.1]
  rw [b13_8, rco hs.2.1, true_and, s_copyOff (by omega) hs.2.1 hb.2.1 w2 v2 v1 (by omega)]
  have hs1 : ∀ x, x < s + 1 ∨ s + 11 ≤ x → xs f (s + 1) (xl_Off (s + 1) S2.1) x = f x := fun x hx => xs_ne (by show x < s + 1 ∨ s + 1 + 10 ≤ x; omega)
  have hb1 : xv_Dk (xs f (s + 1) (xl_Off (s + 1) S2.1)) b S2 := xv_Dk_fr hb (fun x h1 h2 => hs1 x (by omega))
  have hsc := (hs1 s (by omega)).trans hs.1
  have hsd : xv_Day (xs f (s + 1) (xl_Off (s + 1) S2.1)) (s + 11) S.2.1 := xv_Day_fr hs.2.2.1 (fun x h1 h2 => hs1 x (by omega))
  have hsl : xv_Lg (xs f (s + 1) (xl_Off (s + 1) S2.1)) (s + 13) S.2.2.1 := xv_Lg_fr hs.2.2.2 (fun x h1 h2 => hs1 x (by omega))
  simp (disch := omega) only [b13_11, b13_12, b13_15, b13_16, List.getElem?_cons_zero, List.getElem?_cons_succ, List.length_cons, List.length_nil, List.set_cons_zero, List.set_cons_succ, true_and, and_true, Option.toList_some, Option.toList_none, List.cons_append, List.nil_append, ↓reduceIte, not_false_eq_true, not_true_eq_false, Nat.reduceAdd, xj0_01, xj1_01, xb_B, xb_True, xb_False, ↓gk_1 hsc, ↓gk_1 hb1.1]
  rw [b13_19, rcd hsd, true_and, s_day_copy (by omega) hsd hb1.2.2.1 w4 v4 (by omega)]
  have hs2 : ∀ x, x < s + 11 ∨ s + 13 ≤ x → xs_Day (xs f (s + 1) (xl_Off (s + 1) S2.1)) (s + 11) S2.2.1 x = xs f (s + 1) (xl_Off (s + 1) S2.1) x := fun x hx => xs_Day_ne (by omega) (by omega)
  have hb2 : xv_Dk (xs_Day (xs f (s + 1) (xl_Off (s + 1) S2.1)) (s + 11) S2.2.1) b S2 := xv_Dk_fr hb1 (fun x h1 h2 => hs2 x (by omega))
  have hsc2 := (hs2 s (by omega)).trans hsc
  have hsl2 : xv_Lg (xs_Day (xs f (s + 1) (xl_Off (s + 1) S2.1)) (s + 11) S2.2.1) (s + 13) S.2.2.1 := xv_Lg_fr hsl (fun x h1 h2 => hs2 x (by omega))
  simp (disch := omega) only [b13_22, b13_23, b13_26, b13_27, List.getElem?_cons_zero, List.getElem?_cons_succ, List.length_cons, List.length_nil, List.set_cons_zero, List.set_cons_succ, true_and, and_true, Option.toList_some, Option.toList_none, List.cons_append, List.nil_append, ↓reduceIte, not_false_eq_true, not_true_eq_false, Nat.reduceAdd, xj0_01, xj1_01, xb_B, xb_True, xb_False, ↓gk_2 hsc2, ↓gk_2 hb2.1]
  rw [b13_30, rcl hsl2, true_and, s_copyL (by omega) hsl2 hb2.2.2.2 w6 v6 (by omega)]
  have hs3 : ∀ x, x < s + 13 ∨ s + 17 ≤ x → xs (xs_Day (xs f (s + 1) (xl_Off (s + 1) S2.1)) (s + 11) S2.2.1) (s + 13) (xc_Lg (s + 13) S2.2.2.1) x = xs_Day (xs f (s + 1) (xl_Off (s + 1) S2.1)) (s + 11) S2.2.1 x := fun x hx => xs_ne (by show x < s + 13 ∨ s + 13 + 4 ≤ x; omega)
  have hb3 := (hs3 b (by omega)).trans hb2.1
  have hsc3 := (hs3 s (by omega)).trans hsc2
  have pf : ∀ (v : Value) (G : (Nat → xk_C) → Prop), xk_PF (xs (xs_Day (xs f (s + 1) (xl_Off (s + 1) S2.1)) (s + 11) S2.2.1) (s + 13) (xc_Lg (s + 13) S2.2.2.1)) s 1 3 v G ↔ G (va_up (xs (xs_Day (xs f (s + 1) (xl_Off (s + 1) S2.1)) (s + 11) S2.2.1) (s + 13) (xc_Lg (s + 13) S2.2.2.1)) s (.inr (1, [.ref (s + 1), .ref (s + 11), .ref (s + 13), v]))) := fun v G => pf_R hsc3 (by decide : 3 < 4)
  simp (disch := omega) only [b13_33, b13_34, b13_35, b13_38, b13_41, List.getElem?_cons_zero, List.getElem?_cons_succ, List.length_cons, List.length_nil, List.set_cons_zero, List.set_cons_succ, true_and, and_true, Option.toList_some, Option.toList_none, List.cons_append, List.nil_append, ↓reduceIte, not_false_eq_true, not_true_eq_false, Nat.reduceAdd, xj0_01, xj1_01, xb_B, xb_True, xb_False, ↓gk_3 hb3, ↓pf]
  rfl
end XS35
