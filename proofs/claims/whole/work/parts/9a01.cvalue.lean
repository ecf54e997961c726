/-! the class reckons by a rule -/
/-- the class's machine on flat steps -/
def mcF (wd : Nat → Int64) : List St → List Int64 → Int64
  | [], _ => 0
  | c :: cs, st => if c.1 = 15 then topE st else if c.1 = 16 then (if topE st ≠ 0 then topE (st.drop 1) else mcF wd cs []) else mcF wd cs (ev1 wd c st)
def stOK (c : St) : Prop := c.1 ≤ 16 ∧ (c.1 = 0 → c.2 < 100000) ∧ (c.1 = 1 → c.2 < 13)
def pcF : List St → Nat
  | [] => 0
  | c :: cs => (if c.1 ≤ 1 then 1 else 0) + pcF cs
theorem pcF_C : ∀ cs : List St, pcF cs = pcC cs := by
  intro cs
  induction cs with
  | nil => rfl
  | cons c cs ih => show _ + pcF cs = _ + pcC cs; rw [ih]
theorem ty1_ok {c : St} {ts ts' : List Bool} (h : ty1 c ts = some ts') : c.1 ≤ 14 ∧ (c.1 = 0 → c.2 < 100000) ∧ (c.1 = 1 → c.2 < 13) := by
  unfold ty1 at h
  split at h
  · split at h
    · refine ⟨by omega, fun _ => by assumption, fun q => by omega⟩
    · cases h
  · split at h
    · split at h
      · refine ⟨by omega, fun q => by omega, fun _ => by assumption⟩
      · cases h
    · split at h
      · exact ⟨by omega, fun q => by omega, fun q => by omega⟩
      · split at h
        · exact ⟨by omega, fun q => by omega, fun q => by omega⟩
        · split at h
          · exact ⟨by omega, fun q => by omega, fun q => by omega⟩
          · split at h
            · exact ⟨by omega, fun q => by omega, fun q => by omega⟩
            · cases h
theorem tyC_ok : ∀ {cs : List St} {ts ts' : List Bool}, tyC cs ts = some ts' → ∀ c, c ∈ cs → c.1 ≤ 14 ∧ (c.1 = 0 → c.2 < 100000) ∧ (c.1 = 1 → c.2 < 13) := by
  intro cs
  induction cs with
  | nil => intro _ _ _ c hc; cases hc
  | cons d cs ih =>
    intro ts ts' h c hc
    unfold tyC at h
    cases h1 : ty1 d ts with
    | none => rw [h1] at h; cases h
    | some t1 =>
      rw [h1] at h
      rcases List.mem_cons.mp hc with rfl | hc
      · exact ty1_ok h1
      · exact ih h c hc
theorem mc_app {wd : Nat → Int64} : ∀ (cs rest : List St) (st : List Int64), (∀ c, c ∈ cs → c.1 ≤ 14) → mcF wd (cs ++ rest) st = mcF wd rest (ev wd cs st) := by
  intro cs
  induction cs with
  | nil => intro rest st _; rfl
  | cons c cs ih =>
    intro rest st h
    have hc := h c List.mem_cons_self
    show (if c.1 = 15 then _ else if c.1 = 16 then _ else mcF wd (cs ++ rest) (ev1 wd c st)) = mcF wd rest (ev wd cs (ev1 wd c st))
    rw [if_neg (by omega), if_neg (by omega)]
    exact ih rest _ (fun c' h' => h c' (List.mem_cons_of_mem _ h'))
theorem mc_ru {wd : Nat → Int64} : ∀ (ru : Ru), (∀ c, c ∈ ru → clOK c) → mcF wd (flC ru) [] = rvF wd ru := by
  intro ru
  induction ru with
  | nil => intro _; rfl
  | cons x r ih =>
    intro h
    obtain ⟨h1, h2⟩ := h x List.mem_cons_self
    have hr := ih (fun c hc => h c (List.mem_cons_of_mem _ hc))
    obtain ⟨s, o⟩ := x
    have k1 := fun c hc => (tyC_ok h1 c hc).1
    cases o with
    | none =>
      show mcF wd (((s ++ []) ++ [(15, 0)]) ++ flC r) [] = topE (ev wd s [])
      rw [List.append_nil, List.append_assoc, mc_app s _ [] k1]
      rfl
    | some t =>
      have k2 := fun c hc => (tyC_ok (cs := t) h2 c hc).1
      show mcF wd (((s ++ t) ++ [(16, 0)]) ++ flC r) [] = if topE (ev wd t []) = 1 then topE (ev wd s []) else rvF wd r
      rw [List.append_assoc, List.append_assoc, mc_app s _ [] k1, mc_app t _ _ k2]
      have v1 : tv [false] (ev wd s []) := ev_tv (cs := s) (ts := []) (st := []) h1 trivial
      have v2 : tv [true] (ev wd t []) := ev_tv (cs := t) (ts := []) (st := []) h2 trivial
      obtain ⟨v, hv⟩ : ∃ v, ev wd s [] = [v] := by
        cases hs : ev wd s [] with
        | nil => rw [hs] at v1; exact v1.elim
        | cons a l => cases l with
          | nil => exact ⟨a, rfl⟩
          | cons b l => rw [hs] at v1; exact v1.2.elim
      obtain ⟨b, hb, hb1⟩ : ∃ b, ev wd t [] = [b] ∧ (b = 0 ∨ b = 1) := by
        cases hs : ev wd t [] with
        | nil => rw [hs] at v2; exact v2.elim
        | cons a l => cases l with
          | nil => rw [hs] at v2; exact ⟨a, rfl, v2.1 rfl⟩
          | cons b l => rw [hs] at v2; exact v2.2.elim
      have hbt : ev wd t ([] ++ [v]) = ev wd t [] ++ [v] := ev_bt (cs := t) (ts := []) (st := []) h2 trivial
      rw [List.nil_append, hb] at hbt
      rw [hv, hbt, hb]
      show (if b ≠ 0 then v else mcF wd (flC r) []) = if b = 1 then v else rvF wd r
      rcases hb1 with rfl | rfl
      · rw [if_neg (by decide), if_neg (by decide), hr]
      · rw [if_pos (by decide), if_pos rfl]
theorem flc_ok {x : Cl} (h : clOK x) : ∀ c, c ∈ flc x → stOK c := by
  obtain ⟨s, o⟩ := x
  obtain ⟨h1, h2⟩ := h
  intro c hc
  unfold flc clF at hc
  rcases List.mem_append.mp hc with hc | hc
  · rcases List.mem_append.mp hc with hc | hc
    · have := tyC_ok h1 c hc
      exact ⟨by omega, this.2⟩
    · cases o with
      | none => cases hc
      | some t =>
        have := tyC_ok (cs := t) h2 c hc
        exact ⟨by omega, this.2⟩
  · have e : c = ((if (s, o).2.isSome = true then 16 else 15), 0) := List.mem_singleton.mp hc
    subst e
    unfold stOK
    dsimp only
    split <;> exact ⟨by omega, fun q => by omega, fun q => by omega⟩
theorem flC_ok : ∀ {ru : Ru}, (∀ c, c ∈ ru → clOK c) → ∀ c, c ∈ flC ru → stOK c := by
  intro ru
  induction ru with
  | nil => intro _ c hc; cases hc
  | cons x r ih =>
    intro h c hc
    rcases List.mem_append.mp (show c ∈ flc x ++ flC r from hc) with hc | hc
    · exact flc_ok (h x List.mem_cons_self) c hc
    · exact ih (fun c hc => h c (List.mem_cons_of_mem _ hc)) c hc
theorem pcF_app : ∀ (cs cs' : List St), pcF (cs ++ cs') = pcF cs + pcF cs' := by
  intro cs
  induction cs with
  | nil => intro cs'; show pcF cs' = 0 + pcF cs'; omega
  | cons c cs ih => intro cs'; show (if c.1 ≤ 1 then 1 else 0) + pcF (cs ++ cs') = (if c.1 ≤ 1 then 1 else 0) + pcF cs + pcF cs'; rw [ih]; omega
theorem flC_pc : ∀ ru : Ru, pcF (flC ru) = pcR ru := by
  intro ru
  induction ru with
  | nil => rfl
  | cons x r ih =>
    obtain ⟨s, o⟩ := x
    cases o with
    | none =>
      show pcF (((s ++ []) ++ [(15, 0)]) ++ flC r) = pcC s + 0 + pcR r
      rw [List.append_nil, pcF_app, pcF_app, ih, pcF_C]
      show pcC s + 0 + _ = _
      rfl
    | some t =>
      show pcF (((s ++ t) ++ [(16, 0)]) ++ flC r) = pcC s + pcC t + pcR r
      rw [pcF_app, pcF_app, pcF_app, ih, pcF_C, pcF_C]
      show pcC s + pcC t + 0 + _ = _
      rfl
/-- what a test of numbers answers -/
def hdI (s : Nat) (u v : Int64) : Int := if s = 7 then (if u < v then 1 else 0) else if s = 8 then (if v < u then 0 else 1) else if s = 9 then (if u = v then 1 else 0) else if s = 10 then (if u < v then 0 else 1) else if s = 11 then (if v < u then 1 else 0) else if s = 12 then (if u ≠ 0 ∧ v ≠ 0 then 1 else 0) else (if u ≠ 0 ∨ v ≠ 0 then 1 else 0)
theorem hd_01 (s : Nat) (u v : Int64) : hdI s u v = 0 ∨ hdI s u v = 1 := by
  unfold hdI
  repeat' split
  all_goals first | exact Or.inl rfl | exact Or.inr rfl
theorem jn_hd {s : Nat} {u v : Int64} (h : 7 ≤ s) : jn s u v = if hdI s u v = 0 then 0 else 1 := by
  unfold jn hdI
  rw [if_neg (by omega), if_neg (by omega), if_neg (by omega), if_neg (by omega), if_neg (by omega)]
  repeat' split
  all_goals first | rfl | omega | contradiction
/-- a stack in the heap -/
def xq (f : Nat → xk_C) (r : Nat) (g : Nat → Int64) : Nat → xk_C := va_up f (r + 3) (.inl (3, 64, .inr (.inl g)))
theorem xq_ne {f : Nat → xk_C} {r x : Nat} {g : Nat → Int64} (h : x ≠ r + 3) : xq f r g x = f x := up_ne h
theorem xq_at {f : Nat → xk_C} {r : Nat} {g : Nat → Int64} : xq f r g (r + 3) = .inl (3, 64, .inr (.inl g)) := up_s _ _ _
theorem xq_xq {f : Nat → xk_C} {r : Nat} {g g' : Nat → Int64} : va_up (xq f r g) (r + 3) (.inl (3, 64, .inr (.inl g'))) = xq f r g' := up_up _ _ _ _
section XS100
variable {D a b k p q n r t c v fa s : Nat} {f : Nat → xk_C} {w : Nat × Nat × Nat} {K : Option Value → xk_S → Prop} {x y z : Int} {V : Value → Prop} {F : Int32 → Prop} {FJ : Int64 → Prop} {G : (Nat → xk_C) → Prop} {g wd : Nat → Int64} {cs : List St} {u u2 : Int64}
theorem al_J (h : f r = .inl (3, n, .inr (.inl g))) (h1 : 0 ≤ z) (h2 : z < n) (hn : n ≤ 100000) : xk_ALJ f r (xj z) FJ ↔ FJ (g z.toNat) := by
  unfold xk_ALJ
  rw [h]
  show (3 = 3 ∧ ¬ (xj z < 0 ∨ n ≤ (xj z).toNatClampNeg) ∧ FJ (g (xj z).toNatClampNeg)) ↔ _
  rw [xj_nat h1 (by omega)]
  exact ⟨fun q => q.2.2, fun q => ⟨rfl, by rw [← xj_nat h1 (by omega)]; exact (xj_in (n := n) h1 h2 (by omega)).mpr trivial, q⟩⟩
theorem as_J (h : f r = .inl (3, n, .inr (.inl g))) (h1 : 0 ≤ z) (h2 : z < n) (hn : n ≤ 100000) : xk_ASJ f r (xj z) u G ↔ G (va_up f r (.inl (3, n, .inr (.inl (va_up g z.toNat u))))) := by
  unfold xk_ASJ
  rw [h]
  show (3 = 3 ∧ ¬ (xj z < 0 ∨ n ≤ (xj z).toNatClampNeg) ∧ G (va_up f r (.inl (3, n, .inr (.inl (va_up g (xj z).toNatClampNeg u)))))) ↔ _
  rw [xj_nat h1 (by omega)]
  exact ⟨fun q => q.2.2, fun q => ⟨rfl, by rw [← xj_nat h1 (by omega)]; exact (xj_in (n := n) h1 h2 (by omega)).mpr trivial, q⟩⟩
theorem ln_J (h : f r = .inl (3, n, .inr (.inl g))) : xk_LN f r F ↔ F (xj n) := by
  unfold xk_LN
  rw [h]
  show (3 < 7 ∧ F (Int32.ofNat n)) ↔ _
  rw [xj_ofNat]
  exact ⟨fun q => q.2, fun q => ⟨by decide, q⟩⟩
theorem aq_ (h1 : 0 ≤ z) (h2 : z < 64) : xk_ALJ (xq f r g) (r + 3) (xj z) FJ ↔ FJ (g z.toNat) := al_J xq_at h1 (by omega) (by decide)
theorem sq_ (h1 : 0 ≤ z) (h2 : z < 64) : xk_ASJ (xq f r g) (r + 3) (xj z) u G ↔ G (xq f r (va_up g z.toNat u)) := (as_J xq_at h1 (by omega) (by decide)).trans (iff_of_eq (congrArg G xq_xq))
theorem lq_ : xk_LN (xq f r g) (r + 3) F ↔ F (xj (64 : Nat)) := ln_J xq_at
theorem s_Rword (hD : 1 ≤ D) (h : f a = .inl (3, 13, .inr (.inl g))) (hk : k < 13) : xk_Cl D 64 [.ref a, .int (xj (k : Nat))] (f, w) K ↔ K (some (.long (g k))) (f, w) := by
  rw [e64 (by omega)]
  simp (disch := omega) only [b64_0, b64_1, b64_4, b64_5, b64_6, b64_7, b64_10, b64_11, b64_12, b64_13, b64_16, b64_17, List.getElem?_cons_zero, List.getElem?_cons_succ, List.length_cons, List.length_nil, List.set_cons_zero, List.set_cons_succ, true_and, and_true, Option.toList_some, Option.toList_none, List.cons_append, List.nil_append, ↓reduceIte, not_false_eq_true, not_true_eq_false, Nat.reduceAdd, xj0_01, xj1_01, xb_B, xb_True, xb_False, ↓ln_J h, ↓al_J h, ↓xj_in, xj_nat, Int.toNat_natCast, xj_lt_t, xj_lt_f, xj_le_t, xj_le_f, xj_eq_t, xj_eq_f, xj_lt, xj_le, xj_eq, xj_add, xj_sub, xj_mul, show ¬ xj 1 = xj 0 from by decide]
theorem gq_3 (h : xL f r cs) : xk_GF (xq f r g) r 7 3 V ↔ V (.ref (r + 3)) := by
  obtain ⟨st, op, h0, _⟩ := h
  exact gf_R ((xq_ne (by omega)).trans h0) rfl
theorem rq_7 (h : xL f r cs) : xk_RC (xq f r g) r 7 ↔ True := by
  obtain ⟨st, op, h0, _⟩ := h
  exact rc_R ((xq_ne (by omega)).trans h0)
theorem s_onSt (hD : 1 ≤ D) (h : xL f r cs) (hk : k < 64) (hz : z = (k : Nat)) : xk_Cl D 65 [.ref r, .int (xj z)] (xq f r g, w) K ↔ K (some (.long (g k))) (xq f r g, w) := by
  rw [e65 (by omega), hz]
  simp (disch := omega) only [b65_0, b65_1, b65_4, b65_5, b65_6, b65_9, b65_10, b65_13, b65_14, b65_17, b65_18, b65_19, b65_22, b65_23, List.getElem?_cons_zero, List.getElem?_cons_succ, List.length_cons, List.length_nil, List.set_cons_zero, List.set_cons_succ, true_and, and_true, Option.toList_some, Option.toList_none, List.cons_append, List.nil_append, ↓reduceIte, not_false_eq_true, not_true_eq_false, Nat.reduceAdd, xj0_01, xj1_01, xb_B, xb_True, xb_False, ↓gq_3 h, ↓lq_, ↓aq_, ↓xj_in, xj_nat, Int.toNat_natCast, xj_lt_t, xj_lt_f, xj_le_t, xj_le_f, xj_eq_t, xj_eq_f, xj_lt, xj_le, xj_eq, xj_add, xj_sub, xj_mul, show ¬ xj 1 = xj 0 from by decide]
theorem s_onSt_no (hD : 1 ≤ D) (h1 : -2147483648 ≤ z) (hz : z < 0) : xk_Cl D 65 [.ref r, .int (xj z)] (f, w) K ↔ K (some (.long 0)) (f, w) := by
  rw [e65 (by omega)]
  simp (disch := omega) only [b65_0, b65_1, b65_4, b65_5, b65_6, b65_9, b65_10, b65_13, b65_14, b65_17, b65_18, b65_19, b65_22, b65_23, List.getElem?_cons_zero, List.getElem?_cons_succ, List.length_cons, List.length_nil, List.set_cons_zero, List.set_cons_succ, true_and, and_true, Option.toList_some, Option.toList_none, List.cons_append, List.nil_append, ↓reduceIte, not_false_eq_true, not_true_eq_false, Nat.reduceAdd, xj0_01, xj1_01, xb_B, xb_True, xb_False, ↓xj_in, xj_nat, Int.toNat_natCast, xj_lt_t, xj_lt_f, xj_le_t, xj_le_f, xj_eq_t, xj_eq_f, xj_lt, xj_le, xj_eq, xj_add, xj_sub, xj_mul, show ¬ xj 1 = xj 0 from by decide]
theorem s_flip (hD : 1 ≤ D) (h : xL f r cs) (hk : k < 64) (hz : z = (k : Nat)) : xk_Cl D 66 [.ref r, .int (xj z)] (xq f r g, w) K ↔ K none (xq f r (va_up g k (1 - g k)), w) := by
  rw [e66 (by omega), hz]
  simp (disch := omega) only [b66_0, b66_1, b66_4, b66_5, b66_6, b66_9, b66_10, b66_13, b66_14, b66_17, b66_18, b66_19, b66_20, b66_23, b66_24, b66_25, b66_26, b66_27, List.getElem?_cons_zero, List.getElem?_cons_succ, List.length_cons, List.length_nil, List.set_cons_zero, List.set_cons_succ, true_and, and_true, Option.toList_some, Option.toList_none, List.cons_append, List.nil_append, ↓reduceIte, not_false_eq_true, not_true_eq_false, Nat.reduceAdd, xj0_01, xj1_01, xb_B, xb_True, xb_False, ↓gq_3 h, ↓lq_, ↓aq_, ↓sq_, ↓xj_in, xj_nat, Int.toNat_natCast, xj_lt_t, xj_lt_f, xj_le_t, xj_le_f, xj_eq_t, xj_eq_f, xj_lt, xj_le, xj_eq, xj_add, xj_sub, xj_mul, show ¬ xj 1 = xj 0 from by decide]
theorem s_flip_no (hD : 1 ≤ D) (h1 : -2147483648 ≤ z) (hz : z < 0) : xk_Cl D 66 [.ref r, .int (xj z)] (f, w) K ↔ K none (f, w) := by
  rw [e66 (by omega)]
  simp (disch := omega) only [b66_0, b66_1, b66_4, b66_5, b66_6, b66_9, b66_10, b66_13, b66_14, b66_17, b66_18, b66_19, b66_20, b66_23, b66_24, b66_25, b66_26, b66_27, List.getElem?_cons_zero, List.getElem?_cons_succ, List.length_cons, List.length_nil, List.set_cons_zero, List.set_cons_succ, true_and, and_true, Option.toList_some, Option.toList_none, List.cons_append, List.nil_append, ↓reduceIte, not_false_eq_true, not_true_eq_false, Nat.reduceAdd, xj0_01, xj1_01, xb_B, xb_True, xb_False, ↓xj_in, xj_nat, Int.toNat_natCast, xj_lt_t, xj_lt_f, xj_le_t, xj_le_f, xj_eq_t, xj_eq_f, xj_lt, xj_le, xj_eq, xj_add, xj_sub, xj_mul, show ¬ xj 1 = xj 0 from by decide]
theorem s_holds (hD : 1 ≤ D) (h1 : 7 ≤ s) (h2 : s ≤ 16) : xk_Cl D 68 [.int (xj (s : Nat)), .long u, .long u2] (f, w) K ↔ K (some (.int (xj (hdI s u u2)))) (f, w) := by
  rw [e68 (by omega)]
  have hs : s = 7 ∨ s = 8 ∨ s = 9 ∨ s = 10 ∨ s = 11 ∨ s = 12 ∨ 13 ≤ s := by omega
  rcases hs with rfl | rfl | rfl | rfl | rfl | rfl | h13
  · rw [show hdI 7 u u2 = if u < u2 then 1 else 0 from rfl]
    by_cases c : u < u2
    · rw [if_pos c]
      simp (disch := omega) only [b68_0, b68_1, b68_40, b68_41, b68_42, b68_43, b68_46, b68_47, b68_50, b68_51, b68_51o, b68_51z, b68_51c, List.getElem?_cons_zero, List.getElem?_cons_succ, List.length_cons, List.length_nil, List.set_cons_zero, List.set_cons_succ, true_and, and_true, Option.toList_some, Option.toList_none, List.cons_append, List.nil_append, ↓reduceIte, not_false_eq_true, not_true_eq_false, Nat.reduceAdd, xj0_01, xj1_01, xb_B, xb_True, xb_False, ↓xj_in, xj_nat, Int.toNat_natCast, xj_lt_t, xj_lt_f, xj_le_t, xj_le_f, xj_eq_t, xj_eq_f, xj_lt, xj_le, xj_eq, xj_add, xj_sub, xj_mul, show ¬ xj 1 = xj 0 from by decide, lc_ge, c]
    · rw [if_neg c]
      simp (disch := omega) only [b68_0, b68_1, b68_40, b68_41, b68_42, b68_43, b68_46, b68_47, b68_50, b68_51, b68_51o, b68_51z, b68_51c, List.getElem?_cons_zero, List.getElem?_cons_succ, List.length_cons, List.length_nil, List.set_cons_zero, List.set_cons_succ, true_and, and_true, Option.toList_some, Option.toList_none, List.cons_append, List.nil_append, ↓reduceIte, not_false_eq_true, not_true_eq_false, Nat.reduceAdd, xj0_01, xj1_01, xb_B, xb_True, xb_False, ↓xj_in, xj_nat, Int.toNat_natCast, xj_lt_t, xj_lt_f, xj_le_t, xj_le_f, xj_eq_t, xj_eq_f, xj_lt, xj_le, xj_eq, xj_add, xj_sub, xj_mul, show ¬ xj 1 = xj 0 from by decide, lc_ge, c]
  · rw [show hdI 8 u u2 = if u2 < u then 0 else 1 from rfl]
    by_cases c : u2 < u
    · rw [if_pos c]
      simp (disch := omega) only [b68_0, b68_1, b68_52, b68_53, b68_54, b68_55, b68_58, b68_59, b68_62, b68_63, b68_63o, b68_63z, b68_63c, List.getElem?_cons_zero, List.getElem?_cons_succ, List.length_cons, List.length_nil, List.set_cons_zero, List.set_cons_succ, true_and, and_true, Option.toList_some, Option.toList_none, List.cons_append, List.nil_append, ↓reduceIte, not_false_eq_true, not_true_eq_false, Nat.reduceAdd, xj0_01, xj1_01, xb_B, xb_True, xb_False, ↓xj_in, xj_nat, Int.toNat_natCast, xj_lt_t, xj_lt_f, xj_le_t, xj_le_f, xj_eq_t, xj_eq_f, xj_lt, xj_le, xj_eq, xj_add, xj_sub, xj_mul, show ¬ xj 1 = xj 0 from by decide, lc_gt, c]
    · rw [if_neg c]
      simp (disch := omega) only [b68_0, b68_1, b68_52, b68_53, b68_54, b68_55, b68_58, b68_59, b68_62, b68_63, b68_63o, b68_63z, b68_63c, List.getElem?_cons_zero, List.getElem?_cons_succ, List.length_cons, List.length_nil, List.set_cons_zero, List.set_cons_succ, true_and, and_true, Option.toList_some, Option.toList_none, List.cons_append, List.nil_append, ↓reduceIte, not_false_eq_true, not_true_eq_false, Nat.reduceAdd, xj0_01, xj1_01, xb_B, xb_True, xb_False, ↓xj_in, xj_nat, Int.toNat_natCast, xj_lt_t, xj_lt_f, xj_le_t, xj_le_f, xj_eq_t, xj_eq_f, xj_lt, xj_le, xj_eq, xj_add, xj_sub, xj_mul, show ¬ xj 1 = xj 0 from by decide, lc_gt, c]
  · rw [show hdI 9 u u2 = if u = u2 then 1 else 0 from rfl]
    by_cases c : u = u2
    · rw [if_pos c]
      simp (disch := omega) only [b68_0, b68_1, b68_64, b68_65, b68_66, b68_67, b68_70, b68_71, b68_74, b68_75, b68_75o, b68_75z, b68_75c, List.getElem?_cons_zero, List.getElem?_cons_succ, List.length_cons, List.length_nil, List.set_cons_zero, List.set_cons_succ, true_and, and_true, Option.toList_some, Option.toList_none, List.cons_append, List.nil_append, ↓reduceIte, not_false_eq_true, not_true_eq_false, Nat.reduceAdd, xj0_01, xj1_01, xb_B, xb_True, xb_False, ↓xj_in, xj_nat, Int.toNat_natCast, xj_lt_t, xj_lt_f, xj_le_t, xj_le_f, xj_eq_t, xj_eq_f, xj_lt, xj_le, xj_eq, xj_add, xj_sub, xj_mul, show ¬ xj 1 = xj 0 from by decide, lc_eq, c]
    · rw [if_neg c]
      simp (disch := omega) only [b68_0, b68_1, b68_64, b68_65, b68_66, b68_67, b68_70, b68_71, b68_74, b68_75, b68_75o, b68_75z, b68_75c, List.getElem?_cons_zero, List.getElem?_cons_succ, List.length_cons, List.length_nil, List.set_cons_zero, List.set_cons_succ, true_and, and_true, Option.toList_some, Option.toList_none, List.cons_append, List.nil_append, ↓reduceIte, not_false_eq_true, not_true_eq_false, Nat.reduceAdd, xj0_01, xj1_01, xb_B, xb_True, xb_False, ↓xj_in, xj_nat, Int.toNat_natCast, xj_lt_t, xj_lt_f, xj_le_t, xj_le_f, xj_eq_t, xj_eq_f, xj_lt, xj_le, xj_eq, xj_add, xj_sub, xj_mul, show ¬ xj 1 = xj 0 from by decide, lc_eq, c]
  · rw [show hdI 10 u u2 = if u < u2 then 0 else 1 from rfl]
    by_cases c : u < u2
    · rw [if_pos c]
      simp (disch := omega) only [b68_0, b68_1, b68_76, b68_77, b68_78, b68_79, b68_82, b68_83, b68_86, b68_87, b68_87o, b68_87z, b68_87c, List.getElem?_cons_zero, List.getElem?_cons_succ, List.length_cons, List.length_nil, List.set_cons_zero, List.set_cons_succ, true_and, and_true, Option.toList_some, Option.toList_none, List.cons_append, List.nil_append, ↓reduceIte, not_false_eq_true, not_true_eq_false, Nat.reduceAdd, xj0_01, xj1_01, xb_B, xb_True, xb_False, ↓xj_in, xj_nat, Int.toNat_natCast, xj_lt_t, xj_lt_f, xj_le_t, xj_le_f, xj_eq_t, xj_eq_f, xj_lt, xj_le, xj_eq, xj_add, xj_sub, xj_mul, show ¬ xj 1 = xj 0 from by decide, lc_lt, c]
    · rw [if_neg c]
      simp (disch := omega) only [b68_0, b68_1, b68_76, b68_77, b68_78, b68_79, b68_82, b68_83, b68_86, b68_87, b68_87o, b68_87z, b68_87c, List.getElem?_cons_zero, List.getElem?_cons_succ, List.length_cons, List.length_nil, List.set_cons_zero, List.set_cons_succ, true_and, and_true, Option.toList_some, Option.toList_none, List.cons_append, List.nil_append, ↓reduceIte, not_false_eq_true, not_true_eq_false, Nat.reduceAdd, xj0_01, xj1_01, xb_B, xb_True, xb_False, ↓xj_in, xj_nat, Int.toNat_natCast, xj_lt_t, xj_lt_f, xj_le_t, xj_le_f, xj_eq_t, xj_eq_f, xj_lt, xj_le, xj_eq, xj_add, xj_sub, xj_mul, show ¬ xj 1 = xj 0 from by decide, lc_lt, c]
  · rw [show hdI 11 u u2 = if u2 < u then 1 else 0 from rfl]
    by_cases c : u2 < u
    · rw [if_pos c]
      simp (disch := omega) only [b68_0, b68_1, b68_88, b68_89, b68_90, b68_91, b68_94, b68_95, b68_98, b68_99, b68_99o, b68_99z, b68_99c, List.getElem?_cons_zero, List.getElem?_cons_succ, List.length_cons, List.length_nil, List.set_cons_zero, List.set_cons_succ, true_and, and_true, Option.toList_some, Option.toList_none, List.cons_append, List.nil_append, ↓reduceIte, not_false_eq_true, not_true_eq_false, Nat.reduceAdd, xj0_01, xj1_01, xb_B, xb_True, xb_False, ↓xj_in, xj_nat, Int.toNat_natCast, xj_lt_t, xj_lt_f, xj_le_t, xj_le_f, xj_eq_t, xj_eq_f, xj_lt, xj_le, xj_eq, xj_add, xj_sub, xj_mul, show ¬ xj 1 = xj 0 from by decide, lc_le, c]
    · rw [if_neg c]
      simp (disch := omega) only [b68_0, b68_1, b68_88, b68_89, b68_90, b68_91, b68_94, b68_95, b68_98, b68_99, b68_99o, b68_99z, b68_99c, List.getElem?_cons_zero, List.getElem?_cons_succ, List.length_cons, List.length_nil, List.set_cons_zero, List.set_cons_succ, true_and, and_true, Option.toList_some, Option.toList_none, List.cons_append, List.nil_append, ↓reduceIte, not_false_eq_true, not_true_eq_false, Nat.reduceAdd, xj0_01, xj1_01, xb_B, xb_True, xb_False, ↓xj_in, xj_nat, Int.toNat_natCast, xj_lt_t, xj_lt_f, xj_le_t, xj_le_f, xj_eq_t, xj_eq_f, xj_lt, xj_le, xj_eq, xj_add, xj_sub, xj_mul, show ¬ xj 1 = xj 0 from by decide, lc_le, c]
  · rw [show hdI 12 u u2 = if u ≠ 0 ∧ u2 ≠ 0 then 1 else 0 from rfl]
    by_cases c : u = 0
    · rw [if_neg (fun q => q.1 c)]
      simp (disch := omega) only [b68_0, b68_1, b68_100, b68_101, b68_102, b68_103, b68_106, b68_107, b68_108, b68_109, b68_112, b68_113, b68_116, b68_117, b68_117o, b68_117z, b68_117c, List.getElem?_cons_zero, List.getElem?_cons_succ, List.length_cons, List.length_nil, List.set_cons_zero, List.set_cons_succ, true_and, and_true, Option.toList_some, Option.toList_none, List.cons_append, List.nil_append, ↓reduceIte, not_false_eq_true, not_true_eq_false, Nat.reduceAdd, xj0_01, xj1_01, xb_B, xb_True, xb_False, ↓xj_in, xj_nat, Int.toNat_natCast, xj_lt_t, xj_lt_f, xj_le_t, xj_le_f, xj_eq_t, xj_eq_f, xj_lt, xj_le, xj_eq, xj_add, xj_sub, xj_mul, show ¬ xj 1 = xj 0 from by decide, lc_eq, c]
    · by_cases c2 : u2 = 0
      · rw [if_neg (fun q => q.2 c2)]
        simp (disch := omega) only [b68_0, b68_1, b68_100, b68_101, b68_102, b68_103, b68_106, b68_107, b68_108, b68_109, b68_112, b68_113, b68_116, b68_117, b68_117o, b68_117z, b68_117c, List.getElem?_cons_zero, List.getElem?_cons_succ, List.length_cons, List.length_nil, List.set_cons_zero, List.set_cons_succ, true_and, and_true, Option.toList_some, Option.toList_none, List.cons_append, List.nil_append, ↓reduceIte, not_false_eq_true, not_true_eq_false, Nat.reduceAdd, xj0_01, xj1_01, xb_B, xb_True, xb_False, ↓xj_in, xj_nat, Int.toNat_natCast, xj_lt_t, xj_lt_f, xj_le_t, xj_le_f, xj_eq_t, xj_eq_f, xj_lt, xj_le, xj_eq, xj_add, xj_sub, xj_mul, show ¬ xj 1 = xj 0 from by decide, lc_eq, c, c2]
      · rw [if_pos ⟨c, c2⟩]
        simp (disch := omega) only [b68_0, b68_1, b68_100, b68_101, b68_102, b68_103, b68_106, b68_107, b68_108, b68_109, b68_112, b68_113, b68_116, b68_117, b68_117o, b68_117z, b68_117c, List.getElem?_cons_zero, List.getElem?_cons_succ, List.length_cons, List.length_nil, List.set_cons_zero, List.set_cons_succ, true_and, and_true, Option.toList_some, Option.toList_none, List.cons_append, List.nil_append, ↓reduceIte, not_false_eq_true, not_true_eq_false, Nat.reduceAdd, xj0_01, xj1_01, xb_B, xb_True, xb_False, ↓xj_in, xj_nat, Int.toNat_natCast, xj_lt_t, xj_lt_f, xj_le_t, xj_le_f, xj_eq_t, xj_eq_f, xj_lt, xj_le, xj_eq, xj_add, xj_sub, xj_mul, show ¬ xj 1 = xj 0 from by decide, lc_eq, c, c2]
  · have e : hdI s u u2 = if u ≠ 0 ∨ u2 ≠ 0 then 1 else 0 := by
      unfold hdI
      rw [if_neg (by omega), if_neg (by omega), if_neg (by omega), if_neg (by omega), if_neg (by omega), if_neg (by omega)]
    rw [e]
    by_cases c : u = 0
    · by_cases c2 : u2 = 0
      · rw [if_neg (fun q => q.elim (fun q => q c) (fun q => q c2))]
        simp (disch := omega) only [b68_0, b68_1, b68_118, b68_119, b68_120, b68_121, b68_124, b68_125, b68_126, b68_127, b68_130, b68_131, b68_134, b68_135, b68_135o, b68_135z, b68_135c, List.getElem?_cons_zero, List.getElem?_cons_succ, List.length_cons, List.length_nil, List.set_cons_zero, List.set_cons_succ, true_and, and_true, Option.toList_some, Option.toList_none, List.cons_append, List.nil_append, ↓reduceIte, not_false_eq_true, not_true_eq_false, Nat.reduceAdd, xj0_01, xj1_01, xb_B, xb_True, xb_False, ↓xj_in, xj_nat, Int.toNat_natCast, xj_lt_t, xj_lt_f, xj_le_t, xj_le_f, xj_eq_t, xj_eq_f, xj_lt, xj_le, xj_eq, xj_add, xj_sub, xj_mul, show ¬ xj 1 = xj 0 from by decide, lc_eq, c, c2]
      · rw [if_pos (Or.inr c2)]
        simp (disch := omega) only [b68_0, b68_1, b68_118, b68_119, b68_120, b68_121, b68_124, b68_125, b68_126, b68_127, b68_130, b68_131, b68_134, b68_135, b68_135o, b68_135z, b68_135c, List.getElem?_cons_zero, List.getElem?_cons_succ, List.length_cons, List.length_nil, List.set_cons_zero, List.set_cons_succ, true_and, and_true, Option.toList_some, Option.toList_none, List.cons_append, List.nil_append, ↓reduceIte, not_false_eq_true, not_true_eq_false, Nat.reduceAdd, xj0_01, xj1_01, xb_B, xb_True, xb_False, ↓xj_in, xj_nat, Int.toNat_natCast, xj_lt_t, xj_lt_f, xj_le_t, xj_le_f, xj_eq_t, xj_eq_f, xj_lt, xj_le, xj_eq, xj_add, xj_sub, xj_mul, show ¬ xj 1 = xj 0 from by decide, lc_eq, c, c2]
    · rw [if_pos (Or.inl c)]
      simp (disch := omega) only [b68_0, b68_1, b68_118, b68_119, b68_120, b68_121, b68_124, b68_125, b68_126, b68_127, b68_130, b68_131, b68_134, b68_135, b68_135o, b68_135z, b68_135c, List.getElem?_cons_zero, List.getElem?_cons_succ, List.length_cons, List.length_nil, List.set_cons_zero, List.set_cons_succ, true_and, and_true, Option.toList_some, Option.toList_none, List.cons_append, List.nil_append, ↓reduceIte, not_false_eq_true, not_true_eq_false, Nat.reduceAdd, xj0_01, xj1_01, xb_B, xb_True, xb_False, ↓xj_in, xj_nat, Int.toNat_natCast, xj_lt_t, xj_lt_f, xj_le_t, xj_le_f, xj_eq_t, xj_eq_f, xj_lt, xj_le, xj_eq, xj_add, xj_sub, xj_mul, show ¬ xj 1 = xj 0 from by decide, lc_eq, c]
theorem s_joined (hD : 2 ≤ D) (h1 : 2 ≤ s) (h2 : s ≤ 16) : xk_Cl D 67 [.int (xj (s : Nat)), .long u, .long u2] (f, w) K ↔ K (some (.long (jn s u u2))) (f, w) := by
  rw [e67 (by omega)]
  have hs : s = 2 ∨ s = 3 ∨ s = 4 ∨ s = 5 ∨ s = 6 ∨ 7 ≤ s := by omega
  rcases hs with rfl | rfl | rfl | rfl | rfl | h7
  · rw [show jn 2 u u2 = u + u2 from rfl]
    simp (disch := omega) only [b67_0, b67_1, b67_36, b67_37, b67_38, b67_39, b67_40, b67_41, b67_42, b67_43, b67_44, b67_45, b67_46, b67_47, List.getElem?_cons_zero, List.getElem?_cons_succ, List.length_cons, List.length_nil, List.set_cons_zero, List.set_cons_succ, true_and, and_true, Option.toList_some, Option.toList_none, List.cons_append, List.nil_append, ↓reduceIte, not_false_eq_true, not_true_eq_false, Nat.reduceAdd, xj0_01, xj1_01, xb_B, xb_True, xb_False, ↓xj_in, xj_nat, Int.toNat_natCast, xj_lt_t, xj_lt_f, xj_le_t, xj_le_f, xj_eq_t, xj_eq_f, xj_lt, xj_le, xj_eq, xj_add, xj_sub, xj_mul, show ¬ xj 1 = xj 0 from by decide]
  · rw [show jn 3 u u2 = u - u2 from rfl]
    simp (disch := omega) only [b67_0, b67_1, b67_36, b67_37, b67_38, b67_39, b67_40, b67_41, b67_42, b67_43, b67_44, b67_45, b67_46, b67_47, List.getElem?_cons_zero, List.getElem?_cons_succ, List.length_cons, List.length_nil, List.set_cons_zero, List.set_cons_succ, true_and, and_true, Option.toList_some, Option.toList_none, List.cons_append, List.nil_append, ↓reduceIte, not_false_eq_true, not_true_eq_false, Nat.reduceAdd, xj0_01, xj1_01, xb_B, xb_True, xb_False, ↓xj_in, xj_nat, Int.toNat_natCast, xj_lt_t, xj_lt_f, xj_le_t, xj_le_f, xj_eq_t, xj_eq_f, xj_lt, xj_le, xj_eq, xj_add, xj_sub, xj_mul, show ¬ xj 1 = xj 0 from by decide]
  · rw [show jn 4 u u2 = u * u2 from rfl]
    simp (disch := omega) only [b67_0, b67_1, b67_36, b67_37, b67_38, b67_39, b67_40, b67_41, b67_42, b67_43, b67_44, b67_45, b67_46, b67_47, List.getElem?_cons_zero, List.getElem?_cons_succ, List.length_cons, List.length_nil, List.set_cons_zero, List.set_cons_succ, true_and, and_true, Option.toList_some, Option.toList_none, List.cons_append, List.nil_append, ↓reduceIte, not_false_eq_true, not_true_eq_false, Nat.reduceAdd, xj0_01, xj1_01, xb_B, xb_True, xb_False, ↓xj_in, xj_nat, Int.toNat_natCast, xj_lt_t, xj_lt_f, xj_le_t, xj_le_f, xj_eq_t, xj_eq_f, xj_lt, xj_le, xj_eq, xj_add, xj_sub, xj_mul, show ¬ xj 1 = xj 0 from by decide]
  · rw [show jn 5 u u2 = if u2 = 0 then 0 else u / u2 from rfl]
    by_cases c : u2 = 0
    · rw [if_pos c]
      simp (disch := omega) only [b67_0, b67_1, b67_48, b67_49, b67_50, b67_51, b67_54, b67_55, b67_61, List.getElem?_cons_zero, List.getElem?_cons_succ, List.length_cons, List.length_nil, List.set_cons_zero, List.set_cons_succ, true_and, and_true, Option.toList_some, Option.toList_none, List.cons_append, List.nil_append, ↓reduceIte, not_false_eq_true, not_true_eq_false, Nat.reduceAdd, xj0_01, xj1_01, xb_B, xb_True, xb_False, ↓xj_in, xj_nat, Int.toNat_natCast, xj_lt_t, xj_lt_f, xj_le_t, xj_le_f, xj_eq_t, xj_eq_f, xj_lt, xj_le, xj_eq, xj_add, xj_sub, xj_mul, show ¬ xj 1 = xj 0 from by decide, lc_eq, c]
    · rw [if_neg c]
      simp (disch := omega) only [b67_0, b67_1, b67_48, b67_49, b67_50, b67_51, b67_54, b67_55, b67_58, b67_59, b67_60 c, b67_61, List.getElem?_cons_zero, List.getElem?_cons_succ, List.length_cons, List.length_nil, List.set_cons_zero, List.set_cons_succ, true_and, and_true, Option.toList_some, Option.toList_none, List.cons_append, List.nil_append, ↓reduceIte, not_false_eq_true, not_true_eq_false, Nat.reduceAdd, xj0_01, xj1_01, xb_B, xb_True, xb_False, ↓xj_in, xj_nat, Int.toNat_natCast, xj_lt_t, xj_lt_f, xj_le_t, xj_le_f, xj_eq_t, xj_eq_f, xj_lt, xj_le, xj_eq, xj_add, xj_sub, xj_mul, show ¬ xj 1 = xj 0 from by decide, lc_eq, c]
  · rw [show jn 6 u u2 = if u2 = 0 then 0 else u - u / u2 * u2 from rfl]
    by_cases c : u2 = 0
    · rw [if_pos c]
      simp (disch := omega) only [b67_0, b67_1, b67_62, b67_63, b67_64, b67_65, b67_68, b67_69, b67_75, List.getElem?_cons_zero, List.getElem?_cons_succ, List.length_cons, List.length_nil, List.set_cons_zero, List.set_cons_succ, true_and, and_true, Option.toList_some, Option.toList_none, List.cons_append, List.nil_append, ↓reduceIte, not_false_eq_true, not_true_eq_false, Nat.reduceAdd, xj0_01, xj1_01, xb_B, xb_True, xb_False, ↓xj_in, xj_nat, Int.toNat_natCast, xj_lt_t, xj_lt_f, xj_le_t, xj_le_f, xj_eq_t, xj_eq_f, xj_lt, xj_le, xj_eq, xj_add, xj_sub, xj_mul, show ¬ xj 1 = xj 0 from by decide, lc_eq, c]
    · rw [if_neg c]
      simp (disch := omega) only [b67_0, b67_1, b67_62, b67_63, b67_64, b67_65, b67_68, b67_69, b67_72, b67_73, b67_74 c, b67_75, List.getElem?_cons_zero, List.getElem?_cons_succ, List.length_cons, List.length_nil, List.set_cons_zero, List.set_cons_succ, true_and, and_true, Option.toList_some, Option.toList_none, List.cons_append, List.nil_append, ↓reduceIte, not_false_eq_true, not_true_eq_false, Nat.reduceAdd, xj0_01, xj1_01, xb_B, xb_True, xb_False, ↓xj_in, xj_nat, Int.toNat_natCast, xj_lt_t, xj_lt_f, xj_le_t, xj_le_f, xj_eq_t, xj_eq_f, xj_lt, xj_le, xj_eq, xj_add, xj_sub, xj_mul, show ¬ xj 1 = xj 0 from by decide, lc_eq, c]
  · rw [jn_hd h7]
    have h01 := hd_01 s u u2
    by_cases c : hdI s u u2 = 0
    · rw [if_pos c]
      simp (disch := omega) only [b67_0, b67_1, b67_76, b67_77, b67_78, b67_79, b67_82, b67_85, b67_86, b67_89, b67_90, List.getElem?_cons_zero, List.getElem?_cons_succ, List.length_cons, List.length_nil, List.set_cons_zero, List.set_cons_succ, true_and, and_true, Option.toList_some, Option.toList_none, List.cons_append, List.nil_append, ↓reduceIte, not_false_eq_true, not_true_eq_false, Nat.reduceAdd, xj0_01, xj1_01, xb_B, xb_True, xb_False, ↓xj_in, xj_nat, Int.toNat_natCast, xj_lt_t, xj_lt_f, xj_le_t, xj_le_f, xj_eq_t, xj_eq_f, xj_lt, xj_le, xj_eq, xj_add, xj_sub, xj_mul, show ¬ xj 1 = xj 0 from by decide, s_holds, c]
    · rw [if_neg c]
      have c1 : hdI s u u2 = 1 := by omega
      simp (disch := omega) only [b67_0, b67_1, b67_76, b67_77, b67_78, b67_79, b67_82, b67_85, b67_86, b67_89, b67_90, List.getElem?_cons_zero, List.getElem?_cons_succ, List.length_cons, List.length_nil, List.set_cons_zero, List.set_cons_succ, true_and, and_true, Option.toList_some, Option.toList_none, List.cons_append, List.nil_append, ↓reduceIte, not_false_eq_true, not_true_eq_false, Nat.reduceAdd, xj0_01, xj1_01, xb_B, xb_True, xb_False, ↓xj_in, xj_nat, Int.toNat_natCast, xj_lt_t, xj_lt_f, xj_le_t, xj_le_f, xj_eq_t, xj_eq_f, xj_lt, xj_le, xj_eq, xj_add, xj_sub, xj_mul, show ¬ xj 1 = xj 0 from by decide, s_holds, c1]
end XS100
