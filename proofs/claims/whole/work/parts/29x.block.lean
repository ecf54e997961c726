/-! blocks of cells -/
def xs (f : Nat → xk_C) (a : Nat) (cs : List xk_C) : Nat → xk_C := fun x => if a ≤ x then (cs[x - a]?).getD (f x) else f x
theorem xs_at (f : Nat → xk_C) (a : Nat) (cs : List xk_C) (k : Nat) : xs f a cs (a + k) = (cs[k]?).getD (f (a + k)) := by
  unfold xs
  rw [if_pos (by omega), show a + k - a = k by omega]
theorem xs_at0 (f : Nat → xk_C) (a : Nat) (cs : List xk_C) : xs f a cs a = (cs[0]?).getD (f a) := xs_at f a cs 0
theorem xs_ne {f : Nat → xk_C} {a x : Nat} {cs : List xk_C} (h : x < a ∨ a + cs.length ≤ x) : xs f a cs x = f x := by
  unfold xs
  by_cases e : a ≤ x
  · rw [if_pos e, List.getElem?_eq_none (by omega)]; rfl
  · rw [if_neg e]
theorem xs_up {f : Nat → xk_C} {a k : Nat} {cs : List xk_C} {c : xk_C} (hk : k < cs.length) : va_up (xs f a cs) (a + k) c = xs f a (cs.set k c) := by
  funext x
  unfold va_up
  by_cases e : x = a + k
  · subst e
    rw [if_pos rfl, xs_at, List.getElem?_set_self hk]; rfl
  · rw [if_neg e]
    unfold xs
    by_cases e2 : a ≤ x
    · rw [if_pos e2, if_pos e2, List.getElem?_set_ne (by omega)]
    · rw [if_neg e2, if_neg e2]
theorem xs_up0 {f : Nat → xk_C} {a : Nat} {b c : xk_C} {cs : List xk_C} : va_up (xs f a (b :: cs)) a c = xs f a (c :: cs) := xs_up (k := 0) (Nat.zero_lt_succ _)
theorem xs_xs {f : Nat → xk_C} {a : Nat} {cs cs' : List xk_C} (h : cs.length = cs'.length) : xs (xs f a cs) a cs' = xs f a cs' := by
  funext x
  unfold xs
  by_cases e : a ≤ x
  · rw [if_pos e, if_pos e, if_pos e]
    by_cases e2 : x - a < cs'.length
    · rw [List.getElem?_eq_getElem e2]; rfl
    · rw [List.getElem?_eq_none (by omega), List.getElem?_eq_none (by omega)]; rfl
  · rw [if_neg e, if_neg e, if_neg e]
def xv (f : Nat → xk_C) (a : Nat) (cs : List xk_C) : Prop := xs f a cs = f
theorem xv_at {f : Nat → xk_C} {a : Nat} {cs : List xk_C} (h : xv f a cs) (k : Nat) : f (a + k) = (cs[k]?).getD (f (a + k)) := by
  conv => lhs; rw [← h]
  exact xs_at f a cs k
theorem xv_xs {f : Nat → xk_C} {a : Nat} {cs : List xk_C} : xv (xs f a cs) a cs := xs_xs rfl
theorem xv_of {f : Nat → xk_C} {a : Nat} {cs : List xk_C} (h : ∀ k, k < cs.length → cs[k]? = some (f (a + k))) : xv f a cs := by
  funext x
  unfold xs
  by_cases e : a ≤ x
  · rw [if_pos e]
    by_cases e2 : x - a < cs.length
    · rw [h _ e2, show a + (x - a) = x by omega]; rfl
    · rw [List.getElem?_eq_none (by omega)]; rfl
  · rw [if_neg e]
/-- a view stays where nothing is written -/
theorem xv_fr {f f' : Nat → xk_C} {a : Nat} {cs : List xk_C} (h : xv f a cs) (hf : ∀ x, a ≤ x → x < a + cs.length → f' x = f x) : xv f' a cs := by
  apply xv_of
  intro k hk
  rw [hf _ (by omega) (by omega), xv_at h k, List.getElem?_eq_getElem hk]
  rfl
theorem gf_R {f : Nat → xk_C} {a ci k : Nat} {fs : List Value} {v : Value} {V : Value → Prop} (h : f a = .inr (ci, fs)) (hk : fs[k]? = some v) : xk_GF f a ci k V ↔ V v := by
  unfold xk_GF
  rw [h]
  show (ci = ci ∧ _) ↔ _
  rw [hk]
  exact ⟨fun q => q.2, fun q => ⟨rfl, q⟩⟩
theorem pf_R {f : Nat → xk_C} {a ci k : Nat} {fs : List Value} {v : Value} {G : (Nat → xk_C) → Prop} (h : f a = .inr (ci, fs)) (hk : k < fs.length) : xk_PF f a ci k v G ↔ G (va_up f a (.inr (ci, fs.set k v))) := by
  unfold xk_PF
  rw [h]
  exact ⟨fun q => q.2.2, fun q => ⟨rfl, hk, q⟩⟩
