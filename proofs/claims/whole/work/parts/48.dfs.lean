/-! looking through rows of papers: one search for all -/
def itF {A : Type} (g : A → Nat → A) : Nat → A → A
  | 0, a => a
  | p + 1, a => g (itF g p a) p
theorem itF_id {A : Type} {g : A → Nat → A} : ∀ n, (∀ p, p < n → ∀ a, g a p = a) → ∀ a, itF g n a = a := by
  intro n
  induction n with
  | zero => intro _ a; rfl
  | succ n ih => intro h a; unfold itF; rw [h n (by omega), ih (fun p hp => h p (by omega))]
theorem itF_cg {A : Type} {g g' : A → Nat → A} : ∀ n, (∀ p, p < n → ∀ a, g a p = g' a p) → ∀ a, itF g n a = itF g' n a := by
  intro n
  induction n with
  | zero => intro _ a; rfl
  | succ n ih => intro h a; unfold itF; rw [h n (by omega), ih (fun p hp => h p (by omega))]
theorem itF_rel {A B : Type} {T : A → B → Prop} {g : A → Nat → A} {h : B → Nat → B} : ∀ n, (∀ p, p < n → ∀ a b, T a b → T (g a p) (h b p)) → ∀ a b, T a b → T (itF g n a) (itF h n b) := by
  intro n
  induction n with
  | zero => intro _ a b t; exact t
  | succ n ih => intro e a b t; exact e n (by omega) _ _ (ih (fun p hp => e p (by omega)) a b t)
def dfsG {A : Type} (ok : Dy → Nat → Bool) (nx : Dy → Nat → Dy) (V : Nat → Dy → (Nat → Int) → A → A) (np : Nat) : Nat → Nat → Dy → (Nat → Int) → A → A
  | 0, k, d, row, a => V k d row a
  | n + 1, k, d, row, a => itF (fun a p => if ok d p = true then dfsG ok nx V np n (k + 1) (nx d p) (upI row k p) a else a) np (V k d row a)
def gnF {A : Type} (ok : Dy → Nat → Bool) (nx : Dy → Nat → Dy) (V : Nat → Dy → (Nat → Int) → A → A) (np : Nat) (n k : Nat) (d : Dy) (row : Nat → Int) (a : A) (p : Nat) : A :=
  if ok d p = true then (match n with
    | 0 => a
    | n + 1 => dfsG ok nx V np n (k + 1) (nx d p) (upI row k p) a) else a
theorem dfs_eq {A : Type} (ok : Dy → Nat → Bool) (nx : Dy → Nat → Dy) (V : Nat → Dy → (Nat → Int) → A → A) (np n k : Nat) (d : Dy) (row : Nat → Int) (a : A) : dfsG ok nx V np n k d row a = itF (gnF ok nx V np n k d row) np (V k d row a) := by
  cases n with
  | zero =>
    rw [itF_id]
    · rfl
    · intro p _ a
      unfold gnF
      split <;> rfl
  | succ n => rfl
/-- two searches over the same days, whose ends go together -/
theorem dfs_rel {A B : Type} {T : A → B → Prop} {I : Nat → Dy → (Nat → Int) → (Nat → Int) → Prop} {ok ok' : Dy → Nat → Bool} {nx nx' : Dy → Nat → Dy} {V : Nat → Dy → (Nat → Int) → A → A} {V' : Nat → Dy → (Nat → Int) → B → B} {np : Nat}
    (hok : ∀ k d r r' p, I k d r r' → p < np → ok d p = ok' d p) (hI : ∀ k d r r' p, I k d r r' → p < np → ok d p = true → nx d p = nx' d p ∧ I (k + 1) (nx d p) (upI r k p) (upI r' k p))
    (hV : ∀ k d r r' a b, I k d r r' → T a b → T (V k d r a) (V' k d r' b)) : ∀ n k d r r' a b, I k d r r' → T a b → T (dfsG ok nx V np n k d r a) (dfsG ok' nx' V' np n k d r' b) := by
  intro n
  induction n with
  | zero => intro k d r r' a b hi t; exact hV k d r r' a b hi t
  | succ n ih =>
    intro k d r r' a b hi t
    refine itF_rel np (fun p hp a b t => ?_) _ _ (hV k d r r' a b hi t)
    rw [← hok k d r r' p hi hp]
    by_cases c : ok d p = true
    · rw [if_pos c, if_pos c]
      obtain ⟨e1, e2⟩ := hI k d r r' p hi hp c
      rw [← e1]
      exact ih _ _ _ _ _ _ e2 t
    · rw [if_neg c, if_neg c]; exact t
/-- the children alone: behind the root -/
theorem dfs_rel1 {A B : Type} {T : A → B → Prop} {I : Nat → Dy → (Nat → Int) → (Nat → Int) → Prop} {ok ok' : Dy → Nat → Bool} {nx nx' : Dy → Nat → Dy} {V : Nat → Dy → (Nat → Int) → A → A} {V' : Nat → Dy → (Nat → Int) → B → B} {np : Nat}
    (hok : ∀ k d r r' p, I k d r r' → p < np → ok d p = ok' d p) (hI : ∀ k d r r' p, I k d r r' → p < np → ok d p = true → nx d p = nx' d p ∧ I (k + 1) (nx d p) (upI r k p) (upI r' k p))
    (hV : ∀ k d r r' a b, I k d r r' → T a b → T (V k d r a) (V' k d r' b)) {n k : Nat} {d : Dy} {r r' : Nat → Int} {a : A} {b : B} (hi : I k d r r') (t : T (V k d r a) (V' k d r' b)) : T (dfsG ok nx V np n k d r a) (dfsG ok' nx' V' np n k d r' b) := by
  cases n with
  | zero => exact t
  | succ n =>
    refine itF_rel np (fun p hp a b t => ?_) _ _ t
    rw [← hok k d r r' p hi hp]
    by_cases c : ok d p = true
    · rw [if_pos c, if_pos c]
      obtain ⟨e1, e2⟩ := hI k d r r' p hi hp c
      rw [← e1]
      exact dfs_rel hok hI hV _ _ _ _ _ _ _ e2 t
    · rw [if_neg c, if_neg c]; exact t
/-- what holds of the end -/
theorem dfs_inv {A : Type} {T : A → Prop} {I : Nat → Dy → (Nat → Int) → Prop} {ok : Dy → Nat → Bool} {nx : Dy → Nat → Dy} {V : Nat → Dy → (Nat → Int) → A → A} {np : Nat}
    (hI : ∀ k d r p, I k d r → p < np → ok d p = true → I (k + 1) (nx d p) (upI r k p)) (hV : ∀ k d r a, I k d r → T a → T (V k d r a)) (n k : Nat) (d : Dy) (r : Nat → Int) (a : A) (hi : I k d r) (t : T a) : T (dfsG ok nx V np n k d r a) :=
  dfs_rel (T := fun a (_ : Unit) => T a) (I := fun k d r _ => I k d r) (ok' := ok) (nx' := nx) (V' := fun _ _ _ u => u) (fun _ _ _ _ _ _ _ => rfl) (fun k d r _ p hi hp c => ⟨rfl, hI k d r p hi hp c⟩) (fun k d r _ a _ hi t => hV k d r a hi t) n k d r r a () hi t
/-- a plan's best: worth (-1: none yet), minute, how many, the row -/
abbrev Bst : Type := Int × Int × Nat × (Nat → Int)
def okP (O : Of) (q s : Nat) (d : Dy) (p : Nat) : Bool := s.testBit p && canF O d p && !voidB O d p q
def okA (O : Of) (s : Nat) (d : Dy) (p : Nat) : Bool := s.testBit p && canF O d p
def vPl (W : Dy → Int) (k : Nat) (d : Dy) (row : Nat → Int) (B : Bst) : Bst := if B.1 < W d ∨ (W d = B.1 ∧ d.1 < B.2.1) then (W d, d.1, k, row) else B
def worF (O : Of) (s : Nat) (d : Dy) : Int := smF (fun p => s.testBit p && inTF O d p) (of_wo O) (of_np O)
def lostF (O : Of) (s : Nat) (d : Dy) : Int := smF (fun p => s.testBit p && !inTF O d p) (of_wo O) (of_np O)
def vLa (O : Of) (s : Nat) (k : Nat) (d : Dy) (_ : Nat → Int) (a : Int) : Int := if cnt (fun p => s.testBit p) 6 ≤ k then (if a < 0 ∨ lostF O s d < a then lostF O s d else a) else a
def sgnN (O : Of) (d : Dy) : Nat := cnt (fun p => d.2.2.2.2.1.testBit p) (of_np O)
theorem cnt_full {P : Nat → Bool} : ∀ n, n ≤ cnt P n → ∀ i, i < n → P i = true := by
  intro n
  induction n with
  | zero => intro _ i hi; omega
  | succ n ih =>
    intro h i hi
    have := cnt_le P n
    unfold cnt at h
    by_cases c : P n = true
    · rw [if_pos c] at h
      by_cases e : i = n
      · rw [e, c]
      · exact ih (by omega) i (by omega)
    · rw [if_neg c] at h; omega
theorem sgn_up {O : Of} {d : Dy} {p q : Nat} (hp : p < of_np O) (hc : canF O d p = true) : sgnN O d + 1 ≤ sgnN O (writeD O d p q) := by
  unfold canF at hc
  have hs := (of_decide_eq_true hc).2.1
  rw [Int.toNat_natCast] at hs
  have e : ∀ i, (writeD O d p q).2.2.2.2.1.testBit i = (d.2.2.2.2.1.testBit i || decide (p = i)) := fun i => by
    show (d.2.2.2.2.1 ||| 2 ^ p).testBit i = _
    rw [Nat.testBit_or, Nat.testBit_two_pow]
  unfold sgnN
  refine cnt_lt (k := p) (fun i q => ?_) hs ?_ _ hp
  · rw [e, q]; rfl
  · rw [e]; simp
theorem can_full {O : Of} {d : Dy} {p : Nat} (h : of_np O ≤ sgnN O d) (hp : p < of_np O) : canF O d p = false := by
  have := cnt_full _ h p hp
  unfold canF
  exact decide_eq_false (fun q => by have := q.2.1; rw [Int.toNat_natCast] at this; simp_all)
