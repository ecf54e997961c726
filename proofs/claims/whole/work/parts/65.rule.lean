/-! rules: steps and what they come to -/
abbrev St : Type := Nat × Nat
def jn (s : Nat) (x y : Int64) : Int64 :=
  if s = 2 then x + y else if s = 3 then x - y else if s = 4 then x * y else if s = 5 then (if y = 0 then 0 else x / y) else if s = 6 then (if y = 0 then 0 else x - x / y * y) else
  if s = 7 then (if x < y then 1 else 0) else if s = 8 then (if y < x then 0 else 1) else if s = 9 then (if x = y then 1 else 0) else if s = 10 then (if x < y then 0 else 1) else if s = 11 then (if y < x then 1 else 0) else
  if s = 12 then (if x ≠ 0 ∧ y ≠ 0 then 1 else 0) else (if x ≠ 0 ∨ y ≠ 0 then 1 else 0)
/-- the model's number of a step -/
def mkS (s : Nat) : Nat := if s ≤ 5 then s else if s = 6 then 14 else if s ≤ 11 then s - 1 else if s = 14 then 11 else s
def ev1 (wd : Nat → Int64) (c : St) (st : List Int64) : List Int64 :=
  if c.1 = 0 then jx c.2 :: st else if c.1 = 1 then wd c.2 :: st else if c.1 = 14 then (match st with | x :: t => (1 - x) :: t | [] => []) else (match st with | y :: x :: t => jn c.1 x y :: t | _ => st)
def ev (wd : Nat → Int64) : List St → List Int64 → List Int64
  | [], st => st
  | c :: cs, st => ev wd cs (ev1 wd c st)
def ty1 (c : St) (ts : List Bool) : Option (List Bool) :=
  if c.1 = 0 then (if c.2 < 100000 then some (false :: ts) else none) else if c.1 = 1 then (if c.2 < 13 then some (false :: ts) else none) else
  if c.1 = 14 then (match ts with | true :: t => some (true :: t) | _ => none) else
  if c.1 ≤ 6 then (match ts with | false :: false :: t => some (false :: t) | _ => none) else
  if c.1 ≤ 11 then (match ts with | false :: false :: t => some (true :: t) | _ => none) else
  if c.1 ≤ 13 then (match ts with | true :: true :: t => some (true :: t) | _ => none) else none
def tyC : List St → List Bool → Option (List Bool)
  | [], ts => some ts
  | c :: cs, ts => match ty1 c ts with
    | some ts' => tyC cs ts'
    | none => none
def tv : List Bool → List Int64 → Prop
  | [], [] => True
  | b :: ts, x :: st => (b = true → x = 0 ∨ x = 1) ∧ tv ts st
  | _, _ => False
/-- how many steps push -/
def pcC : List St → Nat
  | [] => 0
  | c :: cs => (if c.1 ≤ 1 then 1 else 0) + pcC cs
theorem tyC_app : ∀ (cs cs' : List St) (ts : List Bool), tyC (cs ++ cs') ts = match tyC cs ts with | some ts' => tyC cs' ts' | none => none := by
  intro cs
  induction cs with
  | nil => intro cs' ts; rfl
  | cons c cs ih =>
    intro cs' ts
    show (match ty1 c ts with | some ts' => tyC (cs ++ cs') ts' | none => none) = match (match ty1 c ts with | some ts' => tyC cs ts' | none => none) with | some ts' => tyC cs' ts' | none => none
    cases ty1 c ts with
    | none => rfl
    | some ts' => exact ih cs' ts'
theorem pcC_app : ∀ (cs cs' : List St), pcC (cs ++ cs') = pcC cs + pcC cs' := by
  intro cs
  induction cs with
  | nil => intro cs'; show pcC cs' = 0 + pcC cs'; omega
  | cons c cs ih => intro cs'; show (if c.1 ≤ 1 then 1 else 0) + pcC (cs ++ cs') = (if c.1 ≤ 1 then 1 else 0) + pcC cs + pcC cs'; rw [ih]; omega
theorem ev_app (wd : Nat → Int64) : ∀ (cs cs' : List St) (st : List Int64), ev wd (cs ++ cs') st = ev wd cs' (ev wd cs st) := by
  intro cs
  induction cs with
  | nil => intro cs' st; rfl
  | cons c cs ih => intro cs' st; exact ih cs' _
theorem tv_len : ∀ {ts : List Bool} {st : List Int64}, tv ts st → st.length = ts.length := by
  intro ts
  induction ts with
  | nil => intro st h; cases st with
    | nil => rfl
    | cons x st => exact h.elim
  | cons b ts ih => intro st h; cases st with
    | nil => exact h.elim
    | cons x st => show st.length + 1 = ts.length + 1; rw [ih h.2]
/-- one step by its kind -/
theorem ty1_cases {c : St} {ts ts' : List Bool} {st : List Int64} (h : ty1 c ts = some ts') (hv : tv ts st) :
    (c.1 = 0 ∧ c.2 < 100000 ∧ ts' = false :: ts) ∨ (c.1 = 1 ∧ c.2 < 13 ∧ ts' = false :: ts) ∨ (c.1 = 14 ∧ ∃ x t u, st = x :: t ∧ (x = 0 ∨ x = 1) ∧ ts = true :: u ∧ ts' = true :: u ∧ tv u t) ∨
    (2 ≤ c.1 ∧ c.1 ≤ 13 ∧ ∃ y x t u b, st = y :: x :: t ∧ ts.length = u.length + 2 ∧ ts' = b :: u ∧ tv u t ∧ (b = true ↔ 7 ≤ c.1) ∧ (12 ≤ c.1 → (x = 0 ∨ x = 1) ∧ (y = 0 ∨ y = 1))) := by
  unfold ty1 at h
  split at h
  · rename_i h0
    split at h
    · cases h; exact Or.inl ⟨h0, by assumption, rfl⟩
    · cases h
  · split at h
    · rename_i h1
      split at h
      · cases h; exact Or.inr (Or.inl ⟨h1, by assumption, rfl⟩)
      · cases h
    · split at h
      · rename_i h14
        split at h
        · cases h
          cases st with
          | nil => exact hv.elim
          | cons x st => exact Or.inr (Or.inr (Or.inl ⟨h14, x, st, _, rfl, hv.1 rfl, rfl, rfl, hv.2⟩))
        · cases h
      · split at h
        · split at h
          · cases h
            cases st with
            | nil => exact hv.elim
            | cons y st => cases st with
              | nil => exact hv.2.elim
              | cons x st => exact Or.inr (Or.inr (Or.inr ⟨by omega, by omega, y, x, st, _, false, rfl, rfl, rfl, hv.2.2, ⟨fun q => (by cases q), fun q => (by omega)⟩, fun q => (by omega)⟩))
          · cases h
        · split at h
          · split at h
            · cases h
              cases st with
              | nil => exact hv.elim
              | cons y st => cases st with
                | nil => exact hv.2.elim
                | cons x st => exact Or.inr (Or.inr (Or.inr ⟨by omega, by omega, y, x, st, _, true, rfl, rfl, rfl, hv.2.2, ⟨fun _ => (by omega), fun _ => rfl⟩, fun q => (by omega)⟩))
            · cases h
          · split at h
            · split at h
              · cases h
                cases st with
                | nil => exact hv.elim
                | cons y st => cases st with
                  | nil => exact hv.2.elim
                  | cons x st => exact Or.inr (Or.inr (Or.inr ⟨by omega, by omega, y, x, st, _, true, rfl, rfl, rfl, hv.2.2, ⟨fun _ => (by omega), fun _ => rfl⟩, fun _ => ⟨hv.2.1 rfl, hv.1 rfl⟩⟩))
              · cases h
            · cases h
theorem jn_01 {s : Nat} {x y : Int64} (h1 : 7 ≤ s) : jn s x y = 0 ∨ jn s x y = 1 := by
  unfold jn
  rw [if_neg (by omega), if_neg (by omega), if_neg (by omega), if_neg (by omega), if_neg (by omega)]
  repeat' split
  all_goals first | exact Or.inl rfl | exact Or.inr rfl
theorem ev1_tv {wd : Nat → Int64} {c : St} {ts ts' : List Bool} {st : List Int64} (h : ty1 c ts = some ts') (hv : tv ts st) : tv ts' (ev1 wd c st) := by
  rcases ty1_cases h hv with ⟨h0, _, e⟩ | ⟨h0, _, e⟩ | ⟨h0, x, t, u, e1, e2, e3, e4, e5⟩ | ⟨h0, h1, y, x, t, u, b, e1, e2, e3, e4, e5, e6⟩
  · unfold ev1; rw [if_pos h0, e]; exact ⟨fun q => (by cases q), hv⟩
  · unfold ev1; rw [if_neg (by omega), if_pos h0, e]; exact ⟨fun q => (by cases q), hv⟩
  · unfold ev1; rw [if_neg (by omega), if_neg (by omega), if_pos h0, e1, e4]
    refine ⟨fun _ => ?_, e5⟩
    rcases e2 with rfl | rfl
    · exact Or.inr (by decide)
    · exact Or.inl (by decide)
  · unfold ev1; rw [if_neg (by omega), if_neg (by omega), if_neg (by omega), e1, e3]
    exact ⟨fun q => jn_01 (e5.mp q), e4⟩
theorem ev_tv {wd : Nat → Int64} : ∀ {cs : List St} {ts ts' : List Bool} {st : List Int64}, tyC cs ts = some ts' → tv ts st → tv ts' (ev wd cs st) := by
  intro cs
  induction cs with
  | nil => intro ts ts' st h hv; cases h; exact hv
  | cons c cs ih =>
    intro ts ts' st h hv
    unfold tyC at h
    cases h1 : ty1 c ts with
    | none => rw [h1] at h; cases h
    | some t1 => rw [h1] at h; exact ih h (ev1_tv h1 hv)
theorem tv_app : ∀ {ts u : List Bool} {st bt : List Int64}, tv ts st → tv u bt → tv (ts ++ u) (st ++ bt) := by
  intro ts
  induction ts with
  | nil => intro u st bt h h'; cases st with
    | nil => exact h'
    | cons x st => exact h.elim
  | cons b ts ih => intro u st bt h h'; cases st with
    | nil => exact h.elim
    | cons x st => exact ⟨h.1, ih h.2 h'⟩
/-- what lies below is left alone -/
theorem ev_bt {wd : Nat → Int64} {bt : List Int64} : ∀ {cs : List St} {ts ts' : List Bool} {st : List Int64}, tyC cs ts = some ts' → tv ts st → ev wd cs (st ++ bt) = ev wd cs st ++ bt := by
  intro cs
  induction cs with
  | nil => intro ts ts' st _ _; rfl
  | cons c cs ih =>
    intro ts ts' st h hv
    unfold tyC at h
    cases h1 : ty1 c ts with
    | none => rw [h1] at h; cases h
    | some t1 =>
      rw [h1] at h
      have e : ev1 wd c (st ++ bt) = ev1 wd c st ++ bt := by
        rcases ty1_cases h1 hv with ⟨h0, _, _⟩ | ⟨h0, _, _⟩ | ⟨h0, x, t, u, e1, _⟩ | ⟨h0, h2, y, x, t, u, b, e1, _⟩
        · unfold ev1; rw [if_pos h0, if_pos h0]; rfl
        · unfold ev1; rw [if_neg (by omega), if_pos h0, if_neg (by omega), if_pos h0]; rfl
        · unfold ev1; rw [if_neg (by omega), if_neg (by omega), if_pos h0, if_neg (by omega), if_neg (by omega), if_pos h0, e1]; rfl
        · unfold ev1; rw [if_neg (by omega), if_neg (by omega), if_neg (by omega), if_neg (by omega), if_neg (by omega), if_neg (by omega), e1]; rfl
      show ev wd cs (ev1 wd c (st ++ bt)) = ev wd cs (ev1 wd c st) ++ bt
      rw [e]
      exact ih h (ev1_tv h1 hv)
theorem ev_len1 {wd : Nat → Int64} {c : St} {ts ts' : List Bool} {st : List Int64} (h : ty1 c ts = some ts') (hv : tv ts st) : (ev1 wd c st).length ≤ st.length + (if c.1 ≤ 1 then 1 else 0) := by
  rcases ty1_cases h hv with ⟨h0, _, _⟩ | ⟨h0, _, _⟩ | ⟨h0, x, t, u, e1, _⟩ | ⟨h0, h2, y, x, t, u, b, e1, _⟩
  · unfold ev1; rw [if_pos h0, if_pos (by omega)]; exact Nat.le_refl _
  · unfold ev1; rw [if_neg (by omega), if_pos h0, if_pos (by omega)]; exact Nat.le_refl _
  · unfold ev1; rw [if_neg (by omega), if_neg (by omega), if_pos h0, e1]; show t.length + 1 ≤ t.length + 1 + _; omega
  · unfold ev1; rw [if_neg (by omega), if_neg (by omega), if_neg (by omega), e1]; show t.length + 1 ≤ t.length + 1 + 1 + _; omega
/-- a rule: sums, each with a test or without -/
abbrev Ru : Type := List (List St × Option (List St))
def clOK (c : List St × Option (List St)) : Prop := tyC c.1 [] = some [false] ∧ match c.2 with | some t => tyC t [] = some [true] | none => True
def pcR : Ru → Nat
  | [] => 0
  | c :: cs => pcC c.1 + (match c.2 with | some t => pcC t | none => 0) + pcR cs
def ruOK (ru : Ru) : Prop := (∀ c, c ∈ ru → clOK c) ∧ pcR ru ≤ 60
def topE (st : List Int64) : Int64 := match st with | x :: _ => x | [] => 0
def rvF (wd : Nat → Int64) : Ru → Int64
  | [] => 0
  | (s, none) :: _ => topE (ev wd s [])
  | (s, some t) :: r => if topE (ev wd t []) = 1 then topE (ev wd s []) else rvF wd r
theorem lc_lt (u v : Int64) : (lg_cmp u v < xj 0) = (u < v) := by
  unfold lg_cmp
  apply propext
  by_cases c : v < u
  · rw [if_pos c]
    exact ⟨fun q => absurd q (by decide), fun q => by rw [Int64.lt_iff_toInt_lt] at c q; omega⟩
  · rw [if_neg c]
    by_cases c2 : u = v
    · rw [if_pos c2]
      exact ⟨fun q => absurd q (by decide), fun q => by rw [c2, Int64.lt_iff_toInt_lt] at q; omega⟩
    · rw [if_neg c2]
      refine ⟨fun _ => ?_, fun _ => by decide⟩
      rw [Int64.lt_iff_toInt_lt] at c ⊢
      have : u.toInt ≠ v.toInt := fun q => c2 (Int64.toInt_inj.mp q)
      omega
theorem lc_ge (u v : Int64) : (xj 0 ≤ lg_cmp u v) = ¬ (u < v) := by
  have h := lc_lt u v
  rw [← h]
  apply propext
  rw [Int32.le_iff_toInt_le, Int32.lt_iff_toInt_lt]
  omega
theorem lc_gt (u v : Int64) : (xj 0 < lg_cmp u v) = (v < u) := by
  unfold lg_cmp
  apply propext
  by_cases c : v < u
  · rw [if_pos c]
    exact ⟨fun _ => c, fun _ => by decide⟩
  · rw [if_neg c]
    by_cases c2 : u = v
    · rw [if_pos c2]
      exact ⟨fun q => absurd q (by decide), fun q => absurd q c⟩
    · rw [if_neg c2]
      exact ⟨fun q => absurd q (by decide), fun q => absurd q c⟩
theorem lc_le (u v : Int64) : (lg_cmp u v ≤ xj 0) = ¬ (v < u) := by
  have h := lc_gt u v
  rw [← h]
  apply propext
  rw [Int32.le_iff_toInt_le, Int32.lt_iff_toInt_lt]
  omega
theorem lc_eq (u v : Int64) : (lg_cmp u v = xj 0) = (u = v) := by
  unfold lg_cmp
  apply propext
  by_cases c : v < u
  · rw [if_pos c]
    exact ⟨fun q => absurd q (by decide), fun q => by rw [q, Int64.lt_iff_toInt_lt] at c; omega⟩
  · rw [if_neg c]
    by_cases c2 : u = v
    · rw [if_pos c2]
      exact ⟨fun _ => c2, fun _ => by decide⟩
    · rw [if_neg c2]
      exact ⟨fun q => absurd q (by decide), fun q => absurd q c2⟩
