/-! rings: both ways come to the same -/
def eR (O : Of) (q a b : Nat) : Prop := a < of_np O ∧ b < of_np O ∧ q.testBit a = true ∧ q.testBit b = true ∧ (of_re O a).testBit b = true
def tR (O : Of) (q a b : Nat) : Prop := ∀ X : Nat → Prop, (∀ b, eR O q a b → X b) → (∀ c b, X c → eR O q c b → X b) → X b
theorem tR_e {O : Of} {q a b : Nat} (h : eR O q a b) : tR O q a b := fun X h1 _ => h1 b h
theorem tR_s {O : Of} {q a c b : Nat} (h : tR O q a c) (e : eR O q c b) : tR O q a b := fun X h1 h2 => h2 c b (h X h1 h2) e
theorem tR_t {O : Of} {q a c b : Nat} (h : tR O q a c) (h' : tR O q c b) : tR O q a b := h' (fun x => tR O q a x) (fun _ e => tR_s h e) (fun _ _ hx e => tR_s hx e)
theorem re_bit {O : Of} (hw : xw_Off O) {a b q : Nat} (ha : a < of_np O) : (of_re O a &&& q).testBit b = true → b < of_np O ∧ (of_re O a).testBit b = true ∧ q.testBit b = true := by
  intro h
  rw [Nat.testBit_and, Bool.and_eq_true] at h
  refine ⟨?_, h.1, h.2⟩
  apply Classical.byContradiction
  intro hb
  have := (hw.2.2.2.2.2.2 a ha).2.2.2.2.2.2.2.2
  rw [Nat.testBit_lt_two_pow (Nat.lt_of_lt_of_le this (Nat.pow_le_pow_right (by decide) (by omega)))] at h
  cases h.1
/-- the class's rounds -/
theorem rcI_mono (O : Of) (q : Nat) : ∀ k r i, r.testBit i = true → (rcI O q k r).testBit i = true := by
  intro k
  induction k with
  | zero => intro r i h; exact h
  | succ k ih =>
    intro r i h
    unfold rcI
    split
    · rw [Nat.testBit_or, ih r i h]; rfl
    · exact ih r i h
theorem rcI_sound {O : Of} (hw : xw_Off O) {q p : Nat} : ∀ k, k ≤ of_np O → ∀ r, (∀ i, r.testBit i = true → tR O q p i ∧ i < of_np O ∧ q.testBit i = true) → ∀ i, (rcI O q k r).testBit i = true → tR O q p i ∧ i < of_np O ∧ q.testBit i = true := by
  intro k
  induction k with
  | zero => intro _ r h i hi; exact h i hi
  | succ k ih =>
    intro hk r h i hi
    unfold rcI at hi
    split at hi
    · rename_i hc
      rw [Nat.testBit_or, Bool.or_eq_true] at hi
      rcases hi with hi | hi
      · exact ih (by omega) r h i hi
      · obtain ⟨h1, h2, h3⟩ := ih (by omega) r h k hc
        obtain ⟨b1, b2, b3⟩ := re_bit hw h2 hi
        exact ⟨tR_s h1 ⟨h2, b1, h3, b3, b2⟩, b1, b3⟩
    · exact ih (by omega) r h i hi
/-- a round lays what follows from each that was there -/
theorem rcI_adds {O : Of} {q : Nat} : ∀ k r c b, c < k → r.testBit c = true → eR O q c b → (rcI O q k r).testBit b = true := by
  intro k
  induction k with
  | zero => intro r c b hc; omega
  | succ k ih =>
    intro r c b hc h e
    unfold rcI
    by_cases e1 : c = k
    · subst e1
      rw [if_pos (rcI_mono O q c r c h), Nat.testBit_or, Nat.testBit_and, e.2.2.2.1, e.2.2.2.2]
      simp
    · have h2 := ih r c b (by omega) h e
      split
      · rw [Nat.testBit_or, h2]; rfl
      · exact h2
def clR (O : Of) (q r : Nat) : Prop := ∀ c b, r.testBit c = true → eR O q c b → r.testBit b = true
theorem rcI_cl {O : Of} (hw : xw_Off O) {q r : Nat} (hr : ∀ i, r.testBit i = true → i < of_np O ∧ q.testBit i = true) (h : clR O q r) : ∀ k, k ≤ of_np O → rcI O q k r = r := by
  intro k
  induction k with
  | zero => intro _; rfl
  | succ k ih =>
    intro hk
    unfold rcI
    rw [ih (by omega)]
    split
    · rename_i hc
      apply Nat.eq_of_testBit_eq
      intro i
      rw [Nat.testBit_or]
      cases hi : (of_re O k &&& q).testBit i
      · simp
      · obtain ⟨b1, b2, b3⟩ := re_bit hw (hr k hc).1 hi
        rw [h k i hc ⟨(hr k hc).1, b1, (hr k hc).2, b3, b2⟩]; rfl
    · rfl
theorem rcO_all {O : Of} (hw : xw_Off O) {q p : Nat} (hp : p < of_np O) (hq : q.testBit p = true) : ∀ r, (∀ i, (rcO O q r (of_re O p &&& q)).testBit i = true → tR O q p i ∧ i < of_np O ∧ q.testBit i = true) ∧ (∀ i, (of_re O p &&& q).testBit i = true → (rcO O q r (of_re O p &&& q)).testBit i = true) ∧ (clR O q (rcO O q r (of_re O p &&& q)) ∨ r + 1 ≤ cnt (fun i => (rcO O q r (of_re O p &&& q)).testBit i) (of_np O)) := by
  intro r
  induction r with
  | zero =>
    have s0 : ∀ i, (of_re O p &&& q).testBit i = true → tR O q p i ∧ i < of_np O ∧ q.testBit i = true := fun i hi => by
      obtain ⟨b1, b2, b3⟩ := re_bit hw hp hi
      exact ⟨tR_e ⟨hp, b1, hq, b3, b2⟩, b1, b3⟩
    refine ⟨s0, fun i hi => hi, ?_⟩
    by_cases c : ∃ i, (of_re O p &&& q).testBit i = true
    · obtain ⟨i, hi⟩ := c
      have := cnt_pos (P := fun i => (of_re O p &&& q).testBit i) (s0 i hi).2.1 hi
      exact Or.inr (by show 0 + 1 ≤ cnt (fun i => (of_re O p &&& q).testBit i) _; omega)
    · exact Or.inl (fun c1 b h1 _ => absurd ⟨c1, h1⟩ c)
  | succ r ih =>
    obtain ⟨i1, i2, i3⟩ := ih
    have s1 : ∀ i, (rcO O q (r + 1) (of_re O p &&& q)).testBit i = true → tR O q p i ∧ i < of_np O ∧ q.testBit i = true := rcI_sound hw (of_np O) (Nat.le_refl _) _ i1
    have m1 : ∀ i, (rcO O q r (of_re O p &&& q)).testBit i = true → (rcO O q (r + 1) (of_re O p &&& q)).testBit i = true := fun i hi => rcI_mono O q _ _ i hi
    refine ⟨s1, fun i hi => m1 i (i2 i hi), ?_⟩
    by_cases c : clR O q (rcO O q r (of_re O p &&& q))
    · have e : rcO O q (r + 1) (of_re O p &&& q) = rcO O q r (of_re O p &&& q) := rcI_cl hw (fun i hi => (i1 i hi).2) c (of_np O) (Nat.le_refl _)
      rw [e]; exact Or.inl c
    · rcases i3 with i3 | i3
      · exact absurd i3 c
      · have : ∃ c1 b, (rcO O q r (of_re O p &&& q)).testBit c1 = true ∧ eR O q c1 b ∧ (rcO O q r (of_re O p &&& q)).testBit b = false := by
          apply Classical.byContradiction
          intro h
          apply c
          intro c1 b h1 h2
          cases h3 : (rcO O q r (of_re O p &&& q)).testBit b
          · exact absurd ⟨c1, b, h1, h2, h3⟩ h
          · rfl
        obtain ⟨c1, b, h1, h2, h3⟩ := this
        have hb : (rcO O q (r + 1) (of_re O p &&& q)).testBit b = true := rcI_adds (of_np O) _ c1 b h2.1 h1 h2
        have := cnt_lt (P := fun i => (rcO O q r (of_re O p &&& q)).testBit i) (Q := fun i => (rcO O q (r + 1) (of_re O p &&& q)).testBit i) m1 h3 hb (of_np O) h2.2.1
        exact Or.inr (by omega)
theorem reachF_iff {O : Of} (hw : xw_Off O) {q p : Nat} (hp : p < of_np O) (hq : q.testBit p = true) (b : Nat) : (reachF O p q).testBit b = true ↔ tR O q p b := by
  obtain ⟨h1, h2, h3⟩ := rcO_all hw hp hq (of_np O)
  have hc : clR O q (reachF O p q) := by
    rcases h3 with h3 | h3
    · exact h3
    · have := cnt_le (fun i => (rcO O q (of_np O) (of_re O p &&& q)).testBit i) (of_np O)
      omega
  constructor
  · intro h; exact (h1 b h).1
  · intro h
    refine h (fun b => (reachF O p q).testBit b = true) (fun b e => h2 b ?_) (fun c b hx e => hc c b hx e)
    rw [Nat.testBit_and, e.2.2.2.1, e.2.2.2.2]; rfl
/-- the model's way -/
def wI0 (O : Of) (q : Nat) (p : Nat) : Nat := if q.testBit p = true then of_re O p &&& q else 0
def wIn (h : Nat → Nat) (k : Nat) (p : Nat) : Nat := if (h p).testBit k = true then h p ||| h k else h p
def wIo (O : Of) (q : Nat) : Nat → Nat → Nat
  | 0 => wI0 O q
  | k + 1 => wIn (wIo O q k) k
theorem wIo_ok {O : Of} (hw : xw_Off O) {q : Nat} : ∀ k, k ≤ of_np O → (∀ p, p < of_np O → ∀ b, (wIo O q k p).testBit b = true → tR O q p b ∧ b < of_np O) ∧ (∀ p b, eR O q p b → (wIo O q k p).testBit b = true) ∧ ∀ p c b, p < of_np O → c < k → (wIo O q k p).testBit c = true → (wIo O q k c).testBit b = true → (wIo O q k p).testBit b = true := by
  intro k
  induction k with
  | zero =>
    intro _
    refine ⟨fun p hp b hb => ?_, fun p b e => ?_, fun p c b _ hc => by omega⟩
    · have hb : (wI0 O q p).testBit b = true := hb
      unfold wI0 at hb
      split at hb
      · rename_i hq
        obtain ⟨b1, b2, b3⟩ := re_bit hw hp hb
        exact ⟨tR_e ⟨hp, b1, hq, b3, b2⟩, b1⟩
      · rw [Nat.zero_testBit] at hb; cases hb
    · show (wI0 O q p).testBit b = true
      unfold wI0
      rw [if_pos e.2.2.1, Nat.testBit_and, e.2.2.2.1, e.2.2.2.2]; rfl
  | succ k ih =>
    intro hk
    obtain ⟨i1, i2, i3⟩ := ih (by omega)
    have cases1 : ∀ p b, (wIo O q (k + 1) p).testBit b = true → (wIo O q k p).testBit b = true ∨ ((wIo O q k p).testBit k = true ∧ (wIo O q k k).testBit b = true) := fun p b h => by
      have h : (wIn (wIo O q k) k p).testBit b = true := h
      unfold wIn at h
      split at h
      · rename_i hc
        rw [Nat.testBit_or, Bool.or_eq_true] at h
        exact h.imp id (fun q => ⟨hc, q⟩)
      · exact Or.inl h
    have up : ∀ p b, (wIo O q k p).testBit b = true → (wIo O q (k + 1) p).testBit b = true := fun p b h => by
      show (wIn (wIo O q k) k p).testBit b = true
      unfold wIn
      split
      · rw [Nat.testBit_or, h]; rfl
      · exact h
    have via : ∀ p b, (wIo O q k p).testBit k = true → (wIo O q k k).testBit b = true → (wIo O q (k + 1) p).testBit b = true := fun p b h h' => by
      show (wIn (wIo O q k) k p).testBit b = true
      unfold wIn
      rw [if_pos h, Nat.testBit_or, h']; simp
    refine ⟨fun p hp b hb => ?_, fun p b e => up p b (i2 p b e), fun p c b hp hc h1 h2 => ?_⟩
    · rcases cases1 p b hb with h | ⟨h, h'⟩
      · exact i1 p hp b h
      · have a1 := i1 p hp k h
        have a2 := i1 k (by omega) b h'
        exact ⟨tR_t a1.1 a2.1, a2.2⟩
    · by_cases e : c = k
      · subst e
        have a : (wIo O q c p).testBit c = true := by
          rcases cases1 p c h1 with h | ⟨h, _⟩
          · exact h
          · exact h
        have a2 : (wIo O q c c).testBit b = true := by
          rcases cases1 c b h2 with h | ⟨_, h⟩
          · exact h
          · exact h
        exact via p b a a2
      · rcases cases1 p c h1 with h | ⟨h, h'⟩
        · rcases cases1 c b h2 with g | ⟨g, g'⟩
          · exact up p b (i3 p c b hp (by omega) h g)
          · exact via p b (i3 p c k hp (by omega) h g) g'
        · rcases cases1 c b h2 with g | ⟨g, g'⟩
          · exact via p b h (i3 k c b (by omega) (by omega) h' g)
          · exact via p b h g'
theorem wIo_iff {O : Of} (hw : xw_Off O) {q p : Nat} (hp : p < of_np O) (b : Nat) : (wIo O q (of_np O) p).testBit b = true ↔ tR O q p b := by
  obtain ⟨h1, h2, h3⟩ := wIo_ok hw (q := q) (of_np O) (Nat.le_refl _)
  constructor
  · intro h; exact (h1 p hp b h).1
  · intro h
    have := h (fun b => (wIo O q (of_np O) p).testBit b = true ∧ b < of_np O) (fun b e => ⟨h2 p b e, e.2.1⟩) (fun c b hx e => ⟨h3 p c b hp hx.2 hx.1 (h2 c b e), e.2.1⟩)
    exact this.1
theorem tR_q {O : Of} {q p b : Nat} (h : tR O q p b) : q.testBit p = true := by
  cases hq : q.testBit p
  · exact absurd (h (fun _ => False) (fun b e => by rw [e.2.2.1] at hq; cases hq) (fun _ _ hx _ => hx)) id
  · rfl
def ringM (O : Of) (q : Nat) : Nat := msk (fun p => (wIo O q (of_np O) p).testBit p) (of_np O)
theorem msk_ext {P Q : Nat → Bool} : ∀ n, (∀ i, i < n → P i = Q i) → msk P n = msk Q n := by
  intro n
  induction n with
  | zero => intro _; rfl
  | succ n ih => intro h; unfold msk; rw [ih (fun i hi => h i (by omega)), h n (by omega)]
theorem rings_eq {O : Of} (hw : xw_Off O) (q : Nat) : ringM O q = ringsF O q := by
  unfold ringM ringsF
  refine msk_ext _ (fun p hp => ?_)
  cases hq : q.testBit p
  · cases h : (wIo O q (of_np O) p).testBit p
    · rfl
    · have := tR_q ((wIo_iff hw hp p).mp h)
      rw [this] at hq; cases hq
  · have h1 := wIo_iff hw (q := q) hp p
    have h2 := reachF_iff hw hp hq p
    have e : (wIo O q (of_np O) p).testBit p = true ↔ (reachF O p q).testBit p = true := h1.trans h2.symm
    cases a : (wIo O q (of_np O) p).testBit p <;> cases b : (reachF O p q).testBit p <;> simp_all
