/-! THE PURE SIDE: what runs of the abstract machine come to, as equivalences that simp can take -/
def xk_B (d y pc : Nat) (ρ st : List Value) (σ : xk_S) (K : Option Value → xk_S → Prop) : Prop := ∃ (n : Nat) (r : Option Value) (σ' : xk_S), xk_run (xk_M d) y n pc ρ st σ = some (r, σ') ∧ K r σ'
def xk_Cl (d y : Nat) (as : List Value) (σ : xk_S) (K : Option Value → xk_S → Prop) : Prop := ∃ (n : Nat) (r : Option Value) (σ' : xk_S), xk_M d n y as σ = some (r, σ') ∧ K r σ'
theorem xk_step {d y pc : Nat} {ρ st : List Value} {σ : xk_S} {K : Option Value → xk_S → Prop} {P : Prop} (h : ∀ n, (∃ r σ', xk_run (xk_M d) y (n + 1) pc ρ st σ = some (r, σ') ∧ K r σ') → P) (h' : P → ∃ n r σ', xk_run (xk_M d) y (n + 1) pc ρ st σ = some (r, σ') ∧ K r σ') : xk_B d y pc ρ st σ K ↔ P := by
  constructor
  · rintro ⟨n, r, σ', h1, h2⟩
    cases n with
    | zero => cases h1
    | succ n => exact h n ⟨r, σ', h1, h2⟩
  · intro hp
    obtain ⟨n, r, σ', h1, h2⟩ := h' hp
    exact ⟨n + 1, r, σ', h1, h2⟩
theorem xk_B_pure {d y pc len : Nat} {i : Instr} {ρ st ρ' st' : List Value} {σ : xk_S} {K : Option Value → xk_S → Prop} (h : xk_ins y pc = some (i, len)) (hp : xk_pure (xk_own y) i len ρ st = some (ρ', st')) : xk_B d y pc ρ st σ K ↔ xk_B d y (pc + len) ρ' st' σ K := by
  have e : ∀ n, xk_run (xk_M d) y (n + 1) pc ρ st σ = xk_run (xk_M d) y n (pc + len) ρ' st' σ := fun n => by rw [xk_run]; simp only [h, hp]
  refine xk_step (fun n q => ?_) (fun q => ?_)
  · obtain ⟨r, σ', h1, h2⟩ := q
    exact ⟨n, r, σ', by rw [← e]; exact h1, h2⟩
  · obtain ⟨n, r, σ', h1, h2⟩ := q
    exact ⟨n, r, σ', by rw [e]; exact h1, h2⟩
theorem xk_B_br {d y pc len tgt : Nat} {i : Instr} {off : Int} {ρ st st' : List Value} {σ : xk_S} {K : Option Value → xk_S → Prop} {P : Prop} [Decidable P] (h : xk_ins y pc = some (i, len)) (hp : xk_pure (xk_own y) i len ρ st = none) (hb : xk_br i len st = some (decide P, off, st')) (ht : (pc : Int) + off = (tgt : Int)) : xk_B d y pc ρ st σ K ↔ if P then xk_B d y tgt ρ st' σ K else xk_B d y (pc + len) ρ st' σ K := by
  have ht2 : ((pc : Int) + off).toNat = tgt := by omega
  have ht3 : 0 ≤ (pc : Int) + off := by omega
  by_cases hP : P
  · have e : ∀ n, xk_run (xk_M d) y (n + 1) pc ρ st σ = xk_run (xk_M d) y n tgt ρ st' σ := fun n => by rw [xk_run]; simp only [h, hp, hb, hP, decide_true, if_true, ht2, ht3]
    rw [if_pos hP]
    refine xk_step (fun n q => ?_) (fun q => ?_)
    · obtain ⟨r, σ', h1, h2⟩ := q
      exact ⟨n, r, σ', by rw [← e]; exact h1, h2⟩
    · obtain ⟨n, r, σ', h1, h2⟩ := q
      exact ⟨n, r, σ', by rw [e]; exact h1, h2⟩
  · have e : ∀ n, xk_run (xk_M d) y (n + 1) pc ρ st σ = xk_run (xk_M d) y n (pc + len) ρ st' σ := fun n => by rw [xk_run]; simp [h, hp, hb, hP]
    rw [if_neg hP]
    refine xk_step (fun n q => ?_) (fun q => ?_)
    · obtain ⟨r, σ', h1, h2⟩ := q
      exact ⟨n, r, σ', by rw [← e]; exact h1, h2⟩
    · obtain ⟨n, r, σ', h1, h2⟩ := q
      exact ⟨n, r, σ', by rw [e]; exact h1, h2⟩
theorem xk_B_go {d y pc len tgt : Nat} {i : Instr} {off : Int} {ρ st st' : List Value} {σ : xk_S} {K : Option Value → xk_S → Prop} (h : xk_ins y pc = some (i, len)) (hp : xk_pure (xk_own y) i len ρ st = none) (hb : xk_br i len st = some (true, off, st')) (ht : (pc : Int) + off = (tgt : Int)) : xk_B d y pc ρ st σ K ↔ xk_B d y tgt ρ st' σ K := by
  rw [xk_B_br (P := True) (st' := st') h hp (by rw [hb]; simp) ht, if_pos trivial]
theorem xk_B_heap {d y pc len : Nat} {i : Instr} {ρ st : List Value} {σ : xk_S} {K : Option Value → xk_S → Prop} (h : xk_ins y pc = some (i, len)) (hp : xk_pure (xk_own y) i len ρ st = none) (hb : xk_br i len st = none) (hc : xk_heap (xk_own y) (xk_ini y) i len st σ = none → xk_call (xk_own y) i len st σ = none) (hr : xk_heap (xk_own y) (xk_ini y) i len st σ = none → xk_ret y i len st = none) :
    xk_B d y pc ρ st σ K ↔ ∃ st' σ', xk_heap (xk_own y) (xk_ini y) i len st σ = some (st', σ') ∧ xk_B d y (pc + len) ρ st' σ' K := by
  refine xk_step (fun n q => ?_) (fun q => ?_)
  · obtain ⟨r, σ', h1, h2⟩ := q
    rw [xk_run] at h1
    simp only [h, hp, hb] at h1
    cases hh : xk_heap (xk_own y) (xk_ini y) i len st σ with
    | none => rw [hh] at h1; simp only [hc hh, hr hh] at h1; cases h1
    | some q => rw [hh] at h1; exact ⟨q.1, q.2, rfl, n, r, σ', h1, h2⟩
  · obtain ⟨st', σ1, hh, n, r, σ', h1, h2⟩ := q
    refine ⟨n, r, σ', ?_, h2⟩
    rw [xk_run]
    simp only [h, hp, hb, hh]
    exact h1
theorem xk_B_call {d y pc z : Nat} {i : Instr} {ρ st as rest : List Value} {σ : xk_S} {K : Option Value → xk_S → Prop} (h : xk_ins y pc = some (i, 3)) (hp : xk_pure (xk_own y) i 3 ρ st = none) (hb : xk_br i 3 st = none) (hh : xk_heap (xk_own y) (xk_ini y) i 3 st σ = none) (hc : xk_call (xk_own y) i 3 st σ = some (z, as, rest)) :
    xk_B d y pc ρ st σ K ↔ xk_Cl d z as σ (fun v σ' => xk_B d y (pc + 3) ρ (v.toList ++ rest) σ' K) := by
  refine xk_step (fun n q => ?_) (fun q => ?_)
  · obtain ⟨r, σ', h1, h2⟩ := q
    rw [xk_run] at h1
    simp only [h, hp, hb, hh, hc] at h1
    cases hm : xk_M d n z as σ with
    | none => rw [hm] at h1; cases h1
    | some q => rw [hm] at h1; exact ⟨n, q.1, q.2, hm, n, r, σ', h1, h2⟩
  · obtain ⟨n1, v, σ1, hm, n2, r, σ', h1, h2⟩ := q
    refine ⟨max n1 n2, r, σ', ?_, h2⟩
    rw [xk_run]
    simp only [h, hp, hb, hh, hc]
    rw [xk_M_mono d d (Nat.le_refl _) n1 (max n1 n2) _ _ _ _ (Nat.le_max_left _ _) hm]
    exact xk_run_mono n2 (max n1 n2) (Nat.le_max_right _ _) (fun k k' z as σ q hk => xk_M_mono d d (Nat.le_refl _) k k' z as σ q hk) _ _ _ _ _ h1
theorem xk_B_ret {d y pc len : Nat} {i : Instr} {ρ st : List Value} {σ : xk_S} {K : Option Value → xk_S → Prop} {r : Option Value} (h : xk_ins y pc = some (i, len)) (hp : xk_pure (xk_own y) i len ρ st = none) (hb : xk_br i len st = none) (hh : xk_heap (xk_own y) (xk_ini y) i len st σ = none) (hc : xk_call (xk_own y) i len st σ = none) (hr : xk_ret y i len st = some r) : xk_B d y pc ρ st σ K ↔ K r σ := by
  refine xk_step (fun n q => ?_) (fun q => ?_)
  · obtain ⟨r', σ', h1, h2⟩ := q
    rw [xk_run] at h1
    simp only [h, hp, hb, hh, hc, hr] at h1
    cases h1
    exact h2
  · refine ⟨0, r, σ, ?_, q⟩
    rw [xk_run]
    simp only [h, hp, hb, hh, hc, hr]
    rfl
theorem xk_Cl_in {D y : Nat} {as : List Value} {σ : xk_S} {K : Option Value → xk_S → Prop} {ρ : List Value} (hD : 1 ≤ D) (h9 : y < 900) (hl : (xk_ent as).length ≤ xk_nL y) (he : xk_env y as = ρ) : xk_Cl D y as σ K ↔ xk_B (D - 1) y 0 ρ [] σ K := by
  subst he
  obtain ⟨d, rfl⟩ : ∃ d, D = d + 1 := ⟨D - 1, by omega⟩
  rw [Nat.add_sub_cancel]
  unfold xk_Cl xk_B
  have e : ∀ n, xk_M (d + 1) n y as σ = xk_run (xk_M d) y n 0 (xk_env y as) [] σ := fun n => by
    rw [xk_M]
    simp only [show ¬ 900 ≤ y from Nat.not_le.mpr h9, if_false, hl, if_true]
  simp only [e]
theorem xk_Cl_mono {D D' y : Nat} {as : List Value} {σ : xk_S} {K : Option Value → xk_S → Prop} (hD : D ≤ D') (h : xk_Cl D y as σ K) : xk_Cl D' y as σ K := by
  obtain ⟨n, r, σ', h1, h2⟩ := h
  exact ⟨n, r, σ', xk_M_mono D D' hD n n _ _ _ _ (Nat.le_refl _) h1, h2⟩
/-- there is one end -/
theorem xk_Cl_det {D y : Nat} {as : List Value} {σ σ0 : xk_S} {r0 : Option Value} {K : Option Value → xk_S → Prop} (h : xk_Cl D y as σ (fun r s => r = r0 ∧ s = σ0)) : xk_Cl D y as σ K ↔ K r0 σ0 := by
  obtain ⟨n, r, σ', h1, rfl, rfl⟩ := h
  constructor
  · rintro ⟨n2, r2, σ2, h3, h4⟩
    have e1 := xk_M_mono D D (Nat.le_refl _) n (max n n2) _ _ _ _ (Nat.le_max_left _ _) h1
    have e2 := xk_M_mono D D (Nat.le_refl _) n2 (max n n2) _ _ _ _ (Nat.le_max_right _ _) h3
    have := Option.some.inj (e1.symm.trans e2)
    cases this
    exact h4
  · intro hk
    exact ⟨n, _, _, h1, hk⟩
theorem xk_B_det {d y pc : Nat} {ρ st : List Value} {σ σ0 : xk_S} {r0 : Option Value} {K : Option Value → xk_S → Prop} (h : xk_B d y pc ρ st σ (fun r s => r = r0 ∧ s = σ0)) : xk_B d y pc ρ st σ K ↔ K r0 σ0 := by
  obtain ⟨n, r, σ', h1, rfl, rfl⟩ := h
  have mono : ∀ n n' q, n ≤ n' → xk_run (xk_M d) y n pc ρ st σ = some q → xk_run (xk_M d) y n' pc ρ st σ = some q := fun n n' q hn h => xk_run_mono n n' hn (fun k k' z as σ q hk => xk_M_mono d d (Nat.le_refl _) k k' z as σ q hk) _ _ _ _ _ h
  constructor
  · rintro ⟨n2, r2, σ2, h3, h4⟩
    have e1 := mono n (max n n2) _ (Nat.le_max_left _ _) h1
    have e2 := mono n2 (max n n2) _ (Nat.le_max_right _ _) h3
    have := Option.some.inj (e1.symm.trans e2)
    cases this
    exact h4
  · intro hk
    exact ⟨n, _, _, h1, hk⟩
/-! what steps on the heap come to -/
def xk_GF (f : Nat → xk_C) (a ci k : Nat) (g : Value → Prop) : Prop := match f a with
  | .inr (c, fs) => c = ci ∧ match fs[k]? with
    | some v => g v
    | none => False
  | .inl _ => False
def xk_PF (f : Nat → xk_C) (a ci k : Nat) (v : Value) (g : (Nat → xk_C) → Prop) : Prop := match f a with
  | .inr (c, fs) => c = ci ∧ k < fs.length ∧ g (va_up f a (.inr (ci, fs.set k v)))
  | .inl _ => False
def xk_AL (f : Nat → xk_C) (a t : Nat) (j : Int32) (g : Int32 → Prop) : Prop := match f a with
  | .inl (t', n, .inl h) => t' = t ∧ ¬ (j < 0 ∨ n ≤ j.toNatClampNeg) ∧ g (h j.toNatClampNeg)
  | _ => False
def xk_ALJ (f : Nat → xk_C) (a : Nat) (j : Int32) (g : Int64 → Prop) : Prop := match f a with
  | .inl (t', n, .inr (.inl h)) => t' = 3 ∧ ¬ (j < 0 ∨ n ≤ j.toNatClampNeg) ∧ g (h j.toNatClampNeg)
  | _ => False
def xk_ALQ (f : Nat → xk_C) (a : Nat) (j : Int32) (g : Value → Prop) : Prop := match f a with
  | .inl (t', n, .inr (.inr (.inr (.inr h)))) => (t' = 4 ∨ t' = 5 ∨ t' = 6) ∧ ¬ (j < 0 ∨ n ≤ j.toNatClampNeg) ∧ g (va_rf (h j.toNatClampNeg))
  | _ => False
def xk_AS (f : Nat → xk_C) (a : Nat) (j x : Int32) (g : (Nat → xk_C) → Prop) : Prop := match f a with
  | .inl (t', n, .inl h) => t' = 0 ∧ ¬ (j < 0 ∨ n ≤ j.toNatClampNeg) ∧ g (va_up f a (.inl (0, n, .inl (va_up h j.toNatClampNeg x))))
  | _ => False
def xk_ASB (f : Nat → xk_C) (a : Nat) (j x : Int32) (g : (Nat → xk_C) → Prop) : Prop := match f a with
  | .inl (t', n, .inl h) => (t' = 1 ∨ t' = 2) ∧ ¬ (j < 0 ∨ n ≤ j.toNatClampNeg) ∧ g (va_up f a (.inl (t', n, .inl (va_up h j.toNatClampNeg (if t' = 1 then x.toInt8.toInt32 else x &&& 1)))))
  | _ => False
def xk_ASJ (f : Nat → xk_C) (a : Nat) (j : Int32) (x : Int64) (g : (Nat → xk_C) → Prop) : Prop := match f a with
  | .inl (t', n, .inr (.inl h)) => t' = 3 ∧ ¬ (j < 0 ∨ n ≤ j.toNatClampNeg) ∧ g (va_up f a (.inl (3, n, .inr (.inl (va_up h j.toNatClampNeg x)))))
  | _ => False
def xk_ASQ (f : Nat → xk_C) (a v : Nat) (j : Int32) (g : (Nat → xk_C) → Prop) : Prop := match f a, f v with
  | .inl (t', n, .inr (.inr (.inr (.inr h)))), .inr (c, _) => xk_rk c = some t' ∧ ¬ (j < 0 ∨ n ≤ j.toNatClampNeg) ∧ g (va_up f a (.inl (t', n, .inr (.inr (.inr (.inr (va_up h j.toNatClampNeg (some v))))))))
  | _, _ => False
def xk_LN (f : Nat → xk_C) (a : Nat) (g : Int32 → Prop) : Prop := match f a with
  | .inl (t', x) => t' < 7 ∧ g (Int32.ofNat x.1)
  | _ => False
def xk_RC (f : Nat → xk_C) (b ci : Nat) : Prop := match f b with
  | .inr (c, _) => c = ci
  | .inl _ => False
