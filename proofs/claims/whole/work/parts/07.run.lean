/-! the abstract machine: calls, runs; what it says is what the machine does -/
def xk_tb : List Int32 := [112, 97, 112, 101, 114, 32, 99, 108, 101, 114, 107, 32, 115, 116, 114, 111, 107, 101, 115, 32, 100, 117, 101, 32, 119, 111, 114, 116, 104, 32, 119, 97, 121, 32, 108, 101, 102, 116, 32, 110, 101, 101, 100, 115, 32, 98, 101, 97, 114, 115, 32, 105, 110, 107, 32, 110, 105, 98, 32, 109, 105, 110, 117, 116, 101, 32, 98, 101, 103, 105, 110, 115, 32, 111, 102, 102, 105, 99, 101, 32, 97, 119, 97, 121, 32, 114, 101, 115, 116, 115, 32, 115, 105, 103, 110, 32, 105, 102, 32, 111, 114, 32, 97, 110, 100, 32, 110, 111, 116]
/-- String.length(), String.charAt(int) of the constant -/
def xk_natM (z : Nat) (as : List Value) (σ : xk_S) : Option (Option Value × xk_S) :=
  if z = 900 then
    match as with
    | [.ref b] => if b = σ.2.2.2 then some (some (.int 109), σ) else none
    | _ => none
  else if z = 901 then
    match as with
    | [.ref b, .int k] => if b = σ.2.2.2 ∧ ¬ (k < 0 ∨ 109 ≤ k.toNatClampNeg) then some (some (.int (xk_tb.getD k.toNatClampNeg 0)), σ) else none
    | _ => none
  else none
def xk_nm (y : Nat) : MethodName := if y = 900 then ⟨"java/lang/String", "length", "()I"⟩ else if y = 901 then ⟨"java/lang/String", "charAt", "(I)C"⟩ else ((xk_mt y).map (fun e => e.2.1)).getD ⟨"", "", ""⟩
def xk_ini (y : Nat) : Bool := decide ((xk_nm y).name = "<init>")
def xk_sum (st : List Value) : Nat := (st.map (fun v => v.category)).sum
def xk_call (o : Nat) (i : Instr) (len : Nat) (st : List Value) (σ : xk_S) : Option (Nat × List Value × List Value) :=
  match i with
  | .invokevirtual idx => match xk_nat o idx with
    | some 0 => match st with
      | .ref b :: rest => if len = 3 ∧ b = σ.2.2.2 ∧ xk_sum rest ≤ 8 then some (900, [.ref b], rest) else none
      | _ => none
    | some 1 => match st with
      | k :: .ref b :: rest => if len = 3 ∧ b = σ.2.2.2 ∧ xk_sum rest ≤ 8 then some (901, [.ref b, k], rest) else none
      | _ => none
    | some _ => none
    | none => match xk_mth o idx with
      | some (z, nest) => match xk_mt z with
        | some (ci, mn, _, _, _, stat, np) => match st.drop np with
          | .ref b :: rest => match σ.1 b with
            | .inr (c, _) => if len = 3 ∧ nest = false ∧ stat = false ∧ np ≤ st.length ∧ c = ci ∧ ci < 13 ∧ mn.name ≠ "<init>" ∧ xk_sum rest ≤ 8 then some (z, .ref b :: (st.take np).reverse, rest) else none
            | _ => none
          | _ => none
        | none => none
      | none => none
  | .invokespecial idx => match xk_mth o idx with
    | some (z, _) => match xk_mt z with
      | some (_, mn, _, _, ret, stat, np) => match st.drop np with
        | .ref b :: rest => if len = 3 ∧ ret = none ∧ stat = false ∧ np ≤ st.length ∧ mn.name = "<init>" ∧ xk_sum rest ≤ 8 then some (z, .ref b :: (st.take np).reverse, rest) else none
        | _ => none
      | none => none
    | none => none
  | .invokestatic idx => match xk_mth o idx with
    | some (z, _) => match xk_mt z with
      | some (_, _, _, _, _, stat, np) => if len = 3 ∧ stat = true ∧ np ≤ st.length ∧ xk_sum (st.drop np) ≤ 8 then some (z, (st.take np).reverse, st.drop np) else none
      | none => none
    | none => none
  | _ => none
def xk_rt (y : Nat) : Option FieldType := ((xk_mt y).map (fun e => e.2.2.2.2.1)).getD none
def xk_ret (y : Nat) (i : Instr) (len : Nat) (st : List Value) : Option (Option Value) :=
  match i with
  | .ireturn => match st, xk_rt y with
    | [.int v], some ty => if len = 1 ∧ narrow ty (.int v) = .int v then some (some (.int v)) else none
    | _, _ => none
  | .lreturn => match st with
    | [.long v] => if len = 1 ∧ xk_rt y = some .long then some (some (.long v)) else none
    | _ => none
  | .return_ => match st with
    | [] => if len = 1 ∧ xk_rt y = none then some none else none
    | _ => none
  | _ => none
def xk_run (M : Nat → Nat → List Value → xk_S → Option (Option Value × xk_S)) (y : Nat) : Nat → Nat → List Value → List Value → xk_S → Option (Option Value × xk_S)
  | 0, _, _, _, _ => none
  | n + 1, pc, ρ, st, σ =>
    match xk_ins y pc with
    | none => none
    | some (i, len) => match xk_pure (xk_own y) i len ρ st with
      | some (ρ', st') => xk_run M y n (pc + len) ρ' st' σ
      | none => match xk_br i len st with
        | some (b, off, st') => if b = true then (if 0 ≤ (pc : Int) + off then xk_run M y n ((pc : Int) + off).toNat ρ st' σ else none) else xk_run M y n (pc + len) ρ st' σ
        | none => match xk_heap (xk_own y) (xk_ini y) i len st σ with
          | some (st', σ') => xk_run M y n (pc + len) ρ st' σ'
          | none => match xk_call (xk_own y) i len st σ with
            | some (z, as, st') => match M n z as σ with
              | some (v, σ') => xk_run M y n (pc + 3) ρ (v.toList ++ st') σ'
              | none => none
            | none => (xk_ret y i len st).map (fun r => (r, σ))
def xk_ent (as : List Value) : List Value := as.flatMap (fun v => if v.category = 2 then [v, xk_dd] else [v])
def xk_nL (y : Nat) : Nat := ((xk_mt y).map (fun e => e.2.2.2.1)).getD 0
def xk_env (y : Nat) (as : List Value) : List Value := xk_ent as ++ List.replicate (xk_nL y - (xk_ent as).length) xk_dd
def xk_M : Nat → Nat → Nat → List Value → xk_S → Option (Option Value × xk_S)
  | 0 => fun _ _ _ _ => none
  | d + 1 => fun n y as σ => if 900 ≤ y then (if 8 ≤ d then xk_natM y as σ else none) else if (xk_ent as).length ≤ xk_nL y then xk_run (xk_M d) y n 0 (xk_env y as) [] σ else none
/-! it only grows -/
def xk_le (σ σ' : xk_S) : Prop := σ.2.1 ≤ σ'.2.1 ∧ σ.2.2.1 ≤ σ'.2.2.1 ∧ σ'.2.2.2 = σ.2.2.2
theorem xk_le.rf {σ : xk_S} : xk_le σ σ := ⟨Nat.le_refl _, Nat.le_refl _, rfl⟩
theorem xk_le.tr {a b c : xk_S} (h1 : xk_le a b) (h2 : xk_le b c) : xk_le a c := ⟨Nat.le_trans h1.1 h2.1, Nat.le_trans h1.2.1 h2.2.1, h2.2.2.trans h1.2.2⟩
theorem xk_heap_le {o : Nat} {ini : Bool} {i : Instr} {len : Nat} {st st' : List Value} {σ σ' : xk_S} (h : xk_heap o ini i len st σ = some (st', σ')) : xk_le σ σ' := by
  unfold xk_heap at h
  split at h <;> (try (cases h; done)) <;> (repeat' (split at h <;> (try (cases h; done)))) <;>
    first
      | (cases h; exact xk_le.rf)
      | (cases h; exact ⟨Nat.le_refl _, Nat.le_refl _, rfl⟩)
      | (cases h; exact ⟨Nat.le_succ _, Nat.le_add_right _ _, rfl⟩)
      | (obtain ⟨v, hv, h3⟩ := Option.map_eq_some_iff.mp h; cases h3; exact xk_le.rf)
theorem xk_run_le {M : Nat → Nat → List Value → xk_S → Option (Option Value × xk_S)} (hM : ∀ n z as σ r σ', M n z as σ = some (r, σ') → xk_le σ σ') {y : Nat} : ∀ (n pc : Nat) (ρ st : List Value) (σ : xk_S) (r : Option Value) (σ' : xk_S), xk_run M y n pc ρ st σ = some (r, σ') → xk_le σ σ' := by
  intro n
  induction n with
  | zero => intro pc ρ st σ r σ' h; cases h
  | succ n ih =>
    intro pc ρ st σ r σ' h
    unfold xk_run at h
    split at h <;> (try (cases h; done))
    split at h
    · exact ih _ _ _ _ _ _ h
    · split at h
      · split at h
        · split at h <;> (try (cases h; done))
          exact ih _ _ _ _ _ _ h
        · exact ih _ _ _ _ _ _ h
      · split at h
        · rename_i hh
          exact (xk_heap_le hh).tr (ih _ _ _ _ _ _ h)
        · split at h
          · split at h <;> (try (cases h; done))
            rename_i hm
            exact (hM _ _ _ _ _ _ hm).tr (ih _ _ _ _ _ _ h)
          · obtain ⟨v, hv, h3⟩ := Option.map_eq_some_iff.mp h
            cases h3
            exact xk_le.rf
theorem xk_M_le : ∀ (d n z : Nat) (as : List Value) (σ : xk_S) (r : Option Value) (σ' : xk_S), xk_M d n z as σ = some (r, σ') → xk_le σ σ' := by
  intro d
  induction d with
  | zero => intro n z as σ r σ' h; cases h
  | succ d ih =>
    intro n z as σ r σ' h
    unfold xk_M at h
    split at h
    · split at h <;> (try (cases h; done))
      unfold xk_natM at h
      split at h
      · split at h <;> (try (cases h; done))
        split at h <;> (try (cases h; done))
        cases h; exact xk_le.rf
      · split at h <;> (try (cases h; done))
        split at h <;> (try (cases h; done))
        split at h <;> (try (cases h; done))
        cases h; exact xk_le.rf
    · split at h <;> (try (cases h; done))
      exact xk_run_le ih _ _ _ _ _ _ _ h
/-! more fuel changes nothing -/
theorem xk_run_mono {M M' : Nat → Nat → List Value → xk_S → Option (Option Value × xk_S)} {y : Nat} : ∀ (n n' : Nat), n ≤ n' → (∀ k k' z as σ q, k ≤ k' → M k z as σ = some q → M' k' z as σ = some q) → ∀ (pc : Nat) (ρ st : List Value) (σ : xk_S) (q : Option Value × xk_S), xk_run M y n pc ρ st σ = some q → xk_run M' y n' pc ρ st σ = some q := by
  intro n
  induction n with
  | zero => intro n' _ _ pc ρ st σ q h; cases h
  | succ n ih =>
    intro n' hn hM pc ρ st σ q h
    obtain ⟨n1, rfl⟩ : ∃ n1, n' = n1 + 1 := ⟨n' - 1, by omega⟩
    have ih := ih n1 (by omega) hM
    unfold xk_run at h ⊢
    split at h <;> (try (cases h; done))
    split at h
    · exact ih _ _ _ _ _ h
    · split at h
      · split at h
        · rename_i hb
          rw [if_pos hb]
          split at h <;> (try (cases h; done))
          rename_i h0
          rw [if_pos h0]
          exact ih _ _ _ _ _ h
        · rename_i hb
          rw [if_neg hb]
          exact ih _ _ _ _ _ h
      · split at h
        · exact ih _ _ _ _ _ h
        · split at h
          · split at h <;> (try (cases h; done))
            rename_i hm
            rw [hM n n1 _ _ _ _ (by omega) hm]
            exact ih _ _ _ _ _ h
          · exact h
theorem xk_M_mono : ∀ (d d' : Nat), d ≤ d' → ∀ (n n' z : Nat) (as : List Value) (σ : xk_S) (q : Option Value × xk_S), n ≤ n' → xk_M d n z as σ = some q → xk_M d' n' z as σ = some q := by
  intro d
  induction d with
  | zero => intro d' _ n n' z as σ q _ h; cases h
  | succ d ih =>
    intro d' hd n n' z as σ q hn h
    obtain ⟨d1, rfl⟩ : ∃ d1, d' = d1 + 1 := ⟨d' - 1, by omega⟩
    unfold xk_M at h ⊢
    split at h
    · rename_i h9
      rw [if_pos h9]
      split at h <;> (try (cases h; done))
      rw [if_pos (by omega)]
      exact h
    · rename_i h9
      rw [if_neg h9]
      split at h <;> (try (cases h; done))
      rename_i hl
      rw [if_pos hl]
      exact xk_run_mono n n' hn (fun k k' z as σ q hk => ih d1 (by omega) k k' z as σ q hk) _ _ _ _ _ h
