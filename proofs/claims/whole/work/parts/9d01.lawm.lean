/-! the law's steps -/
def xk_LB (b L : Nat) (xs : Nat → Int32) (pc : Nat) (ρ st : List Value) (σ : xk_S) (Q : xk_S → Prop) : Prop := ∃ (n : Nat) (σf : xk_S), xk_lrun xk_lins (xk_M 200) b L xs n pc ρ st σ = some (1, σf) ∧ Q σf
theorem lrun_mono {I : Nat → Option (Instr × Nat)} {d b L : Nat} {xs : Nat → Int32} : ∀ (n n' : Nat), n ≤ n' → ∀ (pc : Nat) (ρ st : List Value) (σ : xk_S) (q : Int32 × xk_S), xk_lrun I (xk_M d) b L xs n pc ρ st σ = some q → xk_lrun I (xk_M d) b L xs n' pc ρ st σ = some q := by
  intro n
  induction n with
  | zero => intro n' _ pc ρ st σ q h; cases h
  | succ n ih =>
    intro n' hn pc ρ st σ q h
    obtain ⟨n1, rfl⟩ : ∃ n1, n' = n1 + 1 := ⟨n' - 1, by omega⟩
    have ih := ih n1 (by omega)
    unfold xk_lrun at h ⊢
    split at h <;> (try (cases h; done))
    split at h
    · exact ih _ _ _ _ _ h
    · split at h
      · exact ih _ _ _ _ _ h
      · split at h
        · split at h
          · rename_i hb
            rw [if_pos hb]
            split at h <;> (try (cases h; done))
            rename_i h0
            rw [if_pos h0]
            exact ih _ _ _ _ _ h
          · rename_i hb
            rw [if_neg hb]
            exact ih _ _ _ _ _ h
        · split at h
          · exact ih _ _ _ _ _ h
          · split at h
            · split at h <;> (try (cases h; done))
              rename_i hm
              rw [xk_M_mono d d (Nat.le_refl _) n n1 _ _ _ _ (by omega) hm]
              exact ih _ _ _ _ _ h
            · exact h
theorem xk_Cl_imp {D y : Nat} {as : List Value} {σ : xk_S} {K K' : Option Value → xk_S → Prop} (h : ∀ r s, K r s → K' r s) (k : xk_Cl D y as σ K) : xk_Cl D y as σ K' := by
  obtain ⟨n, r, s, h1, h2⟩ := k
  exact ⟨n, r, s, h1, h r s h2⟩
def yv (xs : Nat → Int32) (i : Nat) (j : Int) : Int32 := xs (xj (i : Nat) + xj j).toNatClampNeg
theorem xj_ti (x : Int32) : xj x.toInt = x := Int32.ofInt_toInt x
theorem ti_lo (x : Int32) : -2147483648 ≤ x.toInt := Int32.le_toInt x
theorem ti_hi (x : Int32) : x.toInt ≤ 2147483647 := Int.le_of_lt_add_one (Int32.toInt_lt x)
section XS9d01
variable {b L pc len i : Nat} {xs : Nat → Int32} {ins : Instr} {ρ st ρ' st' : List Value} {σ σ' : xk_S} {Q : xk_S → Prop} {f : Nat → xk_C} {w : Nat × Nat × Nat}
theorem lb_ext (h : xk_lins pc = some (ins, len)) (he : xk_lext b L xs ins len st = some st') (k : xk_LB b L xs (pc + len) ρ st' σ Q) : xk_LB b L xs pc ρ st σ Q := by
  obtain ⟨n, σf, h1, h2⟩ := k
  refine ⟨n + 1, σf, ?_, h2⟩
  rw [xk_lrun]
  simp only [h, he]
  exact h1
theorem lb_pure (h : xk_lins pc = some (ins, len)) (he : xk_lext b L xs ins len st = none) (hp : xk_pure xk_lo ins len ρ st = some (ρ', st')) (k : xk_LB b L xs (pc + len) ρ' st' σ Q) : xk_LB b L xs pc ρ st σ Q := by
  obtain ⟨n, σf, h1, h2⟩ := k
  refine ⟨n + 1, σf, ?_, h2⟩
  rw [xk_lrun]
  simp only [h, he, hp]
  exact h1
theorem lb_go {tgt : Nat} {off : Int} (h : xk_lins pc = some (ins, len)) (he : xk_lext b L xs ins len st = none) (hp : xk_pure xk_lo ins len ρ st = none) (hb : xk_br ins len st = some (true, off, st')) (ht : (pc : Int) + off = (tgt : Int)) (k : xk_LB b L xs tgt ρ st' σ Q) : xk_LB b L xs pc ρ st σ Q := by
  obtain ⟨n, σf, h1, h2⟩ := k
  have ht2 : ((pc : Int) + off).toNat = tgt := by omega
  have ht3 : 0 ≤ (pc : Int) + off := by omega
  refine ⟨n + 1, σf, ?_, h2⟩
  rw [xk_lrun]
  simp only [h, he, hp, hb, if_true, ht2, ht3]
  exact h1
theorem lb_no {off : Int} (h : xk_lins pc = some (ins, len)) (he : xk_lext b L xs ins len st = none) (hp : xk_pure xk_lo ins len ρ st = none) (hb : xk_br ins len st = some (false, off, st')) (k : xk_LB b L xs (pc + len) ρ st' σ Q) : xk_LB b L xs pc ρ st σ Q := by
  obtain ⟨n, σf, h1, h2⟩ := k
  refine ⟨n + 1, σf, ?_, h2⟩
  rw [xk_lrun]
  simp [h, he, hp, hb]
  exact h1
theorem lb_heap (h : xk_lins pc = some (ins, len)) (he : xk_lext b L xs ins len st = none) (hp : xk_pure xk_lo ins len ρ st = none) (hb : xk_br ins len st = none) (hh : xk_heap xk_lo false ins len st σ = some (st', σ')) (k : xk_LB b L xs (pc + len) ρ st' σ' Q) : xk_LB b L xs pc ρ st σ Q := by
  obtain ⟨n, σf, h1, h2⟩ := k
  refine ⟨n + 1, σf, ?_, h2⟩
  rw [xk_lrun]
  simp only [h, he, hp, hb, hh]
  exact h1
theorem lb_call {z : Nat} {as : List Value} (h : xk_lins pc = some (ins, 3)) (he : xk_lext b L xs ins 3 st = none) (hp : xk_pure xk_lo ins 3 ρ st = none) (hb : xk_br ins 3 st = none) (hh : xk_heap xk_lo false ins 3 st σ = none) (hc : xk_call xk_lo ins 3 st σ = some (z, as, st')) (k : xk_Cl 200 z as σ (fun v σ' => xk_LB b L xs (pc + 3) ρ (v.toList ++ st') σ' Q)) : xk_LB b L xs pc ρ st σ Q := by
  obtain ⟨n1, v, σ1, hm, n2, σf, h1, h2⟩ := k
  refine ⟨max n1 n2 + 1, σf, ?_, h2⟩
  rw [xk_lrun]
  simp only [h, he, hp, hb, hh, hc]
  rw [xk_M_mono 200 200 (Nat.le_refl _) n1 (max n1 n2) _ _ _ _ (Nat.le_max_left _ _) hm]
  exact lrun_mono n2 (max n1 n2) (Nat.le_max_right _ _) _ _ _ _ _ h1
theorem lb_ret (h : xk_lins pc = some (.ireturn, 1)) (k : Q σ) : xk_LB b L xs pc ρ [.int 1] σ Q := by
  refine ⟨1, σ, ?_, k⟩
  rw [xk_lrun]
  simp only [h]
  rfl
theorem lb_virt {idx z ci np mx a : Nat} {mn : MethodName} {by' : ByteArray} {rt : Option FieldType} (as rest : List Value) (h : xk_lins pc = some (.invokevirtual idx, 3)) (hq : xk_nat xk_lo idx = none) (hm : xk_mth xk_lo idx = some (z, false)) (hz : xk_mt z = some (ci, mn, by', mx, rt, false, np)) (hn : np ≤ st.length) (ha : (st.take np).reverse = as) (hd : st.drop np = .ref a :: rest) (hci : ci < 13) (hi : mn.name ≠ "<init>") (hs : xk_sum rest ≤ 8) (hr : xk_RC f a ci) (k : xk_Cl 200 z (.ref a :: as) (f, w) (fun v σ' => xk_LB b L xs (pc + 3) ρ (v.toList ++ rest) σ' Q)) : xk_LB b L xs pc ρ st (f, w) Q := by
  subst ha
  refine lb_call (st' := rest) h rfl (xk_pure_no rfl rfl (fun _ _ => rfl) (fun _ _ => rfl)) rfl rfl ?_ k
  unfold xk_RC at hr
  rcases hfb : f a with x | ⟨c, fs⟩
  · rw [hfb] at hr; cases hr
  · rw [hfb] at hr
    have hr : c = ci := hr
    subst hr
    unfold xk_call; simp [hq, hm, hz, hd, hfb, hn, hs, hi, hci]
/-- a number of the script -/
theorem lb_arg {j : Int} {l1 l2 : Value} (h0 : xk_lins pc = some (.aload_n 0, 1)) (h1 : xk_lins (pc + 1) = some (.iload_n 3, 1)) (h2 : xk_lins (pc + 1 + 1) = some (.iconst j, 1)) (h3 : xk_lins (pc + 1 + 1 + 1) = some (.iadd, 1)) (h4 : xk_lins (pc + 1 + 1 + 1 + 1) = some (.iaload, 1)) (hj : 0 ≤ j ∧ j ≤ 5) (hi : i + 6 ≤ L) (hL : L ≤ 3072) (k : xk_LB b L xs (pc + 5) [.ref b, l1, l2, .int (xj (i : Nat))] (.int (yv xs i j) :: st) σ Q) : xk_LB b L xs pc [.ref b, l1, l2, .int (xj (i : Nat))] st σ Q := by
  refine lb_pure h0 rfl rfl (lb_pure h1 rfl rfl (lb_pure (ρ' := [.ref b, l1, l2, .int (xj (i : Nat))]) (st' := .int (xj j) :: .int (xj (i : Nat)) :: .ref b :: st) h2 rfl rfl (lb_pure (ρ' := [.ref b, l1, l2, .int (xj (i : Nat))]) (st' := .int (xj (i : Nat) + xj j) :: .ref b :: st) h3 rfl rfl (lb_ext (st' := .int (yv xs i j) :: st) h4 ?_ k))))
  have e : xj (i : Nat) + xj j = xj (((i + j.toNat : Nat)) : Int) := by rw [xj_add]; exact congrArg xj (by omega)
  have hin := (xj_in (z := ((i + j.toNat : Nat) : Int)) (n := L) (by omega) (by omega) (by omega)).mpr trivial
  unfold xk_lext yv
  rw [e]
  exact if_pos ⟨rfl, rfl, hin⟩
end XS9d01
