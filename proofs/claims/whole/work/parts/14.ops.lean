/-! one row an instruction's kind: what the steps come to -/
def xj (z : Int) : Int32 := Int32.ofInt z
theorem xk_ari_no {i : Instr} {len : Nat} {st : List Value} (h3 : ∀ x y, xk_bin i x y = none) (h4 : ∀ x y, xk_binL i x y = none) : xk_ari i len st = none := by
  unfold xk_ari
  split
  · split
    · rw [h3]; rfl
    · rw [h4]; rfl
    · rfl
  · rfl
theorem xk_pure_no {o len : Nat} {i : Instr} {ρ st : List Value} (h1 : xk_push o i len ρ = none) (h2 : xk_sto i len ρ st = none) (h3 : ∀ x y, xk_bin i x y = none) (h4 : ∀ x y, xk_binL i x y = none) : xk_pure o i len ρ st = none := by
  unfold xk_pure
  rw [h1, h2]
  simp only
  rw [xk_ari_no h3 h4]
  rfl
section XKO
variable {d y pc : Nat} {ρ st : List Value} {f : Nat → xk_C} {w : Nat × Nat × Nat} {K : Option Value → xk_S → Prop}
theorem xk_B_iconst {n : Int} (h : xk_ins y pc = some (.iconst n, 1)) : xk_B d y pc ρ st (f, w) K ↔ xk_B d y (pc + 1) ρ (.int (xj n) :: st) (f, w) K := xk_B_pure h rfl
theorem xk_B_bipush {n : Int} (h : xk_ins y pc = some (.bipush n, 2)) (hv : (Int8.ofInt n).toInt32 = xj n) : xk_B d y pc ρ st (f, w) K ↔ xk_B d y (pc + 2) ρ (.int (xj n) :: st) (f, w) K := by rw [← hv]; exact xk_B_pure h rfl
theorem xk_B_sipush {n : Int} (h : xk_ins y pc = some (.sipush n, 3)) (hv : (Int16.ofInt n).toInt32 = xj n) : xk_B d y pc ρ st (f, w) K ↔ xk_B d y (pc + 3) ρ (.int (xj n) :: st) (f, w) K := by rw [← hv]; exact xk_B_pure h rfl
theorem xk_B_ldcw {n : Nat} {v : Int32} (h : xk_ins y pc = some (.ldc_w n, 3)) (hv : xk_cI (xk_own y) n = some v) : xk_B d y pc ρ st (f, w) K ↔ xk_B d y (pc + 3) ρ (.int v :: st) (f, w) K := xk_B_pure h (by simp only [xk_pure, xk_push, if_true, hv, Option.map_some])
theorem xk_B_ldci {n : Nat} {v : Int32} (h : xk_ins y pc = some (.ldc n, 2)) (hv : xk_cI (xk_own y) n = some v) : xk_B d y pc ρ st (f, w) K ↔ xk_B d y (pc + 2) ρ (.int v :: st) (f, w) K := xk_B_pure h (by simp only [xk_pure, xk_push, if_true, hv, Option.map_some])
theorem xk_B_ldc2 {n : Nat} {v : Int64} (h : xk_ins y pc = some (.ldc2_w n, 3)) (hv : xk_cJ (xk_own y) n = some v) : xk_B d y pc ρ st (f, w) K ↔ xk_B d y (pc + 3) ρ (.long v :: st) (f, w) K := xk_B_pure h (by simp only [xk_pure, xk_push, if_true, hv, Option.map_some])
theorem xk_if {c : Prop} [Decidable c] {α : Type} {x : α} {g : α → Prop} : (if c then some x else none).elim False g ↔ c ∧ g x := by
  split <;> simp [*]
theorem xk_ifm {α β : Type} {o : Option α} {m : α → β} {g : β → Prop} : (o.map m).elim False g ↔ o.elim False (fun x => g (m x)) := by
  cases o <;> rfl
theorem xk_B_heapM {len : Nat} {i : Instr} {σ : xk_S} (h : xk_ins y pc = some (i, len)) (hp : xk_pure (xk_own y) i len ρ st = none) (hb : xk_br i len st = none) (hc : xk_heap (xk_own y) (xk_ini y) i len st σ = none → xk_call (xk_own y) i len st σ = none) (hr : xk_heap (xk_own y) (xk_ini y) i len st σ = none → xk_ret y i len st = none) :
    xk_B d y pc ρ st σ K ↔ (xk_heap (xk_own y) (xk_ini y) i len st σ).elim False (fun q => xk_B d y (pc + len) ρ q.1 q.2 K) := by
  rw [xk_B_heap h hp hb hc hr]
  cases hh : xk_heap (xk_own y) (xk_ini y) i len st σ with
  | none => simp
  | some q =>
    constructor
    · rintro ⟨st', σ', e, h2⟩
      cases e
      exact h2
    · intro h2
      exact ⟨q.1, q.2, rfl, h2⟩
theorem xk_B_getf {idx ci k a : Nat} (h : xk_ins y pc = some (.getfield idx, 3)) (hf : xk_fld (xk_own y) idx = some (ci, k)) : xk_B d y pc ρ (.ref a :: st) (f, w) K ↔ xk_GF f a ci k (fun v => xk_B d y (pc + 3) ρ (v :: st) (f, w) K) := by
  rw [xk_B_heapM h (xk_pure_no rfl rfl (fun _ _ => rfl) (fun _ _ => rfl)) rfl (fun _ => rfl) (fun _ => rfl)]
  unfold xk_heap xk_GF
  simp only [hf]
  rcases hfa : f a with x | ⟨c, fs⟩
  · simp
  · by_cases hc : c = ci
    · simp only [hc, and_self, if_true, xk_ifm, true_and]
      cases fs[k]? <;> rfl
    · simp [hc]
theorem xk_B_putf {idx ci k a : Nat} {v : Value} (h : xk_ins y pc = some (.putfield idx, 3)) (hf : xk_fld (xk_own y) idx = some (ci, k)) (hn : narrow (xk_ty ci k) v = v) (hfit : fits (xk_ty ci k) v = true) (hfin : xk_fin ci k = false ∨ (xk_ini y = true ∧ xk_own y = ci)) : xk_B d y pc ρ (v :: .ref a :: st) (f, w) K ↔ xk_PF f a ci k v (fun f' => xk_B d y (pc + 3) ρ st (f', w) K) := by
  rw [xk_B_heapM h (xk_pure_no rfl rfl (fun _ _ => rfl) (fun _ _ => rfl)) rfl (fun _ => rfl) (fun _ => rfl)]
  unfold xk_heap xk_PF
  simp only [hf]
  rcases hfa : f a with x | ⟨c, fs⟩
  · simp
  · simp only [xk_if, hn, hfit, hfin, true_and, and_true, and_assoc]
theorem xk_B_putz {idx ci k a : Nat} {v : Int32} (h : xk_ins y pc = some (.putfield idx, 3)) (hf : xk_fld (xk_own y) idx = some (ci, k)) (ht : xk_ty ci k = .boolean) (hfin : xk_fin ci k = false ∨ (xk_ini y = true ∧ xk_own y = ci)) : xk_B d y pc ρ (.int v :: .ref a :: st) (f, w) K ↔ (v = 0 ∨ v = 1) ∧ xk_PF f a ci k (.int v) (fun f' => xk_B d y (pc + 3) ρ st (f', w) K) := by
  rw [xk_B_heapM h (xk_pure_no rfl rfl (fun _ _ => rfl) (fun _ _ => rfl)) rfl (fun _ => rfl) (fun _ => rfl)]
  unfold xk_heap xk_PF
  simp only [hf, ht]
  have hz : (narrow .boolean (.int v) = .int v ∧ fits .boolean (.int v) = true) ↔ (v = 0 ∨ v = 1) := by
    constructor
    · rintro ⟨-, h2⟩
      simpa [fits] using h2
    · rintro (rfl | rfl) <;> decide
  rcases hfa : f a with x | ⟨c, fs⟩
  · simp
  · simp only [xk_if]
    constructor
    · rintro ⟨⟨-, h1, h2, h3, h4, -⟩, h5⟩
      subst h1
      rw [ht] at h3 h4
      exact ⟨hz.mp ⟨h3, h4⟩, rfl, h2, h5⟩
    · rintro ⟨h0, h1, h2, h5⟩
      subst h1
      refine ⟨⟨trivial, rfl, h2, ?_, ?_, hfin⟩, h5⟩
      · rw [ht]; exact (hz.mpr h0).1
      · rw [ht]; exact (hz.mpr h0).2
theorem xk_B_iald {a : Nat} {j : Int32} (h : xk_ins y pc = some (.iaload, 1)) : xk_B d y pc ρ (.int j :: .ref a :: st) (f, w) K ↔ xk_AL f a 0 j (fun x => xk_B d y (pc + 1) ρ (.int x :: st) (f, w) K) := by
  rw [xk_B_heapM h (xk_pure_no rfl rfl (fun _ _ => rfl) (fun _ _ => rfl)) rfl (fun _ => rfl) (fun _ => rfl)]
  unfold xk_heap xk_AL
  rcases hfa : f a with ⟨t, n, g | g | g | g | g⟩ | o <;> simp only [hfa, xk_if, true_and, and_assoc, Option.elim_none]
theorem xk_B_bald {a : Nat} {j : Int32} (h : xk_ins y pc = some (.baload, 1)) : xk_B d y pc ρ (.int j :: .ref a :: st) (f, w) K ↔ xk_AL f a 1 j (fun x => xk_B d y (pc + 1) ρ (.int x :: st) (f, w) K) ∨ xk_AL f a 2 j (fun x => xk_B d y (pc + 1) ρ (.int x :: st) (f, w) K) := by
  rw [xk_B_heapM h (xk_pure_no rfl rfl (fun _ _ => rfl) (fun _ _ => rfl)) rfl (fun _ => rfl) (fun _ => rfl)]
  unfold xk_heap xk_AL
  rcases hfa : f a with ⟨t, n, g | g | g | g | g⟩ | o <;> simp only [hfa, xk_if, true_and, and_assoc, Option.elim_none, or_self, or_and_right]
theorem xk_B_lald {a : Nat} {j : Int32} (h : xk_ins y pc = some (.laload, 1)) : xk_B d y pc ρ (.int j :: .ref a :: st) (f, w) K ↔ xk_ALJ f a j (fun x => xk_B d y (pc + 1) ρ (.long x :: st) (f, w) K) := by
  rw [xk_B_heapM h (xk_pure_no rfl rfl (fun _ _ => rfl) (fun _ _ => rfl)) rfl (fun _ => rfl) (fun _ => rfl)]
  unfold xk_heap xk_ALJ
  rcases hfa : f a with ⟨t, n, g | g | g | g | g⟩ | o <;> simp only [hfa, xk_if, true_and, and_assoc, Option.elim_none]
theorem xk_B_aald {a : Nat} {j : Int32} (h : xk_ins y pc = some (.aaload, 1)) : xk_B d y pc ρ (.int j :: .ref a :: st) (f, w) K ↔ xk_ALQ f a j (fun x => xk_B d y (pc + 1) ρ (x :: st) (f, w) K) := by
  rw [xk_B_heapM h (xk_pure_no rfl rfl (fun _ _ => rfl) (fun _ _ => rfl)) rfl (fun _ => rfl) (fun _ => rfl)]
  unfold xk_heap xk_ALQ
  rcases hfa : f a with ⟨t, n, g | g | g | g | g⟩ | o <;> simp only [hfa, xk_if, true_and, and_assoc, Option.elim_none]
theorem xk_B_iast {a : Nat} {j x : Int32} (h : xk_ins y pc = some (.iastore, 1)) : xk_B d y pc ρ (.int x :: .int j :: .ref a :: st) (f, w) K ↔ xk_AS f a j x (fun f' => xk_B d y (pc + 1) ρ st (f', w) K) := by
  rw [xk_B_heapM h (xk_pure_no rfl rfl (fun _ _ => rfl) (fun _ _ => rfl)) rfl (fun _ => rfl) (fun _ => rfl)]
  unfold xk_heap xk_AS
  rcases hfa : f a with ⟨t, n, g | g | g | g | g⟩ | o <;> simp only [hfa, xk_if, true_and, and_assoc, Option.elim_none]
theorem xk_B_bast {a : Nat} {j x : Int32} (h : xk_ins y pc = some (.bastore, 1)) : xk_B d y pc ρ (.int x :: .int j :: .ref a :: st) (f, w) K ↔ xk_ASB f a j x (fun f' => xk_B d y (pc + 1) ρ st (f', w) K) := by
  rw [xk_B_heapM h (xk_pure_no rfl rfl (fun _ _ => rfl) (fun _ _ => rfl)) rfl (fun _ => rfl) (fun _ => rfl)]
  unfold xk_heap xk_ASB
  rcases hfa : f a with ⟨t, n, g | g | g | g | g⟩ | o <;> simp only [hfa, Option.elim_none]
  by_cases h1 : t = 1
  · subst h1
    simp only [true_and, xk_if, if_true, true_or]
    split
    · rename_i hc; simp [hc]
    · rename_i hc; simp [hc]
  · by_cases h2 : t = 2
    · subst h2
      simp [xk_if]
    · simp [h1, h2]
theorem xk_B_last {a : Nat} {j : Int32} {x : Int64} (h : xk_ins y pc = some (.lastore, 1)) : xk_B d y pc ρ (.long x :: .int j :: .ref a :: st) (f, w) K ↔ xk_ASJ f a j x (fun f' => xk_B d y (pc + 1) ρ st (f', w) K) := by
  rw [xk_B_heapM h (xk_pure_no rfl rfl (fun _ _ => rfl) (fun _ _ => rfl)) rfl (fun _ => rfl) (fun _ => rfl)]
  unfold xk_heap xk_ASJ
  rcases hfa : f a with ⟨t, n, g | g | g | g | g⟩ | o <;> simp only [hfa, xk_if, true_and, and_assoc, Option.elim_none]
theorem xk_B_aast {a v : Nat} {j : Int32} (h : xk_ins y pc = some (.aastore, 1)) : xk_B d y pc ρ (.ref v :: .int j :: .ref a :: st) (f, w) K ↔ xk_ASQ f a v j (fun f' => xk_B d y (pc + 1) ρ st (f', w) K) := by
  rw [xk_B_heapM h (xk_pure_no rfl rfl (fun _ _ => rfl) (fun _ _ => rfl)) rfl (fun _ => rfl) (fun _ => rfl)]
  unfold xk_heap xk_ASQ
  rcases hfa : f a with ⟨t, n, g | g | g | g | g⟩ | o <;> rcases hfv : f v with ⟨t2, n2, g2 | g2 | g2 | g2 | g2⟩ | o2 <;> simp only [hfa, hfv, xk_if, true_and, and_assoc, Option.elim_none]
theorem xk_B_alen {a : Nat} (h : xk_ins y pc = some (.arraylength, 1)) : xk_B d y pc ρ (.ref a :: st) (f, w) K ↔ xk_LN f a (fun x => xk_B d y (pc + 1) ρ (.int x :: st) (f, w) K) := by
  rw [xk_B_heapM h (xk_pure_no rfl rfl (fun _ _ => rfl) (fun _ _ => rfl)) rfl (fun _ => rfl) (fun _ => rfl)]
  unfold xk_heap xk_LN
  rcases hfa : f a with ⟨t, x⟩ | o <;> simp only [hfa, xk_if, true_and, and_assoc, Option.elim_none]
theorem xk_B_new {idx ci : Nat} (h : xk_ins y pc = some (.new idx, 3)) (hk : xk_kls (xk_own y) idx = some ci) : xk_B d y pc ρ st (f, w) K ↔ xk_B d y (pc + 3) ρ (.ref w.1 :: st) (va_up f w.1 (.inr (ci, xk_dv ci)), w.1 + 1, w.2.1 + xk_nf ci, w.2.2) K := by
  rw [xk_B_heapM h (xk_pure_no rfl rfl (fun _ _ => rfl) (fun _ _ => rfl)) rfl (fun _ => rfl) (fun _ => rfl)]
  unfold xk_heap
  simp only [hk, xk_if, true_and]
theorem xk_B_newa {ty : ArrayType} {t : Nat} {n : Int32} (h : xk_ins y pc = some (.newarray ty, 2)) (hk : xk_nk ty = some t) : xk_B d y pc ρ (.int n :: st) (f, w) K ↔ (¬ n < 0 ∧ n.toNatClampNeg ≤ 60000000) ∧ xk_B d y (pc + 2) ρ (.ref w.1 :: st) (va_up f w.1 (.inl (t, xk_z t n.toNatClampNeg)), w.1 + 1, w.2.1 + n.toNatClampNeg, w.2.2) K := by
  rw [xk_B_heapM h (xk_pure_no rfl rfl (fun _ _ => rfl) (fun _ _ => rfl)) rfl (fun _ => rfl) (fun _ => rfl)]
  unfold xk_heap
  simp only [hk, xk_if, true_and]
theorem xk_B_newq {idx ci t : Nat} {n : Int32} (h : xk_ins y pc = some (.anewarray idx, 3)) (hk : xk_kls (xk_own y) idx = some ci) (hr : xk_rk ci = some t) : xk_B d y pc ρ (.int n :: st) (f, w) K ↔ (¬ n < 0 ∧ n.toNatClampNeg ≤ 60000000) ∧ xk_B d y (pc + 3) ρ (.ref w.1 :: st) (va_up f w.1 (.inl (t, n.toNatClampNeg, .inr (.inr (.inr (.inr (fun _ => none)))))), w.1 + 1, w.2.1 + n.toNatClampNeg, w.2.2) K := by
  rw [xk_B_heapM h (xk_pure_no rfl rfl (fun _ _ => rfl) (fun _ _ => rfl)) rfl (fun _ => rfl) (fun _ => rfl)]
  unfold xk_heap
  simp only [hk, hr, xk_if, true_and]
theorem xk_B_obj {idx a : Nat} (h : xk_ins y pc = some (.invokespecial idx, 3)) (ho : xk_oin (xk_own y) idx = true) (hs : xk_sum st ≤ 8) (hm : xk_mth (xk_own y) idx = none) : xk_B d y pc ρ (.ref a :: st) (f, w) K ↔ xk_B d y (pc + 3) ρ st (f, w) K := by
  rw [xk_B_heapM h (xk_pure_no rfl rfl (fun _ _ => rfl) (fun _ _ => rfl)) rfl (fun _ => by unfold xk_call; simp only [hm]) (fun _ => rfl)]
  unfold xk_sum at hs
  unfold xk_heap
  simp only [ho, hs, xk_if, true_and]
theorem xk_B_abs {idx : Nat} {x : Int32} (h : xk_ins y pc = some (.invokestatic idx, 3)) (ho : xk_mat (xk_own y) idx = some 0) (hs : xk_sum st ≤ 8) (hm : xk_mth (xk_own y) idx = none) : xk_B d y pc ρ (.int x :: st) (f, w) K ↔ xk_B d y (pc + 3) ρ (.int (if 0 ≤ x then x else 0 - x) :: st) (f, w) K := by
  rw [xk_B_heapM h (xk_pure_no rfl rfl (fun _ _ => rfl) (fun _ _ => rfl)) rfl (fun _ => by unfold xk_call; simp only [hm]) (fun _ => rfl)]
  unfold xk_sum at hs
  unfold xk_heap
  simp only [ho, hs, xk_if, true_and]
theorem xk_B_max {idx : Nat} {x x2 : Int32} (h : xk_ins y pc = some (.invokestatic idx, 3)) (ho : xk_mat (xk_own y) idx = some 1) (hs : xk_sum st ≤ 8) (hm : xk_mth (xk_own y) idx = none) : xk_B d y pc ρ (.int x2 :: .int x :: st) (f, w) K ↔ xk_B d y (pc + 3) ρ (.int (if x < x2 then x2 else x) :: st) (f, w) K := by
  rw [xk_B_heapM h (xk_pure_no rfl rfl (fun _ _ => rfl) (fun _ _ => rfl)) rfl (fun _ => by unfold xk_call; simp only [hm]) (fun _ => rfl)]
  unfold xk_sum at hs
  unfold xk_heap
  simp only [ho, hs, xk_if, true_and]
theorem xk_B_min {idx : Nat} {x x2 : Int32} (h : xk_ins y pc = some (.invokestatic idx, 3)) (ho : xk_mat (xk_own y) idx = some 2) (hs : xk_sum st ≤ 8) (hm : xk_mth (xk_own y) idx = none) : xk_B d y pc ρ (.int x2 :: .int x :: st) (f, w) K ↔ xk_B d y (pc + 3) ρ (.int (if x2 < x then x2 else x) :: st) (f, w) K := by
  rw [xk_B_heapM h (xk_pure_no rfl rfl (fun _ _ => rfl) (fun _ _ => rfl)) rfl (fun _ => by unfold xk_call; simp only [hm]) (fun _ => rfl)]
  unfold xk_sum at hs
  unfold xk_heap
  simp only [ho, hs, xk_if, true_and]
theorem xk_B_ldcs (h : xk_ins y pc = some (.ldc 49, 2)) (ho : xk_own y = 10) : xk_B d y pc ρ st (f, w) K ↔ xk_B d y (pc + 2) ρ (.ref w.2.2 :: st) (f, w) K := by
  rw [xk_B_heapM h (xk_pure_no (by rw [ho]; simp only [xk_push, if_true, show xk_cI 10 49 = none by decide +kernel, Option.map_none]) rfl (fun _ _ => rfl) (fun _ _ => rfl)) rfl (fun _ => rfl) (fun _ => rfl)]
  unfold xk_heap
  simp only [ho, xk_if, true_and]
theorem xk_B_ireturn {v : Int32} {ty : FieldType} (h : xk_ins y pc = some (.ireturn, 1)) (ht : xk_rt y = some ty) (hn : narrow ty (.int v) = .int v) : xk_B d y pc ρ [.int v] (f, w) K ↔ K (some (.int v)) (f, w) :=
  xk_B_ret h (xk_pure_no rfl rfl (fun _ _ => rfl) (fun _ _ => rfl)) rfl rfl rfl (by unfold xk_ret; simp [ht, hn])
theorem xk_B_zreturn {v : Int32} (h : xk_ins y pc = some (.ireturn, 1)) (ht : xk_rt y = some .boolean) (hn : v = 0 ∨ v = 1) : xk_B d y pc ρ [.int v] (f, w) K ↔ K (some (.int v)) (f, w) := xk_B_ireturn h ht (by rcases hn with rfl | rfl <;> decide)
theorem xk_B_lreturn {v : Int64} (h : xk_ins y pc = some (.lreturn, 1)) (ht : xk_rt y = some .long) : xk_B d y pc ρ [.long v] (f, w) K ↔ K (some (.long v)) (f, w) :=
  xk_B_ret h (xk_pure_no rfl rfl (fun _ _ => rfl) (fun _ _ => rfl)) rfl rfl rfl (by unfold xk_ret; simp [ht])
theorem xk_B_return (h : xk_ins y pc = some (.return_, 1)) (ht : xk_rt y = none) : xk_B d y pc ρ [] (f, w) K ↔ K none (f, w) :=
  xk_B_ret h (xk_pure_no rfl rfl (fun _ _ => rfl) (fun _ _ => rfl)) rfl rfl rfl (by unfold xk_ret; simp [ht])
theorem xk_B_static {idx z ci np mx : Nat} {nest : Bool} {mn : MethodName} {by' : ByteArray} {rt : Option FieldType} (as rest : List Value) (h : xk_ins y pc = some (.invokestatic idx, 3)) (hm : xk_mth (xk_own y) idx = some (z, nest)) (hz : xk_mt z = some (ci, mn, by', mx, rt, true, np)) (hn : np ≤ st.length) (ha : (st.take np).reverse = as) (hd : st.drop np = rest) (hs : xk_sum rest ≤ 8) (hq : xk_mat (xk_own y) idx = none) :
    xk_B d y pc ρ st (f, w) K ↔ xk_Cl d z as (f, w) (fun v σ' => xk_B d y (pc + 3) ρ (v.toList ++ rest) σ' K) := by
  subst ha; subst hd
  refine xk_B_call h (xk_pure_no rfl rfl (fun _ _ => rfl) (fun _ _ => rfl)) rfl ?_ ?_
  · unfold xk_heap; simp only [hq]
  · unfold xk_call; simp only [hm, hz, hn, hs, and_self, if_true]
theorem xk_B_special {idx z ci np mx b : Nat} {nest : Bool} {mn : MethodName} {by' : ByteArray} (as rest : List Value) (h : xk_ins y pc = some (.invokespecial idx, 3)) (hm : xk_mth (xk_own y) idx = some (z, nest)) (hz : xk_mt z = some (ci, mn, by', mx, none, false, np)) (hn : np ≤ st.length) (ha : (st.take np).reverse = as) (hd : st.drop np = .ref b :: rest) (hi : mn.name = "<init>") (hs : xk_sum rest ≤ 8) (hq : xk_oin (xk_own y) idx = false) :
    xk_B d y pc ρ st (f, w) K ↔ xk_Cl d z (.ref b :: as) (f, w) (fun v σ' => xk_B d y (pc + 3) ρ (v.toList ++ rest) σ' K) := by
  subst ha
  refine xk_B_call h (xk_pure_no rfl rfl (fun _ _ => rfl) (fun _ _ => rfl)) rfl ?_ ?_
  · unfold xk_heap
    simp only [hq, Bool.false_eq_true, false_and, and_false, if_false]
    split <;> rfl
  · unfold xk_call; simp only [hm, hz, hd, hn, hs, hi, and_self, if_true]
theorem xk_B_virtual {idx z ci np mx b : Nat} {mn : MethodName} {by' : ByteArray} {rt : Option FieldType} (as rest : List Value) (h : xk_ins y pc = some (.invokevirtual idx, 3)) (hq : xk_nat (xk_own y) idx = none) (hm : xk_mth (xk_own y) idx = some (z, false)) (hz : xk_mt z = some (ci, mn, by', mx, rt, false, np)) (hn : np ≤ st.length) (ha : (st.take np).reverse = as) (hd : st.drop np = .ref b :: rest) (hci : ci < 13) (hi : mn.name ≠ "<init>") (hs : xk_sum rest ≤ 8) :
    xk_B d y pc ρ st (f, w) K ↔ xk_RC f b ci ∧ xk_Cl d z (.ref b :: as) (f, w) (fun v σ' => xk_B d y (pc + 3) ρ (v.toList ++ rest) σ' K) := by
  subst ha
  unfold xk_RC
  rcases hfb : f b with x | ⟨c, fs⟩
  · simp only [false_and, iff_false]
    rintro ⟨n, r, σ', h1, -⟩
    cases n with
    | zero => cases h1
    | succ n =>
      rw [xk_run] at h1
      have hp : xk_pure (xk_own y) (.invokevirtual idx) 3 ρ st = none := xk_pure_no rfl rfl (fun _ _ => rfl) (fun _ _ => rfl)
      have hc : xk_call (xk_own y) (.invokevirtual idx) 3 st (f, w) = none := by unfold xk_call; simp only [hq, hm, hz, hd, hfb]
      simp only [h, hp, hc] at h1
      cases h1
  · by_cases hc : c = ci
    · subst hc
      simp only [true_and]
      refine xk_B_call h (xk_pure_no rfl rfl (fun _ _ => rfl) (fun _ _ => rfl)) rfl rfl ?_
      unfold xk_call; simp [hq, hm, hz, hd, hfb, hn, hs, hi, hci]
    · simp only [hc, false_and, iff_false]
      rintro ⟨n, r, σ', h1, -⟩
      cases n with
      | zero => cases h1
      | succ n =>
        rw [xk_run] at h1
        have hp : xk_pure (xk_own y) (.invokevirtual idx) 3 ρ st = none := xk_pure_no rfl rfl (fun _ _ => rfl) (fun _ _ => rfl)
        have hc2 : xk_call (xk_own y) (.invokevirtual idx) 3 st (f, w) = none := by unfold xk_call; simp [hq, hm, hz, hd, hfb, hc]
        simp only [h, hp, hc2] at h1
        cases h1
theorem xk_B_len {idx b : Nat} (h : xk_ins y pc = some (.invokevirtual idx, 3)) (hq : xk_nat (xk_own y) idx = some 0) (hb : b = w.2.2) (hs : xk_sum st ≤ 8) (hd : 9 ≤ d) : xk_B d y pc ρ (.ref b :: st) (f, w) K ↔ xk_B d y (pc + 3) ρ (.int (xj 109) :: st) (f, w) K := by
  rw [xk_B_call (z := 900) (as := [.ref b]) (rest := st) h (xk_pure_no rfl rfl (fun _ _ => rfl) (fun _ _ => rfl)) rfl rfl (by unfold xk_call; simp [hq, hb, hs])]
  obtain ⟨d', rfl⟩ : ∃ d', d = d' + 1 := ⟨d - 1, by omega⟩
  refine xk_Cl_det (r0 := some (.int (xj 109))) (σ0 := (f, w)) ⟨0, _, _, ?_, rfl, rfl⟩
  unfold xk_M
  rw [if_pos (by omega), if_pos (by omega)]
  unfold xk_natM
  simp [hb, xj]
theorem xk_B_chr {idx b : Nat} {k : Int32} (h : xk_ins y pc = some (.invokevirtual idx, 3)) (hq : xk_nat (xk_own y) idx = some 1) (hb : b = w.2.2) (hs : xk_sum st ≤ 8) (hd : 9 ≤ d) (hk : ¬ (k < 0 ∨ 109 ≤ k.toNatClampNeg)) : xk_B d y pc ρ (.int k :: .ref b :: st) (f, w) K ↔ xk_B d y (pc + 3) ρ (.int (xk_tb.getD k.toNatClampNeg 0) :: st) (f, w) K := by
  rw [xk_B_call (z := 901) (as := [.ref b, .int k]) (rest := st) h (xk_pure_no rfl rfl (fun _ _ => rfl) (fun _ _ => rfl)) rfl rfl (by unfold xk_call; simp [hq, hb, hs])]
  obtain ⟨d', rfl⟩ : ∃ d', d = d' + 1 := ⟨d - 1, by omega⟩
  refine xk_Cl_det (r0 := some (.int (xk_tb.getD k.toNatClampNeg 0))) (σ0 := (f, w)) ⟨0, _, _, ?_, rfl, rfl⟩
  unfold xk_M
  rw [if_pos (by omega), if_pos (by omega)]
  unfold xk_natM
  simp only [show ¬ (901 = 900) by decide, if_false, if_true, hb, true_and]
  rw [if_pos hk]
end XKO
