/-! the abstract machine's heap, and the steps that read and write it -/
def xk_tys (aC : Nat → ClassId) : List (ClassId × FieldType) := [(aC 0, .int), (aC 1, .byte), (aC 2, .boolean), (aC 3, .long), (aC 4, .object "OnePen$Rule"), (aC 5, .object "OnePen$Desk"), (aC 6, .object "OnePen$Day")]
/-- the kind of an array of such objects -/
def xk_rk (ci : Nat) : Option Nat := if ci = 7 then some 4 else if ci = 1 then some 5 else if ci = 0 then some 6 else none
def xk_nf (ci : Nat) : Nat := ((xk_cl[ci]?).map (fun r => r.2.2)).getD 0
def xk_fin (ci k : Nat) : Bool := ((xk_cl[ci]?).map (fun r => (r.2.1 k).2.2.2)).getD true
def xk_dv (ci : Nat) : List Value := (List.range (xk_nf ci)).map (fun k => defaultValue (xk_ty ci k))
/-- the string constant: its length and letters -/
def xk_txt : String := "paper clerk strokes due worth way left needs bears ink nib minute begins office away rests sign if or and not"
def xk_E (aC : Nat → ClassId) (c : xk_C) : va_E := match c with
  | .inl x => .inl (aC x.1, x.2)
  | .inr o => .inr o
def xk_HR (D : va_G) (aC : Nat → ClassId) (B0 : Nat) (σ : xk_S) (H : Heap) : Prop :=
  H.size = σ.2.1 ∧ B0 ≤ σ.2.1 ∧ (∀ a : Nat, B0 ≤ a → a < σ.2.1 → va_at D xk_cl (a, xk_E aC (σ.1 a)) H) ∧ ∀ a : Nat, ¬ (B0 ≤ a ∧ a < σ.2.1) → σ.1 a = xk_no
def xk_Fr (B0 : Nat) (H0 H : Heap) (locs : List Loc) : Prop := (∀ q : Nat, q < B0 → H[q]? = H0[q]?) ∧ ∀ l ∈ locs, B0 ≤ l.base
theorem xk_HR.in {D : va_G} {aC : Nat → ClassId} {B0 a : Nat} {σ : xk_S} {H : Heap} (h : xk_HR D aC B0 σ H) (hn : σ.1 a ≠ xk_no) : B0 ≤ a ∧ a < σ.2.1 := by
  rcases Classical.em (B0 ≤ a ∧ a < σ.2.1) with q | q
  · exact q
  · exact absurd (h.2.2.2 a q) hn
theorem xk_HR.at {D : va_G} {aC : Nat → ClassId} {B0 a : Nat} {σ : xk_S} {H : Heap} (h : xk_HR D aC B0 σ H) (hn : σ.1 a ≠ xk_no) : va_at D xk_cl (a, xk_E aC (σ.1 a)) H := h.2.2.1 a (h.in hn).1 (h.in hn).2
theorem xk_no_arr {f : Nat → xk_C} {a : Nat} {x : Nat × vp_A} (h : f a = .inl x) : f a ≠ xk_no := by rw [h]; unfold xk_no; intro q; cases q
theorem xk_no_obj {f : Nat → xk_C} {a ci : Nat} {fs : List Value} (h : f a = .inr (ci, fs)) (hc : ci < 13) : f a ≠ xk_no := by
  rw [h]; unfold xk_no; intro q
  have := congrArg Prod.fst (Sum.inr.inj q)
  simp at this; omega
theorem xk_HR.put {D : va_G} {aC : Nat → ClassId} {B0 a : Nat} {σ : xk_S} {H H1 : Heap} {c : xk_C} (h : xk_HR D aC B0 σ H) (hn : σ.1 a ≠ xk_no) (e1 : va_at D xk_cl (a, xk_E aC c) H1) (z : H1.size = H.size) (oq : ∀ q : Nat, q ≠ a → H1[q]? = H[q]?) : xk_HR D aC B0 (va_up σ.1 a c, σ.2) H1 := by
  have hin := h.in hn
  refine ⟨z.trans h.1, h.2.1, fun b h1 h2 => ?_, fun b hb => ?_⟩
  · by_cases hba : b = a
    · subst hba
      show va_at D xk_cl (b, xk_E aC (va_up σ.1 b c b)) H1
      rw [va_up_self]; exact e1
    · show va_at D xk_cl (b, xk_E aC (va_up σ.1 a c b)) H1
      rw [va_up_ne _ _ hba]
      exact (h.2.2.1 b h1 h2).kept (oq b hba)
  · show va_up σ.1 a c b = xk_no
    rw [va_up_ne _ _ (fun q => hb (by rw [q]; exact hin))]
    exact h.2.2.2 b hb
theorem xk_HR.new {D : va_G} {aC : Nat → ClassId} {B0 n : Nat} {σ : xk_S} {H H1 : Heap} {c : xk_C} (h : xk_HR D aC B0 σ H) (e1 : va_at D xk_cl (σ.2.1, xk_E aC c) H1) (z : H1.size = H.size + 1) (oq : ∀ q : Nat, q < H.size → H1[q]? = H[q]?) : xk_HR D aC B0 (va_up σ.1 σ.2.1 c, σ.2.1 + 1, σ.2.2.1 + n, σ.2.2.2) H1 := by
  refine ⟨by rw [z, h.1], Nat.le_succ_of_le h.2.1, fun b h1 h2 => ?_, fun b hb => ?_⟩
  · by_cases hba : b = σ.2.1
    · subst hba
      show va_at D xk_cl (σ.2.1, xk_E aC (va_up σ.1 σ.2.1 c σ.2.1)) H1
      rw [va_up_self]; exact e1
    · show va_at D xk_cl (b, xk_E aC (va_up σ.1 σ.2.1 c b)) H1
      rw [va_up_ne _ _ hba]
      have hb2 : b < σ.2.1 := by have : b < σ.2.1 + 1 := h2; omega
      exact (h.2.2.1 b h1 hb2).kept (oq b (by rw [h.1]; exact hb2))
  · have hb : ¬ (B0 ≤ b ∧ b < σ.2.1 + 1) := hb
    have h21 := h.2.1
    show va_up σ.1 σ.2.1 c b = xk_no
    rw [va_up_ne _ _ (fun q => hb ⟨by omega, by omega⟩)]
    exact h.2.2.2 b (fun q => hb ⟨q.1, by omega⟩)
theorem xk_Fr.put {B0 a k : Nat} {H0 H H1 : Heap} {locs : List Loc} (h : xk_Fr B0 H0 H locs) (ha : B0 ≤ a) (oq : ∀ q : Nat, q ≠ a → H1[q]? = H[q]?) : xk_Fr B0 H0 H1 (locs ++ [⟨a, k⟩]) := by
  refine ⟨fun q hq => (oq q (by omega)).trans (h.1 q hq), fun l hl => ?_⟩
  rcases List.mem_append.mp hl with h1 | h1
  · exact h.2 l h1
  · rw [List.mem_singleton.mp h1]; exact ha
theorem xk_Fr.new {B0 : Nat} {H0 H H1 : Heap} {locs : List Loc} (h : xk_Fr B0 H0 H locs) (hB : B0 ≤ H.size) (oq : ∀ q : Nat, q < H.size → H1[q]? = H[q]?) : xk_Fr B0 H0 H1 locs := ⟨fun q hq => (oq q (by omega)).trans (h.1 q hq), h.2⟩
/-- the kind of a row of numbers -/
def xk_nk (t : ArrayType) : Option Nat := match t with
  | .int => some 0
  | .byte => some 1
  | .boolean => some 2
  | .long => some 3
  | _ => none
def xk_z (t n : Nat) : vp_A := if t = 3 then (n, .inr (.inl (fun _ => 0))) else (n, .inl (fun _ => 0))
/-- steps on the heap; ini: the method is a constructor -/
def xk_heap (o : Nat) (ini : Bool) (i : Instr) (len : Nat) (st : List Value) (σ : xk_S) : Option (List Value × xk_S) :=
  match i with
  | .getfield idx => match st with
    | .ref a :: st => match xk_fld o idx, σ.1 a with
      | some (ci, k), .inr (c, fs) => if len = 3 ∧ c = ci then (fs[k]?).map (fun v => (v :: st, σ)) else none
      | _, _ => none
    | _ => none
  | .putfield idx => match st with
    | v :: .ref a :: st => match xk_fld o idx, σ.1 a with
      | some (ci, k), .inr (c, fs) => if len = 3 ∧ c = ci ∧ k < fs.length ∧ narrow (xk_ty ci k) v = v ∧ fits (xk_ty ci k) v = true ∧ (xk_fin ci k = false ∨ (ini = true ∧ o = ci)) then some (st, (va_up σ.1 a (.inr (ci, fs.set k v)), σ.2)) else none
      | _, _ => none
    | _ => none
  | .iaload => match st with
    | .int j :: .ref a :: st => match σ.1 a with
      | .inl (t, n, .inl g) => if len = 1 ∧ t = 0 ∧ ¬ (j < 0 ∨ n ≤ j.toNatClampNeg) then some (.int (g j.toNatClampNeg) :: st, σ) else none
      | _ => none
    | _ => none
  | .baload => match st with
    | .int j :: .ref a :: st => match σ.1 a with
      | .inl (t, n, .inl g) => if len = 1 ∧ (t = 1 ∨ t = 2) ∧ ¬ (j < 0 ∨ n ≤ j.toNatClampNeg) then some (.int (g j.toNatClampNeg) :: st, σ) else none
      | _ => none
    | _ => none
  | .laload => match st with
    | .int j :: .ref a :: st => match σ.1 a with
      | .inl (t, n, .inr (.inl g)) => if len = 1 ∧ t = 3 ∧ ¬ (j < 0 ∨ n ≤ j.toNatClampNeg) then some (.long (g j.toNatClampNeg) :: st, σ) else none
      | _ => none
    | _ => none
  | .aaload => match st with
    | .int j :: .ref a :: st => match σ.1 a with
      | .inl (t, n, .inr (.inr (.inr (.inr g)))) => if len = 1 ∧ (t = 4 ∨ t = 5 ∨ t = 6) ∧ ¬ (j < 0 ∨ n ≤ j.toNatClampNeg) then some (va_rf (g j.toNatClampNeg) :: st, σ) else none
      | _ => none
    | _ => none
  | .iastore => match st with
    | .int x :: .int j :: .ref a :: st => match σ.1 a with
      | .inl (t, n, .inl g) => if len = 1 ∧ t = 0 ∧ ¬ (j < 0 ∨ n ≤ j.toNatClampNeg) then some (st, (va_up σ.1 a (.inl (0, n, .inl (va_up g j.toNatClampNeg x))), σ.2)) else none
      | _ => none
    | _ => none
  | .bastore => match st with
    | .int x :: .int j :: .ref a :: st => match σ.1 a with
      | .inl (t, n, .inl g) => if len = 1 ∧ t = 1 ∧ ¬ (j < 0 ∨ n ≤ j.toNatClampNeg) then some (st, (va_up σ.1 a (.inl (1, n, .inl (va_up g j.toNatClampNeg x.toInt8.toInt32))), σ.2))
        else if len = 1 ∧ t = 2 ∧ ¬ (j < 0 ∨ n ≤ j.toNatClampNeg) then some (st, (va_up σ.1 a (.inl (2, n, .inl (va_up g j.toNatClampNeg (x &&& 1)))), σ.2)) else none
      | _ => none
    | _ => none
  | .lastore => match st with
    | .long x :: .int j :: .ref a :: st => match σ.1 a with
      | .inl (t, n, .inr (.inl g)) => if len = 1 ∧ t = 3 ∧ ¬ (j < 0 ∨ n ≤ j.toNatClampNeg) then some (st, (va_up σ.1 a (.inl (3, n, .inr (.inl (va_up g j.toNatClampNeg x)))), σ.2)) else none
      | _ => none
    | _ => none
  | .aastore => match st with
    | .ref v :: .int j :: .ref a :: st => match σ.1 a, σ.1 v with
      | .inl (t, n, .inr (.inr (.inr (.inr g)))), .inr (c, _) => if len = 1 ∧ xk_rk c = some t ∧ ¬ (j < 0 ∨ n ≤ j.toNatClampNeg) then some (st, (va_up σ.1 a (.inl (t, n, .inr (.inr (.inr (.inr (va_up g j.toNatClampNeg (some v))))))), σ.2)) else none
      | _, _ => none
    | _ => none
  | .arraylength => match st with
    | .ref a :: st => match σ.1 a with
      | .inl (t, x) => if len = 1 ∧ t < 7 then some (.int (Int32.ofNat x.1) :: st, σ) else none
      | _ => none
    | _ => none
  | .new idx => match xk_kls o idx with
    | some ci => if len = 3 then some (.ref σ.2.1 :: st, (va_up σ.1 σ.2.1 (.inr (ci, xk_dv ci)), σ.2.1 + 1, σ.2.2.1 + xk_nf ci, σ.2.2.2)) else none
    | none => none
  | .newarray ty => match st with
    | .int n :: st => match xk_nk ty with
      | some t => if len = 2 ∧ ¬ n < 0 ∧ n.toNatClampNeg ≤ 60000000 then some (.ref σ.2.1 :: st, (va_up σ.1 σ.2.1 (.inl (t, xk_z t n.toNatClampNeg)), σ.2.1 + 1, σ.2.2.1 + n.toNatClampNeg, σ.2.2.2)) else none
      | none => none
    | _ => none
  | .anewarray idx => match st with
    | .int n :: st => match xk_kls o idx with
      | some ci => match xk_rk ci with
        | some t => if len = 3 ∧ ¬ n < 0 ∧ n.toNatClampNeg ≤ 60000000 then some (.ref σ.2.1 :: st, (va_up σ.1 σ.2.1 (.inl (t, n.toNatClampNeg, .inr (.inr (.inr (.inr (fun _ => none)))))), σ.2.1 + 1, σ.2.2.1 + n.toNatClampNeg, σ.2.2.2)) else none
        | none => none
      | none => none
    | _ => none
  | .invokespecial idx => match st with
    | .ref _ :: st => if len = 3 ∧ xk_oin o idx = true ∧ (st.map (fun v => v.category)).sum ≤ 8 then some (st, σ) else none
    | _ => none
  | .invokestatic idx => match xk_mat o idx with
    | some 0 => match st with
      | .int x :: st => if len = 3 ∧ (st.map (fun v => v.category)).sum ≤ 8 then some (.int (if 0 ≤ x then x else 0 - x) :: st, σ) else none
      | _ => none
    | some 1 => match st with
      | .int y :: .int x :: st => if len = 3 ∧ (st.map (fun v => v.category)).sum ≤ 8 then some (.int (if x < y then y else x) :: st, σ) else none
      | _ => none
    | some 2 => match st with
      | .int y :: .int x :: st => if len = 3 ∧ (st.map (fun v => v.category)).sum ≤ 8 then some (.int (if y < x then y else x) :: st, σ) else none
      | _ => none
    | _ => none
  | .ldc idx => if len = 2 ∧ o = 10 ∧ idx = 49 then some (.ref σ.2.2.2 :: st, σ) else none
  | _ => none
theorem xk_fld_ok {o i ci k : Nat} {own : String} (h : xk_fld o i = some (ci, k)) (ho : xk_RN[o]? = some own) : ∃ r : vw_C, xk_cl[ci]? = some r ∧ k < r.2.2 ∧ (r.2.1 k).1 = r.1 ∧ Cond.fieldLink own i r.1 (r.2.1 k).2.1 (r.2.1 k).2.2.1 ∈ xk_WA := by
  unfold xk_fld at h
  split at h
  · rename_i hi
    obtain ⟨q, hq, hqe⟩ := Option.map_eq_some_iff.mp h
    cases hqe
    have h1 := List.mem_of_find?_eq_some hq
    have h2 : q.1 = o * 1000 + i := by simpa using List.find?_some hq
    have h3 := List.all_eq_true.mp xk_fl_ok q h1
    rw [show q.1 / 1000 = o by omega, show q.1 % 1000 = i by omega, ho] at h3
    cases hr : xk_cl[q.2.1]? with
    | none => rw [hr] at h3; cases h3
    | some r =>
      rw [hr] at h3
      simp only [Bool.and_eq_true, decide_eq_true_eq] at h3
      exact ⟨r, rfl, h3.1.1.1, h3.1.1.2, xk_WA_of h3.1.2 h3.2⟩
  · cases h
theorem xk_kls_ok {o i ci : Nat} {own : String} (h : xk_kls o i = some ci) (ho : xk_RN[o]? = some own) : ∃ r : vw_C, xk_cl[ci]? = some r ∧ Cond.classLink own i r.1 ∈ xk_WA := by
  unfold xk_kls at h
  split at h
  · rename_i hi
    obtain ⟨q, hq, hqe⟩ := Option.map_eq_some_iff.mp h
    cases hqe
    have h1 := List.mem_of_find?_eq_some hq
    have h2 : q.1 = o * 1000 + i := by simpa using List.find?_some hq
    have h3 := List.all_eq_true.mp xk_kl_ok q h1
    rw [show q.1 / 1000 = o by omega, show q.1 % 1000 = i by omega, ho] at h3
    cases hr : xk_cl[q.2.1]? with
    | none => rw [hr] at h3; cases h3
    | some r =>
      rw [hr] at h3
      simp only [Bool.and_eq_true, decide_eq_true_eq] at h3
      exact ⟨r, rfl, xk_WA_of h3.1 h3.2⟩
  · cases h
theorem xk_oin_ok {o i : Nat} {own : String} (h : xk_oin o i = true) (ho : xk_RN[o]? = some own) : Cond.methodLink own i Lib.objectInit ∈ xk_WA := by
  unfold xk_oin at h
  simp only [Bool.and_eq_true, decide_eq_true_eq, List.any_eq_true, beq_iff_eq] at h
  obtain ⟨hi, q, h1, h2⟩ := h
  have h3 := List.all_eq_true.mp xk_ol_ok q h1
  rw [show q.1 / 1000 = o by omega, show q.1 % 1000 = i by omega, ho] at h3
  simp only [Bool.and_eq_true, decide_eq_true_eq] at h3
  exact xk_WA_of h3.1 h3.2
theorem xk_mat_ok {o i k : Nat} {own : String} (h : xk_mat o i = some k) (ho : xk_RN[o]? = some own) : Cond.methodLink own i (xk_mname k) ∈ xk_WA := by
  unfold xk_mat at h
  split at h
  · rename_i hi
    obtain ⟨q, hq, hqe⟩ := Option.map_eq_some_iff.mp h
    cases hqe
    have h1 := List.mem_of_find?_eq_some hq
    have h2 : q.1 = o * 1000 + i := by simpa using List.find?_some hq
    have h3 := List.all_eq_true.mp xk_ql_ok q h1
    rw [show q.1 / 1000 = o by omega, show q.1 % 1000 = i by omega, ho] at h3
    simp only [Bool.and_eq_true, decide_eq_true_eq] at h3
    exact xk_WA_of h3.1 h3.2
  · cases h
theorem xk_cl_lt {ci : Nat} {r : vw_C} (h : xk_cl[ci]? = some r) : ci < 13 := by
  have := (List.getElem?_eq_some_iff.mp h).1
  simpa [xk_cl] using this
theorem xk_ty_at {ci k : Nat} {r : vw_C} (h : xk_cl[ci]? = some r) (hk : k < r.2.2) : parseFieldDescriptor (r.2.1 k).2.2.1 = some (xk_ty ci k) := by
  have := xk_ty_ok ci (xk_cl_lt h) k (by rw [h]; exact hk)
  rw [h] at this
  exact this
theorem xk_insta_at {ci : Nat} {r : vw_C} (h : xk_cl[ci]? = some r) : Cond.instantiable r.1 r.2.2 ∈ xk_WA ∧ Cond.initialized r.1 ∈ xk_WA := by
  have hlt := xk_cl_lt h
  refine ⟨?_, ?_⟩
  · have hz : ci < xk_insta.length := by simpa [xk_insta] using hlt
    have h1 : (r, xk_insta[ci]) ∈ xk_cl.zip xk_insta := by
      refine List.mem_of_getElem? (i := ci) ?_
      rw [List.getElem?_zip_eq_some]
      exact ⟨h, List.getElem?_eq_getElem hz⟩
    have h2 := List.all_eq_true.mp xk_insta_ok _ h1
    simp only [Bool.and_eq_true, decide_eq_true_eq] at h2
    exact xk_WA_of h2.1 h2.2
  · have hall : ∀ r ∈ xk_cl, Cond.initialized r.1 ∈ xk_WA := by
      have h0 : xk_cl.all (fun r => decide (Cond.initialized r.1 ∈ lw_tbl) && goodWord (Cond.initialized r.1)) = true := by decide +kernel
      intro r hr
      exact xk_memdec _ (List.all_eq_true.mp h0 r hr)
    exact hall r (List.mem_of_getElem? h)
