/-! THE ABSTRACT MACHINE: the class's and the reference's bytecode over a heap that is a function; all that follows on pure numbers speaks of it -/
/-- a cell: an array (its kind, length, contents), or an object (its class, its fields) -/
abbrev xk_C : Type := (Nat × vp_A) ⊕ (Nat × List Value)
/-- what lies at each address; the next address; slots made; the address of the string constant -/
abbrev xk_S : Type := (Nat → xk_C) × Nat × Nat × Nat
/-- a place of the locals that holds nothing -/
def xk_dd : Value := .retAddr 0
def xk_no : xk_C := .inr (99, [])
def xk_fld (o i : Nat) : Option (Nat × Nat) := if i < 1000 then (xk_fl.find? (fun e => e.1 == o * 1000 + i)).map (fun e => (e.2.1, e.2.2.1)) else none
def xk_mth (o i : Nat) : Option (Nat × Bool) := if i < 1000 then (xk_ml.find? (fun e => e.1 == o * 1000 + i)).map (fun e => (e.2.1, e.2.2.2)) else none
def xk_kls (o i : Nat) : Option Nat := if i < 1000 then (xk_kl.find? (fun e => e.1 == o * 1000 + i)).map (fun e => e.2.1) else none
def xk_cI (o i : Nat) : Option Int32 := if i < 1000 then (xk_il.find? (fun e => e.1 == o * 1000 + i)).map (fun e => e.2.1) else none
def xk_cJ (o i : Nat) : Option Int64 := if i < 1000 then (xk_jl.find? (fun e => e.1 == o * 1000 + i)).map (fun e => e.2.1) else none
def xk_oin (o i : Nat) : Bool := decide (i < 1000) && xk_ol.any (fun e => e.1 == o * 1000 + i)
def xk_nat (o i : Nat) : Option Nat := if i < 1000 then (xk_nl.find? (fun e => e.1 == o * 1000 + i)).map (fun e => e.2.1) else none
def xk_mat (o i : Nat) : Option Nat := if i < 1000 then (xk_ql.find? (fun e => e.1 == o * 1000 + i)).map (fun e => e.2.1) else none
def xk_own (y : Nat) : Nat := ((xk_mt y).map (fun e => e.1)).getD 99
def xk_code (y : Nat) : ByteArray := ((xk_mt y).map (fun e => e.2.2.1)).getD ⟨#[]⟩
def xk_ins (y pc : Nat) : Option (Instr × Nat) := match decode (xk_code y) pc with | .ok q => some q | .error _ => none
def xk_gI (ρ : List Value) (k : Nat) : Option Value := match ρ[k]? with | some (.int x) => some (.int x) | _ => none
def xk_gL (ρ : List Value) (k : Nat) : Option Value := match ρ[k]? with | some (.long x) => if ρ[k + 1]? = some xk_dd then some (.long x) else none | _ => none
def xk_gA (ρ : List Value) (k : Nat) : Option Value := match ρ[k]? with | some (.ref x) => some (.ref x) | _ => none
/-- what pushes one value -/
def xk_push (o : Nat) (i : Instr) (len : Nat) (ρ : List Value) : Option Value :=
  match i with
  | .iconst n => if len = 1 then some (.int (Int32.ofInt n)) else none
  | .bipush n => if len = 2 then some (.int (Int8.ofInt n).toInt32) else none
  | .sipush n => if len = 3 then some (.int (Int16.ofInt n).toInt32) else none
  | .lconst n => if len = 1 then some (.long (Int64.ofNat n.val)) else none
  | .iload_n k => if len = 1 then xk_gI ρ k.val else none
  | .iload k => if len = 2 then xk_gI ρ k else none
  | .lload_n k => if len = 1 then xk_gL ρ k.val else none
  | .lload k => if len = 2 then xk_gL ρ k else none
  | .aload_n k => if len = 1 then xk_gA ρ k.val else none
  | .aload k => if len = 2 then xk_gA ρ k else none
  | .ldc_w k => if len = 3 then (xk_cI o k).map .int else none
  | .ldc k => if len = 2 then (xk_cI o k).map .int else none
  | .ldc2_w k => if len = 3 then (xk_cJ o k).map .long else none
  | _ => none
def xk_s1 (ρ : List Value) (k : Nat) (v : Value) (st : List Value) : Option (List Value × List Value) := if k < ρ.length then some (ρ.set k v, st) else none
def xk_s2 (ρ : List Value) (k : Nat) (v : Value) (st : List Value) : Option (List Value × List Value) := if k + 1 < ρ.length then some ((ρ.set k v).set (k + 1) xk_dd, st) else none
/-- stores, and what shuffles the stack -/
def xk_sto (i : Instr) (len : Nat) (ρ st : List Value) : Option (List Value × List Value) :=
  match i with
  | .istore_n k => match st with | .int x :: st => if len = 1 then xk_s1 ρ k.val (.int x) st else none | _ => none
  | .istore k => match st with | .int x :: st => if len = 2 then xk_s1 ρ k (.int x) st else none | _ => none
  | .lstore_n k => match st with | .long x :: st => if len = 1 then xk_s2 ρ k.val (.long x) st else none | _ => none
  | .lstore k => match st with | .long x :: st => if len = 2 then xk_s2 ρ k (.long x) st else none | _ => none
  | .astore_n k => match st with | .ref x :: st => if len = 1 then xk_s1 ρ k.val (.ref x) st else none | _ => none
  | .astore k => match st with | .ref x :: st => if len = 2 then xk_s1 ρ k (.ref x) st else none | _ => none
  | .iinc k n => match ρ[k]? with | some (.int x) => if len = 3 then xk_s1 ρ k (.int (x + Int32.ofInt n)) st else none | _ => none
  | .dup => match st with | v :: st => if len = 1 ∧ v.category = 1 then some (ρ, v :: v :: st) else none | _ => none
  | .pop => match st with | v :: st => if len = 1 ∧ v.category = 1 then some (ρ, st) else none | _ => none
  | .dup2 => match st with | v :: w :: st => if len = 1 ∧ v.category = 1 ∧ w.category = 1 then some (ρ, v :: w :: v :: w :: st) else none | _ => none
  | .i2l => match st with | .int x :: st => if len = 1 then some (ρ, .long x.toInt64 :: st) else none | _ => none
  | .l2i => match st with | .long x :: st => if len = 1 then some (ρ, .int x.toInt32 :: st) else none | _ => none
  | .i2c => match st with | .int x :: st => if len = 1 then some (ρ, .int (x.toUInt32 % 65536).toInt32 :: st) else none | _ => none
  | .i2b => match st with | .int x :: st => if len = 1 then some (ρ, .int x.toInt8.toInt32 :: st) else none | _ => none
  | .ineg => match st with | .int x :: st => if len = 1 then some (ρ, .int (-x) :: st) else none | _ => none
  | .lcmp => match st with | .long y :: .long x :: st => if len = 1 then some (ρ, .int (lg_cmp x y) :: st) else none | _ => none
  | .lshl => match st with | .int y :: .long x :: st => if len = 1 then some (ρ, .long (x <<< (y.toInt64 &&& 63)) :: st) else none | _ => none
  | _ => none
def xk_bin (i : Instr) (x y : Int32) : Option Int32 :=
  match i with
  | .iadd => some (x + y)
  | .isub => some (x - y)
  | .imul => some (x * y)
  | .iand => some (x &&& y)
  | .ior => some (x ||| y)
  | .ixor => some (x ^^^ y)
  | .ishl => some (x <<< (y &&& 31))
  | .ishr => some (x >>> (y &&& 31))
  | .iushr => some (x.toUInt32 >>> (y.toUInt32 &&& Int32.toUInt32 31)).toInt32
  | .idiv => if y = 0 then none else some (x / y)
  | .irem => if y = 0 then none else some (x - x / y * y)
  | _ => none
def xk_binL (i : Instr) (x y : Int64) : Option Int64 :=
  match i with
  | .ladd => some (x + y)
  | .lsub => some (x - y)
  | .lmul => some (x * y)
  | .land => some (x &&& y)
  | .lor => some (x ||| y)
  | .ldiv => if y = 0 then none else some (x / y)
  | .lrem => if y = 0 then none else some (x - x / y * y)
  | _ => none
def xk_ari (i : Instr) (len : Nat) (st : List Value) : Option (List Value) :=
  if len = 1 then
    match st with
    | .int y :: .int x :: st => (xk_bin i x y).map (fun z => .int z :: st)
    | .long y :: .long x :: st => (xk_binL i x y).map (fun z => .long z :: st)
    | _ => none
  else none
def xk_pure (o : Nat) (i : Instr) (len : Nat) (ρ st : List Value) : Option (List Value × List Value) :=
  match xk_push o i len ρ with
  | some v => some (ρ, v :: st)
  | none => match xk_sto i len ρ st with
    | some r => some r
    | none => (xk_ari i len st).map (fun st' => (ρ, st'))
def xk_cmp (c : ClassFile.Cond) (x y : Int32) : Bool :=
  match c with
  | .eq => decide (x = y)
  | .ne => decide (¬ x = y)
  | .lt => decide (x < y)
  | .ge => decide (y ≤ x)
  | .gt => decide (y < x)
  | .le => decide (x ≤ y)
/-- jumps: whether, how far, the stack behind it -/
def xk_br (i : Instr) (len : Nat) (st : List Value) : Option (Bool × Int × List Value) :=
  match i with
  | .goto off => if len = 3 then some (true, off, st) else none
  | .ifCond c off => match st with | .int x :: st => if len = 3 then some (xk_cmp c x 0, off, st) else none | _ => none
  | .if_icmp c off => match st with | .int y :: .int x :: st => if len = 3 then some (xk_cmp c x y, off, st) else none | _ => none
  | .tableswitch d lo hi offs => match st with | .int x :: st => if x.toInt < lo ∨ hi < x.toInt then some (true, d, st) else (offs[(x.toInt - lo).toNat]?).map (fun off => (true, off, st)) | _ => none
  | .lookupswitch d ps => match st with | .int x :: st => if (ps.toList.zip (ps.toList.drop 1)).all (fun (a, next) => a.1 < next.1) = true then some (true, Op.lookupswitch.offset ps.toList d x.toInt, st) else none | _ => none
  | _ => none
/-- the locals as the machine has them -/
def xk_RL (ls : Array Slot) (ρ : List Value) : Prop := ls.size = ρ.length ∧ lv_wf ls ∧ ∀ (i : Nat) (v : Value), ρ[i]? = some v → v ≠ xk_dd → (v.category = 2 → ρ[i + 1]? = some xk_dd) → ls[i]? = some (.val v)
def xk_prs (ρ : List Value) : List (Nat × Value) := (List.range ρ.length).filterMap (fun i => match ρ[i]? with
  | some v => if v ≠ xk_dd ∧ (v.category = 2 → ρ[i + 1]? = some xk_dd) then some (i, v) else none
  | none => none)
theorem xk_prs_mem {ρ : List Value} {i : Nat} {v : Value} : (i, v) ∈ xk_prs ρ ↔ ρ[i]? = some v ∧ v ≠ xk_dd ∧ (v.category = 2 → ρ[i + 1]? = some xk_dd) := by
  unfold xk_prs
  rw [List.mem_filterMap]
  constructor
  · rintro ⟨j, hj, h⟩
    cases hv : ρ[j]? with
    | none => rw [hv] at h; cases h
    | some w =>
      rw [hv] at h
      simp only at h
      split at h
      · rename_i hc
        cases h
        exact ⟨hv, hc⟩
      · cases h
  · rintro ⟨h1, h2⟩
    refine ⟨i, List.mem_range.mpr (List.getElem?_eq_some_iff.mp h1).1, ?_⟩
    rw [h1]
    simp only
    rw [if_pos h2]
theorem xk_RL.has {ls : Array Slot} {ρ : List Value} (h : xk_RL ls ρ) : lv_has ls ρ.length (xk_prs ρ) := ⟨h.1, h.2.1, fun q hq => by
  obtain ⟨h1, h2, h3⟩ := xk_prs_mem.mp (show (q.1, q.2) ∈ xk_prs ρ from hq)
  exact h.2.2 q.1 q.2 h1 h2 h3⟩
theorem xk_RL.s1 {ls' : Array Slot} {ρ : List Value} {i : Nat} {v : Value} (hv : v.category = 1) (hd : v ≠ xk_dd) (h : lv_has ls' ρ.length ((i, v) :: (xk_prs ρ).filter (fun q => !(q.1 == i) && !(q.1 + 1 == i && q.2.category == 2)))) (hi : i < ρ.length) : xk_RL ls' (ρ.set i v) := by
  refine ⟨by rw [List.length_set]; exact h.1, h.2.1, fun j w hj hw hc => ?_⟩
  by_cases hji : j = i
  · subst hji
    rw [List.getElem?_set_self hi] at hj
    cases hj
    exact h.2.2 (j, v) List.mem_cons_self
  · rw [List.getElem?_set_ne (Ne.symm hji)] at hj
    refine h.2.2 (j, w) (List.mem_cons_of_mem _ (List.mem_filter.mpr ⟨xk_prs_mem.mpr ⟨hj, hw, fun h2 => ?_⟩, ?_⟩))
    · have h3 := hc h2
      by_cases hj1 : j + 1 = i
      · subst hj1
        rw [List.getElem?_set_self hi] at h3
        cases h3
        exact absurd rfl hd
      · rwa [List.getElem?_set_ne (Ne.symm hj1)] at h3
    · by_cases hj1 : j + 1 = i
      · have : ¬ w.category = 2 := fun h2 => by
          have h3 := hc h2
          rw [hj1, List.getElem?_set_self hi] at h3
          cases h3
          exact absurd rfl hd
        simp [hji, this]
      · simp [hji, hj1]
theorem xk_RL.s2 {ls' : Array Slot} {ρ : List Value} {i : Nat} {v : Value} (hv : v.category = 2) (hd : v ≠ xk_dd) (h : lv_has ls' ρ.length ((i, v) :: (xk_prs ρ).filter (fun q => !(q.1 == i) && (!(q.1 == i + 1) && !(q.1 + 1 == i && q.2.category == 2))))) (hi : i + 1 < ρ.length) : xk_RL ls' ((ρ.set i v).set (i + 1) xk_dd) := by
  have hl : (ρ.set i v).length = ρ.length := List.length_set
  refine ⟨by rw [List.length_set, List.length_set]; exact h.1, h.2.1, fun j w hj hw hc => ?_⟩
  by_cases hj2 : j = i + 1
  · subst hj2
    rw [List.getElem?_set_self (by omega)] at hj
    cases hj
    exact absurd rfl hw
  · rw [List.getElem?_set_ne (Ne.symm hj2)] at hj
    by_cases hji : j = i
    · subst hji
      rw [List.getElem?_set_self (by omega)] at hj
      cases hj
      exact h.2.2 (j, v) List.mem_cons_self
    · rw [List.getElem?_set_ne (Ne.symm hji)] at hj
      have key : w.category = 2 → j + 1 ≠ i ∧ ρ[j + 1]? = some xk_dd := fun h2 => by
        have h3 := hc h2
        rw [List.getElem?_set_ne (by omega)] at h3
        by_cases hj1 : j + 1 = i
        · subst hj1
          rw [List.getElem?_set_self (by omega)] at h3
          cases h3
          exact absurd rfl hd
        · rw [List.getElem?_set_ne (Ne.symm hj1)] at h3
          exact ⟨hj1, h3⟩
      refine h.2.2 (j, w) (List.mem_cons_of_mem _ (List.mem_filter.mpr ⟨xk_prs_mem.mpr ⟨hj, hw, fun h2 => (key h2).2⟩, ?_⟩))
      by_cases h2 : w.category = 2
      · simp [hji, hj2, (key h2).1]
      · simp [hji, hj2, h2]
section XKW
variable {p : Program} {l : Launch} {e : Env} {R : Room} {s : State} {m : MethodId} {args : Array Value} {below : List Frame} {meth : Method} {c : Code} {H : Heap} {locs : List Loc} {cells slots : Nat} {Q : State → Prop}
variable {cc : ByteArray} {pc : Nat} {ls : Array Slot}
theorem xk_gI_ls {ρ : List Value} {k : Nat} {v : Value} (h : xk_gI ρ k = some v) (hl : xk_RL ls ρ) : ∃ x, v = .int x ∧ ls[k]? = some (.val (.int x)) := by
  unfold xk_gI at h
  split at h
  · rename_i x hx
    cases h
    exact ⟨x, rfl, hl.2.2 k _ hx (by unfold xk_dd; intro q; cases q) (fun q => by simp [Value.category] at q)⟩
  · cases h
theorem xk_gL_ls {ρ : List Value} {k : Nat} {v : Value} (h : xk_gL ρ k = some v) (hl : xk_RL ls ρ) : ∃ x, v = .long x ∧ ls[k]? = some (.val (.long x)) := by
  unfold xk_gL at h
  split at h
  · rename_i x hx
    split at h
    · rename_i hd
      cases h
      exact ⟨x, rfl, hl.2.2 k _ hx (by unfold xk_dd; intro q; cases q) (fun _ => hd)⟩
    · cases h
  · cases h
theorem xk_gA_ls {ρ : List Value} {k : Nat} {v : Value} (h : xk_gA ρ k = some v) (hl : xk_RL ls ρ) : ∃ x, v = .ref x ∧ ls[k]? = some (.val (.ref x)) := by
  unfold xk_gA at h
  split at h
  · rename_i x hx
    cases h
    exact ⟨x, rfl, hl.2.2 k _ hx (by unfold xk_dd; intro q; cases q) (fun q => by simp [Value.category] at q)⟩
  · cases h
theorem xk_cI_ok {o i : Nat} {v : Int32} {own : String} (h : xk_cI o i = some v) (ho : xk_RN[o]? = some own) : Cond.constant own i v ∈ xk_WA := by
  unfold xk_cI at h
  split at h
  · rename_i hi
    obtain ⟨q, hq, rfl⟩ := Option.map_eq_some_iff.mp h
    have h1 := List.mem_of_find?_eq_some hq
    have h2 : q.1 = o * 1000 + i := by simpa using List.find?_some hq
    have h3 := List.all_eq_true.mp xk_il_ok q h1
    rw [show q.1 / 1000 = o by omega, show q.1 % 1000 = i by omega, ho] at h3
    simp only [Bool.and_eq_true, decide_eq_true_eq] at h3
    exact xk_WA_of h3.1 h3.2
  · cases h
theorem xk_cJ_ok {o i : Nat} {v : Int64} {own : String} (h : xk_cJ o i = some v) (ho : xk_RN[o]? = some own) : Cond.constantLong own i v ∈ xk_WA := by
  unfold xk_cJ at h
  split at h
  · rename_i hi
    obtain ⟨q, hq, rfl⟩ := Option.map_eq_some_iff.mp h
    have h1 := List.mem_of_find?_eq_some hq
    have h2 : q.1 = o * 1000 + i := by simpa using List.find?_some hq
    have h3 := List.all_eq_true.mp xk_jl_ok q h1
    rw [show q.1 / 1000 = o by omega, show q.1 % 1000 = i by omega, ho] at h3
    simp only [Bool.and_eq_true, decide_eq_true_eq] at h3
    exact xk_WA_of h3.1 h3.2
  · cases h
theorem xk_w_push (hx : p.tables.exec = Jvm.exec) (hb : c.code = cc) {o : Nat} {own : String} (ho : xk_RN[o]? = some own) (hown : s.vm.findClass own = some m.cls) (hts : ∀ w ∈ xk_WA, w.before args s = true) {i : Instr} {len : Nat} {v : Value} {ρ st : List Value} (h : xk_push o i len ρ = some v) (hl : xk_RL ls ρ) (hd : decode cc pc = .ok (i, len))
    (k : W p l e R s m args below meth c H locs cells slots Q (F0 m (pc + len) ls (v :: st))) : W p l e R s m args below meth c H locs cells slots Q (F0 m pc ls st) := by
  unfold xk_push at h
  split at h <;> (try (cases h; done)) <;> (split at h <;> (try (cases h; done))) <;> (rename_i hlen; subst hlen)
  · cases h; exact lv_iconst hx hb hd rfl k
  · cases h; exact lv_bipush hx hb hd rfl k
  · cases h; exact lv_sipush hx hb hd rfl k
  · cases h; exact lv_lconst hx hb hd rfl k
  · obtain ⟨x, rfl, h2⟩ := xk_gI_ls h hl; exact lv_iload_n hx hb hd rfl h2 k
  · obtain ⟨x, rfl, h2⟩ := xk_gI_ls h hl; exact lv_iload hx hb hd h2 k
  · obtain ⟨x, rfl, h2⟩ := xk_gL_ls h hl; exact lv_lload_n hx hb hd rfl h2 k
  · obtain ⟨x, rfl, h2⟩ := xk_gL_ls h hl; exact lv_lload hx hb hd h2 k
  · obtain ⟨x, rfl, h2⟩ := xk_gA_ls h hl; exact lv_aload_n hx hb hd rfl h2 k
  · obtain ⟨x, rfl, h2⟩ := xk_gA_ls h hl; exact lv_aload hx hb hd h2 k
  · obtain ⟨x, h2, rfl⟩ := Option.map_eq_some_iff.mp h
    exact lv_ldcw hx hb hown (hts _ (xk_cI_ok h2 ho)) hd k
  · obtain ⟨x, h2, rfl⟩ := Option.map_eq_some_iff.mp h
    exact lv_ldc hx hb hown (hts _ (xk_cI_ok h2 ho)) hd k
  · obtain ⟨x, h2, rfl⟩ := Option.map_eq_some_iff.mp h
    exact lv_ldc2 hx hb hown (hts _ (xk_cJ_ok h2 ho)) hd k
theorem xk_w_bin (hx : p.tables.exec = Jvm.exec) (hb : c.code = cc) {i : Instr} {x y z : Int32} {st : List Value} (h : xk_bin i x y = some z) (hd : decode cc pc = .ok (i, 1))
    (k : W p l e R s m args below meth c H locs cells slots Q (F0 m (pc + 1) ls (.int z :: st))) : W p l e R s m args below meth c H locs cells slots Q (F0 m pc ls (.int y :: .int x :: st)) := by
  unfold xk_bin at h
  split at h <;> (try (cases h; done))
  · cases h; exact lv_iadd hx hb hd k
  · cases h; exact lv_isub hx hb hd k
  · cases h; exact lv_imul hx hb hd k
  · cases h; exact lv_iand hx hb hd k
  · cases h; exact lv_ior hx hb hd k
  · cases h; exact lv_ixor hx hb hd k
  · cases h; exact lv_ishl hx hb hd k
  · cases h; exact lv_ishr hx hb hd k
  · cases h; exact lv_iushr hx hb hd rfl k
  · split at h
    · cases h
    · rename_i hy; cases h; exact lv_idiv hx hb hd hy k
  · split at h
    · cases h
    · rename_i hy; cases h; exact lv_irem hx hb hd hy k
theorem xk_w_binL (hx : p.tables.exec = Jvm.exec) (hb : c.code = cc) {i : Instr} {x y z : Int64} {st : List Value} (h : xk_binL i x y = some z) (hd : decode cc pc = .ok (i, 1))
    (k : W p l e R s m args below meth c H locs cells slots Q (F0 m (pc + 1) ls (.long z :: st))) : W p l e R s m args below meth c H locs cells slots Q (F0 m pc ls (.long y :: .long x :: st)) := by
  unfold xk_binL at h
  split at h <;> (try (cases h; done))
  · cases h; exact lv_ladd hx hb hd k
  · cases h; exact lv_lsub hx hb hd k
  · cases h; exact lv_lmul hx hb hd k
  · cases h; exact lv_land hx hb hd k
  · cases h; exact lv_lor hx hb hd k
  · split at h
    · cases h
    · rename_i hy; cases h; exact lv_ldiv hx hb hd hy k
  · split at h
    · cases h
    · rename_i hy; cases h; exact lv_lrem hx hb hd hy k
theorem xk_w_ari (hx : p.tables.exec = Jvm.exec) (hb : c.code = cc) {i : Instr} {len : Nat} {st st' : List Value} (h : xk_ari i len st = some st') (hd : decode cc pc = .ok (i, len))
    (k : W p l e R s m args below meth c H locs cells slots Q (F0 m (pc + len) ls st')) : W p l e R s m args below meth c H locs cells slots Q (F0 m pc ls st) := by
  unfold xk_ari at h
  split at h
  · rename_i hlen
    subst hlen
    split at h
    · obtain ⟨z, h2, rfl⟩ := Option.map_eq_some_iff.mp h
      exact xk_w_bin hx hb h2 hd k
    · obtain ⟨z, h2, rfl⟩ := Option.map_eq_some_iff.mp h
      exact xk_w_binL hx hb h2 hd k
    · cases h
  · cases h
theorem xk_w_sto (hx : p.tables.exec = Jvm.exec) (hb : c.code = cc) {i : Instr} {len : Nat} {ρ st ρ' st' : List Value} (h : xk_sto i len ρ st = some (ρ', st')) (hl : xk_RL ls ρ) (hd : decode cc pc = .ok (i, len))
    (k : ∀ ls', xk_RL ls' ρ' → W p l e R s m args below meth c H locs cells slots Q (F0 m (pc + len) ls' st')) : W p l e R s m args below meth c H locs cells slots Q (F0 m pc ls st) := by
  unfold xk_sto at h
  split at h <;> (try (cases h; done)) <;> (split at h <;> (try (cases h; done))) <;> (split at h <;> (try (cases h; done))) <;> rename_i hlen
  · subst hlen
    unfold xk_s1 at h; split at h <;> (try (cases h; done))
    rename_i hk; cases h
    exact lv_istore_n hx hb hd rfl hl.has hk rfl (fun ls' h' => k ls' (xk_RL.s1 rfl (by unfold xk_dd; intro q; cases q) h' hk))
  · subst hlen
    unfold xk_s1 at h; split at h <;> (try (cases h; done))
    rename_i hk; cases h
    exact lv_istore hx hb hd hl.has hk rfl (fun ls' h' => k ls' (xk_RL.s1 rfl (by unfold xk_dd; intro q; cases q) h' hk))
  · subst hlen
    unfold xk_s2 at h; split at h <;> (try (cases h; done))
    rename_i hk; cases h
    exact lv_lstore_n hx hb hd rfl hl.has hk rfl (fun ls' h' => k ls' (xk_RL.s2 rfl (by unfold xk_dd; intro q; cases q) h' hk))
  · subst hlen
    unfold xk_s2 at h; split at h <;> (try (cases h; done))
    rename_i hk; cases h
    exact lv_lstore hx hb hd hl.has hk rfl (fun ls' h' => k ls' (xk_RL.s2 rfl (by unfold xk_dd; intro q; cases q) h' hk))
  · subst hlen
    unfold xk_s1 at h; split at h <;> (try (cases h; done))
    rename_i hk; cases h
    exact lv_astore_n hx hb hd rfl hl.has hk rfl (fun ls' h' => k ls' (xk_RL.s1 rfl (by unfold xk_dd; intro q; cases q) h' hk))
  · subst hlen
    unfold xk_s1 at h; split at h <;> (try (cases h; done))
    rename_i hk; cases h
    exact lv_astore hx hb hd hl.has hk rfl (fun ls' h' => k ls' (xk_RL.s1 rfl (by unfold xk_dd; intro q; cases q) h' hk))
  · rename_i hx1
    subst hlen
    unfold xk_s1 at h; split at h <;> (try (cases h; done))
    rename_i hk; cases h
    obtain ⟨k0, hk0⟩ := List.getElem?_of_mem (xk_prs_mem.mpr ⟨hx1, (by unfold xk_dd; intro q; cases q), fun q => by simp [Value.category] at q⟩)
    exact lv_iinc hx hb hd hl.has hk0 rfl hk rfl (fun ls' h' => k ls' (xk_RL.s1 rfl (by unfold xk_dd; intro q; cases q) h' hk))
  · obtain ⟨rfl, hv⟩ := hlen; cases h; exact lv_dup hx hb hd hv (k ls hl)
  · obtain ⟨rfl, hv⟩ := hlen; cases h; exact lv_pop hx hb hd hv (k ls hl)
  · obtain ⟨rfl, hv, hw⟩ := hlen; cases h; exact lv_dup2_11 hx hb hd hv hw (k ls hl)
  · subst hlen; cases h; exact lv_i2l hx hb hd rfl (k ls hl)
  · subst hlen; cases h; exact lv_l2i hx hb hd rfl (k ls hl)
  · subst hlen; cases h; exact lv_i2c hx hb hd rfl (k ls hl)
  · subst hlen; cases h; exact lv_i2b hx hb hd rfl (k ls hl)
  · subst hlen; cases h; exact lv_ineg hx hb hd (k ls hl)
  · subst hlen; cases h; exact W.lcmp hx hb hd (k ls hl)
  · subst hlen; cases h; exact lv_lshl hx hb hd rfl (k ls hl)
theorem xk_w_pure (hx : p.tables.exec = Jvm.exec) (hb : c.code = cc) {o : Nat} {own : String} (ho : xk_RN[o]? = some own) (hown : s.vm.findClass own = some m.cls) (hts : ∀ w ∈ xk_WA, w.before args s = true) {i : Instr} {len : Nat} {ρ st ρ' st' : List Value} (h : xk_pure o i len ρ st = some (ρ', st')) (hl : xk_RL ls ρ) (hd : decode cc pc = .ok (i, len))
    (k : ∀ ls', xk_RL ls' ρ' → W p l e R s m args below meth c H locs cells slots Q (F0 m (pc + len) ls' st')) : W p l e R s m args below meth c H locs cells slots Q (F0 m pc ls st) := by
  unfold xk_pure at h
  split at h
  · rename_i hp
    cases h
    exact xk_w_push hx hb ho hown hts hp hl hd (k ls hl)
  · split at h
    · rename_i hp
      cases h
      exact xk_w_sto hx hb hp hl hd k
    · obtain ⟨z, h2, h3⟩ := Option.map_eq_some_iff.mp h
      cases h3
      exact xk_w_ari hx hb h2 hd (k ls hl)
theorem xk_w_br (hx : p.tables.exec = Jvm.exec) (hb : c.code = cc) {i : Instr} {len : Nat} {b : Bool} {off : Int} {st st' : List Value} (h : xk_br i len st = some (b, off, st')) (hd : decode cc pc = .ok (i, len))
    (kt : b = true → ∃ tgt : Nat, (pc : Int) + off = (tgt : Int) ∧ W p l e R s m args below meth c H locs cells slots Q (F0 m tgt ls st')) (kf : b = false → W p l e R s m args below meth c H locs cells slots Q (F0 m (pc + len) ls st')) : W p l e R s m args below meth c H locs cells slots Q (F0 m pc ls st) := by
  unfold xk_br at h
  split at h <;> (try (cases h; done))
  · split at h <;> (try (cases h; done))
    rename_i hlen; subst hlen
    cases h
    obtain ⟨tgt, ht, kt⟩ := kt rfl
    exact lv_goto hx hb hd ht kt
  · rename_i cnd off2
    split at h <;> (try (cases h; done))
    split at h <;> (try (cases h; done))
    rename_i hlen; subst hlen
    rename_i x st2
    cases h
    by_cases hc : xk_cmp cnd x 0 = true
    · obtain ⟨tgt, ht, kt2⟩ := kt hc
      cases cnd <;> simp only [xk_cmp, decide_eq_true_eq] at hc
      · exact lv_if_eq hx hb hd ht (fun _ => kt2) (fun q => absurd hc q)
      · exact lv_if_ne hx hb hd ht (fun _ => kt2) (fun q => absurd q hc)
      · exact lv_if_lt hx hb hd ht (fun _ => kt2) (fun q => absurd hc q)
      · exact lv_if_ge hx hb hd ht (fun _ => kt2) (fun q => absurd hc q)
      · exact lv_if_gt hx hb hd ht (fun _ => kt2) (fun q => absurd hc q)
      · exact lv_if_le hx hb hd ht (fun _ => kt2) (fun q => absurd hc q)
    · have kf := kf (by simpa using hc)
      intro T hT X
      obtain ⟨t, a, b⟩ := kf T hT X
      refine ⟨t, ?_, b⟩
      cases cnd <;> simp only [xk_cmp, decide_eq_true_eq, Classical.not_not] at hc <;>
        (jvm_step X.here [X.here.top, hx, hb, hd, Op.ifCond.holds, hc]
         exact a)
  · rename_i cnd off2
    split at h <;> (try (cases h; done))
    split at h <;> (try (cases h; done))
    rename_i hlen; subst hlen
    rename_i y x st2
    cases h
    by_cases hc : xk_cmp cnd x y = true
    · obtain ⟨tgt, ht, kt2⟩ := kt hc
      cases cnd <;> simp only [xk_cmp, decide_eq_true_eq] at hc
      · exact lv_icmp_eq hx hb hd ht (fun _ => kt2) (fun q => absurd hc q)
      · exact lv_icmp_ne hx hb hd ht (fun _ => kt2) (fun q => absurd q hc)
      · exact lv_icmp_lt hx hb hd ht (fun _ => kt2) (fun q => absurd hc q)
      · exact lv_icmp_ge hx hb hd ht (fun _ => kt2) (fun q => absurd hc q)
      · exact lv_icmp_gt hx hb hd ht (fun _ => kt2) (fun q => absurd hc q)
      · exact lv_icmp_le hx hb hd ht (fun _ => kt2) (fun q => absurd hc q)
    · have kf := kf (by simpa using hc)
      intro T hT X
      obtain ⟨t, a, b⟩ := kf T hT X
      refine ⟨t, ?_, b⟩
      cases cnd <;> simp only [xk_cmp, decide_eq_true_eq, Classical.not_not] at hc <;>
        (jvm_step X.here [X.here.top, hx, hb, hd, Op.if_icmp.holds, hc]
         exact a)
  · split at h <;> (try (cases h; done))
    split at h
    · rename_i hc
      cases h
      obtain ⟨tgt, ht, kt⟩ := kt rfl
      exact lv_tableOut hx hb hd hc ht kt
    · rename_i hc
      obtain ⟨z, h2, h3⟩ := Option.map_eq_some_iff.mp h
      cases h3
      obtain ⟨tgt, ht, kt⟩ := kt rfl
      exact lv_tableIn hx hb hd (fun q => hc (Or.inl q)) (fun q => hc (Or.inr q)) h2 ht kt
  · split at h <;> (try (cases h; done))
    split at h <;> (try (cases h; done))
    rename_i hp
    cases h
    obtain ⟨tgt, ht, kt⟩ := kt rfl
    exact lv_lookup hx hb hd hp rfl ht kt
end XKW
