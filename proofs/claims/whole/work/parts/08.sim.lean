/-! what the abstract machine says of a method is the method's contract -/
def xk_SX (B0 SA VA : Nat) (U : State) : Prop := ∃ adK adV : Nat → Nat, vk_S 1 [109] [xk_tb] adK adV (fun q => B0 ≤ q) U U.heap ∧ (adK 0 = SA ∧ adV 0 = VA) ∧ va_Z "java/lang/String" "COMPACT_STRINGS" "Z" (.int 1) (fun q => B0 ≤ q) U U.heap ∧ va_Zq "jdk/internal/util/Preconditions" "SIOOBE_FORMATTER" "Ljava/util/function/BiFunction;" (fun q => B0 ≤ q) U U.heap
theorem xk_SX.move {B0 SA VA : Nat} {s U : State} (h : xk_SX B0 SA VA s) (hvm : s.vm.Alike U.vm) (hq : ∀ q : Nat, q < B0 → U.heap[q]? = s.heap[q]?) : xk_SX B0 SA VA U := by
  obtain ⟨adK, adV, h1, h2, h3, h4⟩ := h
  have hq2 : ∀ a : Nat, a < s.heap.size → ¬ (fun q => B0 ≤ q) a → U.heap[a]? = s.heap[a]? := fun a _ ha => hq a (Nat.not_le.mp ha)
  exact ⟨adK, adV, (h1.kept hq2).moved hvm, h2, (h3.kept hq2).moved hvm, (h4.kept hq2).moved hvm⟩
def xk_Env (D : va_G) (aC : Nat → ClassId) (B0 SA VA : Nat) (U : State) : Prop :=
  va_K D xk_cl (xk_tys aC) U ∧ (∀ C ∈ ["OnePen$Rule", "OnePen$Desk", "OnePen$Day"], va_AO C U) ∧ vk_R "OnePen$Text" 49 xk_txt SA U ∧ (∀ e ∈ xk_ml, e.2.2.2 = true → ∀ (o : String) (r : xk_MI), xk_RN[e.1 / 1000]? = some o → xk_mt e.2.1 = some r → va_Nw (.methodLinkNest o (e.1 % 1000) r.2.1 "OnePen") U) ∧ xk_SX B0 SA VA U
theorem xk_Env.warm {D : va_G} {aC : Nat → ClassId} {B0 SA VA : Nat} {s U : State} (h : xk_Env D aC B0 SA VA s) (hW : s.WarmedH U.vm) (hq : ∀ q : Nat, q < B0 → U.heap[q]? = s.heap[q]?) : xk_Env D aC B0 SA VA U :=
  ⟨h.1.moved hW.alike, fun C hC => (h.2.1 C hC).moved hW.alike, h.2.2.1.warm hW, fun e he hn o r h1 h2 => (h.2.2.2.1 e he hn o r h1 h2).warmM hW, h.2.2.2.2.move hW.alike hq⟩
theorem xk_Env.call {D : va_G} {aC : Nat → ClassId} {B0 SA VA : Nat} {U : State} (h : xk_Env D aC B0 SA VA U) (g : JFrame) (mk : MethodId) (a : Array Value) : xk_Env D aC B0 SA VA (U.calling g mk a) :=
  ⟨va_K.moved (u := U) (U := U.calling g mk a) (Vm.Alike.refl U.vm) h.1, fun C hC => va_AO.moved (u := U) (U := U.calling g mk a) (Vm.Alike.refl U.vm) (h.2.1 C hC), vk_R.same (u := U) (U := U.calling g mk a) rfl h.2.2.1, fun e he hn o r h1 h2 => va_Nw.same (u := U) (U := U.calling g mk a) rfl rfl (h.2.2.2.1 e he hn o r h1 h2), xk_SX.move (s := U) (U := U.calling g mk a) h.2.2.2.2 (Vm.Alike.refl U.vm) (fun _ _ => rfl)⟩
/-- all that is known of a method, the two of java.lang.String among them -/
def xk_mi (y : Nat) : xk_MI := if y = 900 then (99, xk_nm 900, prog_17_method_54_code, 1, some .int, false, 0) else if y = 901 then (99, xk_nm 901, prog_17_method_56_code, 2, some .char, false, 1) else (xk_mt y).getD (99, ⟨"", "", ""⟩, ⟨#[]⟩, 0, none, false, 0)
def xk_ws (y : Nat) : List Cond := .code (xk_mi y).2.1 (xk_mi y).2.2.1 (xk_mi y).2.2.2.1 (xk_mi y).2.2.2.2.1 :: xk_WA
def xk_rm (d : Nat) (σ σ' : xk_S) : Room := { frames := d, cells := σ'.2.1 - σ.2.1, slots := σ'.2.2.1 - σ.2.2.1, locals := 100 * d }
def xk_Pc (D : va_G) (aC : Nat → ClassId) (B0 SA VA : Nat) (as : List Value) (σ : xk_S) : Array Value → State → Prop := fun v U => v = as.toArray ∧ xk_Env D aC B0 SA VA U ∧ xk_HR D aC B0 σ U.heap
def xk_Qc (D : va_G) (aC : Nat → ClassId) (B0 : Nat) (r : Option Value) (σ' : xk_S) : Array Value → State → Outcome → State → Prop := fun _ st o t => o = .returned r ∧ xk_HR D aC B0 σ' t.heap ∧ ∀ q : Nat, q < B0 → t.heap[q]? = st.heap[q]?
theorem xk_blind {D : va_G} {aC : Nat → ClassId} {B0 SA VA : Nat} {as : List Value} {σ : xk_S} : FrameBlind (xk_Pc D aC B0 SA VA as σ) := fun a U g mk h => ⟨h.1, h.2.1.call g mk a, h.2.2⟩
theorem xk_in_of {w : Cond} {ps : List Nat} {mt : List xk_MI} (h : mt.map (fun e => Cond.code e.2.1 e.2.2.1 e.2.2.2.1 e.2.2.2.2.1) = ps.filterMap (fun i => lw_tbl[i]?)) {e : xk_MI} (he : e ∈ mt) : Cond.code e.2.1 e.2.2.1 e.2.2.2.1 e.2.2.2.2.1 ∈ xk_WA := by
  have h1 : Cond.code e.2.1 e.2.2.1 e.2.2.2.1 e.2.2.2.2.1 ∈ mt.map (fun e => Cond.code e.2.1 e.2.2.1 e.2.2.2.1 e.2.2.2.2.1) := List.mem_map.mpr ⟨e, he, rfl⟩
  rw [h] at h1
  obtain ⟨i, -, hi⟩ := List.mem_filterMap.mp h1
  exact xk_WA_of hi rfl
theorem xk_code_in {e : xk_MI} (he : e ∈ xk_mtL) : Cond.code e.2.1 e.2.2.1 e.2.2.2.1 e.2.2.2.2.1 ∈ xk_WA := by
  unfold xk_mtL at he
  simp only [List.mem_append] at he
  rcases he with (((((((he | he) | he) | he) | he) | he) | he) | he) | he
  · exact xk_in_of (w := .returned) xk_mc0 he
  · exact xk_in_of (w := .returned) xk_mc1 he
  · exact xk_in_of (w := .returned) xk_mc2 he
  · exact xk_in_of (w := .returned) xk_mc3 he
  · exact xk_in_of (w := .returned) xk_mc4 he
  · exact xk_in_of (w := .returned) xk_mc5 he
  · exact xk_in_of (w := .returned) xk_mc6 he
  · exact xk_in_of (w := .returned) xk_mc7 he
  · exact xk_in_of (w := .returned) xk_mc8 he
theorem xk_nat_ok : (xk_nl.all (fun e => match xk_RN[e.1 / 1000]? with
  | some o => decide (lw_tbl[e.2.2]? = some (.methodLink o (e.1 % 1000) (xk_nm (900 + e.2.1)))) && goodWord (.methodLink o (e.1 % 1000) (xk_nm (900 + e.2.1)))
  | _ => false)) = true := by decide +kernel
theorem xk_natw : ∀ z, z = 900 ∨ z = 901 → Cond.instanceMethod (xk_nm z) ∈ xk_WA ∧ Cond.selects "java/lang/String" (xk_nm z) (xk_nm z) ∈ xk_WA ∧ Cond.initialized "java/lang/String" ∈ xk_WA := by
  rintro z (rfl | rfl)
  · exact ⟨xk_memdec _ (by decide +kernel), xk_memdec _ (by decide +kernel), xk_memdec _ (by decide +kernel)⟩
  · exact ⟨xk_memdec _ (by decide +kernel), xk_memdec _ (by decide +kernel), xk_memdec _ (by decide +kernel)⟩
theorem xk_natc : ∀ z, z = 900 ∨ z = 901 → Cond.code (xk_mi z).2.1 (xk_mi z).2.2.1 (xk_mi z).2.2.2.1 (xk_mi z).2.2.2.2.1 ∈ xk_WA := by
  rintro z (rfl | rfl)
  · exact xk_memdec _ (by decide +kernel)
  · exact xk_memdec _ (by decide +kernel)
/-- what the tables say of a method -/
theorem xk_mt_ok {z : Nat} {e : xk_MI} (h : xk_mt z = some e) : ∃ o : String, xk_RN[e.1]? = some o ∧ e.2.1.cls = o ∧ e.2.1.cls ≠ "java/lang/invoke/MethodHandle" ∧ e.2.1.cls ≠ "java/lang/invoke/VarHandle" ∧ (parseMethodDescriptor e.2.1.desc).map (fun d => d.parameters.length) = some e.2.2.2.2.2.2 ∧ plainName e.2.1.cls = true ∧ e.2.2.2.1 ≤ 40 ∧ Cond.initialized o ∈ xk_WA ∧ Cond.code e.2.1 e.2.2.1 e.2.2.2.1 e.2.2.2.2.1 ∈ xk_WA ∧ (e.2.2.2.2.2.1 = true → Cond.static e.2.1 ∈ xk_WA) ∧ (e.2.2.2.2.2.1 = false → Cond.instanceMethod e.2.1 ∈ xk_WA ∧ (e.2.1.name = "<init>" ∨ Cond.selects o e.2.1 e.2.1 ∈ xk_WA)) := by
  have hm : e ∈ xk_mtL := List.mem_of_getElem? h
  have hz : z < xk_mtL.length := (List.getElem?_eq_some_iff.mp h).1
  have hz2 : z < xk_pl.length := by rw [xk_pl_len]; exact hz
  have h1 : (e, xk_pl[z]) ∈ xk_mtL.zip xk_pl := by
    refine List.mem_of_getElem? (i := z) ?_
    rw [List.getElem?_zip_eq_some]
    exact ⟨h, List.getElem?_eq_getElem hz2⟩
  have h2 := List.all_eq_true.mp xk_pl_ok _ h1
  cases ho : xk_RN[e.1]? with
  | none => simp only [ho] at h2; cases h2
  | some o =>
    simp only [ho] at h2
    simp only [Bool.and_eq_true, decide_eq_true_eq] at h2
    obtain ⟨⟨⟨⟨⟨⟨⟨⟨a1, a2⟩, a3⟩, a4⟩, a5⟩, a6⟩, a7⟩, a8⟩, a9⟩ := h2
    refine ⟨o, rfl, a1, a2, a3, a4, a5, a6, xk_WA_of a7 a8, xk_code_in hm, fun hs => ?_, fun hs => ?_⟩
    · rw [if_pos hs] at a9
      simp only [Bool.and_eq_true, decide_eq_true_eq] at a9
      exact xk_WA_of a9.1 a9.2
    · rw [if_neg (by rw [hs]; decide)] at a9
      simp only [Bool.and_eq_true, Bool.or_eq_true, decide_eq_true_eq] at a9
      refine ⟨xk_WA_of a9.1.1 a9.1.2, ?_⟩
      rcases a9.2 with q | q
      · exact Or.inl q
      · exact Or.inr (xk_WA_of q.1 q.2)
theorem xk_mth_ok {o i z : Nat} {nest : Bool} {own : String} (h : xk_mth o i = some (z, nest)) (ho : xk_RN[o]? = some own) : ∃ e : xk_MI, xk_mt z = some e ∧ (nest = false → Cond.methodLink own i e.2.1 ∈ xk_WA) ∧ (nest = true → ∀ (D : va_G) (aC : Nat → ClassId) (B0 SA VA : Nat) (U : State), xk_Env D aC B0 SA VA U → va_Nw (.methodLinkNest own i e.2.1 "OnePen") U) := by
  unfold xk_mth at h
  split at h
  · rename_i hi
    obtain ⟨q, hq, hqe⟩ := Option.map_eq_some_iff.mp h
    cases hqe
    have h1 := List.mem_of_find?_eq_some hq
    have h2 : q.1 = o * 1000 + i := by simpa using List.find?_some hq
    have h3 := List.all_eq_true.mp xk_ml_ok q h1
    rw [show q.1 / 1000 = o by omega, show q.1 % 1000 = i by omega, ho] at h3
    cases hr : xk_mt q.2.1 with
    | none => rw [hr] at h3; cases h3
    | some r =>
      rw [hr] at h3
      refine ⟨r, rfl, fun hn => ?_, fun hn D aC B0 SA VA U hE => ?_⟩
      · simp only [hn] at h3
        rw [if_neg (by decide)] at h3
        simp only [Bool.and_eq_true, decide_eq_true_eq] at h3
        exact xk_WA_of h3.1 h3.2
      · have := hE.2.2.2.1 q h1 hn own r (by rw [show q.1 / 1000 = o by omega]; exact ho) hr
        rw [show q.1 % 1000 = i by omega] at this
        exact this
  · cases h
theorem xk_natl {o i k : Nat} {own : String} (h : xk_nat o i = some k) (ho : xk_RN[o]? = some own) : Cond.methodLink own i (xk_nm (900 + k)) ∈ xk_WA := by
  unfold xk_nat at h
  split at h
  · rename_i hi
    obtain ⟨q, hq, hqe⟩ := Option.map_eq_some_iff.mp h
    cases hqe
    have h1 := List.mem_of_find?_eq_some hq
    have h2 : q.1 = o * 1000 + i := by simpa using List.find?_some hq
    have h3 := List.all_eq_true.mp xk_nat_ok q h1
    rw [show q.1 / 1000 = o by omega, show q.1 % 1000 = i by omega, ho] at h3
    simp only [Bool.and_eq_true, decide_eq_true_eq] at h3
    exact xk_WA_of h3.1 h3.2
  · cases h
theorem xk_good {Ts ws : List Cond} (h : ∀ w ∈ ws, w ∈ xk_WA) (hT : ∀ w ∈ xk_WA, w ∈ Ts) : GoodIn Ts ws := fun w hw => ⟨hT w (h w hw), good_of_word (xk_WA_good (h w hw))⟩
theorem xk_cl_RN : ∀ ci, ci < 13 → (xk_cl[ci]?).map (fun r => r.1) = xk_RN[ci]? := by decide +kernel
theorem xk_lt900 {z : Nat} {e : xk_MI} (h : xk_mt z = some e) : z < 900 := by
  have h1 : z < xk_mtL.length := (List.getElem?_eq_some_iff.mp h).1
  have h2 : xk_mtL.length ≤ 900 := by decide +kernel
  omega
theorem xk_mi_of {z : Nat} {e : xk_MI} (h : xk_mt z = some e) : xk_mi z = e := by
  have := xk_lt900 h
  unfold xk_mi
  rw [if_neg (by omega), if_neg (by omega), h]; rfl
theorem xk_nm_of {z : Nat} {e : xk_MI} (h : xk_mt z = some e) : xk_nm z = e.2.1 := by
  have := xk_lt900 h
  unfold xk_nm
  rw [if_neg (by omega), if_neg (by omega), h]; rfl
/-- the contract of a method, as the abstract machine has it -/
def xk_Met (l : Launch) (D : va_G) (aC : Nat → ClassId) (B0 SA VA d y : Nat) (as : List Value) (σ : xk_S) (r : Option Value) (σ' : xk_S) : Prop :=
  Met l (xk_mi y).2.1 (xk_ws y) (xk_rm d σ σ') (xk_Pc D aC B0 SA VA as σ) (xk_Qc D aC B0 r σ') (σ'.2.1 - σ.2.1) (σ'.2.2.1 - σ.2.2.1) (fun q => B0 ≤ q)
theorem xk_Met.as {l : Launch} {D : va_G} {aC : Nat → ClassId} {B0 SA VA d y : Nat} {as : List Value} {σ σ' : xk_S} {r : Option Value} {x : MethodName} (h : xk_Met l D aC B0 SA VA d y as σ r σ') (e : (xk_mi y).2.1 = x) : Met l x (xk_ws y) (xk_rm d σ σ') (xk_Pc D aC B0 SA VA as σ) (xk_Qc D aC B0 r σ') (σ'.2.1 - σ.2.1) (σ'.2.2.1 - σ.2.2.1) (fun q => B0 ≤ q) := by
  subst e; exact h
section XKC
variable {p : Program} {l : Launch} {e : Env} {R : Room} {s : State} {m : MethodId} {args : Array Value} {below : List Frame} {meth : Method} {c : Code} {H : Heap} {locs : List Loc} {cells slots : Nat} {Q : State → Prop}
variable {cc : ByteArray} {pc : Nat} {ls : Array Slot} {D : va_G} {aC : Nat → ClassId} {B0 SA VA : Nat}
theorem xk_call_go {a : Array Value} {r : Option Value} {σ' : xk_S} {mc ms : Nat} {st0 rest : List Value} (hr : CallRun p l e R s m args below meth c H locs cells slots mc ms (F0 m pc ls st0) rest (xk_Qc D aC B0 r σ' a) (fun q => B0 ≤ q)) (hF : xk_Fr B0 s.heap H locs)
    (kk : ∀ (H1 : Heap) (locs1 : List Loc), xk_HR D aC B0 σ' H1 → xk_Fr B0 s.heap H1 locs1 → W p l e R s m args below meth c H1 locs1 (cells + mc) (slots + ms) Q (F0 m (pc + 3) ls (r.toList ++ rest))) : W p l e R s m args below meth c H locs cells slots Q (F0 m pc ls st0) := by
  intro T hT X
  obtain ⟨v, st₀, t, T', L, h0, X', hL, e1, ⟨hv, hh, hq⟩, st⟩ := hr T hT X
  cases hv
  rw [h0] at hq
  obtain ⟨t2, a1, b1⟩ := kk T'.heap (locs ++ L) (by rw [e1]; exact hh) ⟨fun q hq2 => by rw [e1, hq q hq2]; exact hF.1 q hq2, fun q hq2 => by
    rcases List.mem_append.mp hq2 with h | h
    · exact hF.2 q h
    · exact hL q h⟩ T' rfl X'
  exact ⟨t2, st t2 a1, b1⟩
theorem xk_pc_of {as : List Value} {σ : xk_S} (hE : xk_Env D aC B0 SA VA s) (hH : xk_HR D aC B0 σ H) (hF : xk_Fr B0 s.heap H locs) : ∀ U : State, U.heap = H → s.WarmedH U.vm → xk_Pc D aC B0 SA VA as σ as.toArray U := fun U hU hW => ⟨rfl, hE.warm hW (fun q hq => by rw [hU]; exact hF.1 q hq), by rw [hU]; exact hH⟩
set_option maxHeartbeats 4000000 in
/-- a call: by the callee's contract -/
theorem xk_w_call (hx : p.tables.exec = Jvm.exec) (hb : c.code = cc) (hml : ls.size = c.maxLocals) {o : Nat} {own : String} (ho : xk_RN[o]? = some own) (hown : s.vm.findClass own = some m.cls) {Ts : List Cond} (hTs : ∀ w ∈ xk_WA, w ∈ Ts) (hts : ∀ w ∈ Ts, w.before args s = true) (hE : xk_Env D aC B0 SA VA s)
    {σ σ' : xk_S} (hSA : σ.2.2.2 = SA) (hH : xk_HR D aC B0 σ H) (hF : xk_Fr B0 s.heap H locs) {i : Instr} {len z d : Nat} {st as rest : List Value} (h : xk_call o i len st σ = some (z, as, rest)) (hd : decode cc pc = .ok (i, len)) {r : Option Value} (hM : xk_Met l D aC B0 SA VA d z as σ r σ') (hN : xk_le σ σ')
    (hfr : d + 1 ≤ R.frames) (hlo : 100 * d + 70 ≤ R.locals) (hc : cells + (σ'.2.1 - σ.2.1) ≤ R.cells) (hs : slots + (σ'.2.2.1 - σ.2.2.1) ≤ R.slots)
    (kk : ∀ (H1 : Heap) (locs1 : List Loc), xk_HR D aC B0 σ' H1 → xk_Fr B0 s.heap H1 locs1 → W p l e R s m args below meth c H1 locs1 (cells + (σ'.2.1 - σ.2.1)) (slots + (σ'.2.2.1 - σ.2.2.1)) Q (F0 m (pc + 3) ls (r.toList ++ rest))) : W p l e R s m args below meth c H locs cells slots Q (F0 m pc ls st) := by
  have S : CallFix p m c cc c.maxLocals s args Ts own := ⟨hx, hb, rfl, hown, hts⟩
  have htW : ∀ w ∈ xk_WA, w.before args s = true := fun w hw => hts w (hTs w hw)
  unfold xk_call at h
  split at h <;> (try (cases h; done))
  · -- invokevirtual
    rename_i idx
    have nat : ∀ k : Nat, (900 + k = 900 ∨ 900 + k = 901) → xk_nat o idx = some k → ∀ (b : Nat) (As rest' : List Value), as = .ref b :: As → b = σ.2.2.2 → z = 900 + k → len = 3 → rest = rest' → xk_sum rest' ≤ 8 → st = As.reverse ++ .ref b :: rest' → As.length = k → W p l e R s m args below meth c H locs cells slots Q (F0 m pc ls st) := by
      intro k hk hnk b As rest' e1 e2 e3 e4 e5 e6 e7 e8
      subst e1; subst e3; subst e4; subst e5
      obtain ⟨w1, w2, w3⟩ := xk_natw _ hk
      have w4 := xk_natc _ hk
      have w5 := xk_natl hnk ho
      have hnm : (xk_mi (900 + k)).2.1 = xk_nm (900 + k) := by rcases hk with q | q <;> (rw [q]; rfl)
      have hmx : (xk_mi (900 + k)).2.2.2.1 ≤ 40 := by rcases hk with q | q <;> (rw [q]; decide)
      obtain ⟨adK, adV, g1, g2, g3, g4⟩ := hE.2.2.2.2
      have hrecv : ∃ cell : Cell, H[b]? = some cell ∧ cell.vm.isStatics = false ∧ s.vm.findClass "java/lang/String" = some cell.cls := by
        have hsz := hH.1
        obtain ⟨cell, q1, q2, q3, -⟩ := (g1.1 0 (by omega)).1.kept (H1 := H) (fun a _ ha => hF.1 a (Nat.not_le.mp ha))
        rw [g2.1] at q1
        exact ⟨cell, by rw [e2, hSA]; exact q1, q2, q3⟩
      have hM' := hM.as hnm
      have hcw : CallW R s args own "java/lang/String" idx (xk_nm (900 + k)) (xk_mi (900 + k)).2.2.1 (xk_mi (900 + k)).2.2.2.1 (xk_mi (900 + k)).2.2.2.2.1 (xk_ws (900 + k)) (xk_rm d σ σ') (σ'.2.1 - σ.2.1) (σ'.2.2.1 - σ.2.2.1) k := by
        refine cwV (Ts := Ts) (ws' := xk_WA) k hts (xk_good (fun w hw => ?_) hTs) (by rw [← hnm]; rfl) rfl rfl ?_ ⟨hfr, ?_⟩
        · unfold wsV at hw
          simp only [List.mem_append, List.mem_cons, List.not_mem_nil, or_false] at hw
          rcases hw with (rfl | rfl | rfl | rfl) | hw
          · exact w5
          · exact w1
          · exact w2
          · exact w3
          · unfold xk_ws at hw
            rcases List.mem_cons.mp hw with rfl | hw
            · exact w4
            · exact hw
        · rcases hk with q | q
          · have : k = 0 := by omega
            subst this; decide +kernel
          · have : k = 1 := by omega
            subst this; decide +kernel
        · show 8 + (_ + 11) + 100 * d ≤ R.locals
          omega
      refine xk_call_go (va_Run.run (va_runV (As := As) S hM' hcw ⟨xk_blind, hrecv, xk_pc_of (as := .ref b :: As) hE hH hF⟩ rfl e8 (by exact hml) (by exact e7) (lv_room e6) hd ⟨hc, hs⟩)) hF kk
    split at h
    · rename_i hq
      split at h <;> (try (cases h; done))
      split at h <;> (try (cases h; done))
      rename_i hcnd
      obtain ⟨h1, h2, h3⟩ := hcnd
      cases h
      exact nat 0 (by omega) hq _ [] _ rfl h2 rfl h1 rfl h3 rfl rfl
    · rename_i hq
      split at h <;> (try (cases h; done))
      split at h <;> (try (cases h; done))
      rename_i hcnd
      obtain ⟨h1, h2, h3⟩ := hcnd
      cases h
      exact nat 1 (by omega) hq _ [_] _ rfl h2 rfl h1 rfl h3 rfl rfl
    · cases h
    · split at h <;> (try (cases h; done))
      rename_i z' nest hq
      split at h <;> (try (cases h; done))
      rename_i ci mn by' mx rt stat np hz
      split at h <;> (try (cases h; done))
      rename_i b rest' hdr
      split at h <;> (try (cases h; done))
      rename_i c' fs hcell
      split at h <;> (try (cases h; done))
      rename_i hcnd
      obtain ⟨h1, h2, h3, h4, h5, h6, h7, h8⟩ := hcnd
      subst h1; subst h2; subst h3; subst h5
      cases h
      obtain ⟨e', hz', hl1, -⟩ := xk_mth_ok hq ho
      cases hz.symm.trans hz'
      obtain ⟨oz, b1, b2, b3, b4, b5, b6, b7, b8, b9, -, b10⟩ := xk_mt_ok hz
      obtain ⟨b11, b12⟩ := b10 rfl
      have b12 := b12.resolve_left h7
      have hmi := xk_mi_of hz
      have hM' := hM.as (show (xk_mi z).2.1 = mn by rw [hmi])
      have hlen : ((st.take np).reverse).length = np := by simp; omega
      obtain ⟨rc, hrc⟩ : ∃ rc, xk_cl[c']? = some rc := ⟨_, List.getElem?_eq_getElem (by simpa [xk_cl] using h6)⟩
      have hrcn : rc.1 = oz := by
        have := xk_cl_RN c' h6
        rw [hrc, b1] at this
        exact Option.some.inj this
      have hcw : CallW R s args own oz idx mn by' mx rt (xk_ws z) (xk_rm d σ σ') (σ'.2.1 - σ.2.1) (σ'.2.2.1 - σ.2.2.1) np := by
        refine cwV (Ts := Ts) (bytes := by') (maxL := mx) (ret := rt) (ws' := xk_WA) np hts (xk_good (fun w hw => ?_) hTs) (by unfold xk_ws; rw [hmi]) rfl rfl ⟨b2, b3, b4, b5⟩ ⟨hfr, ?_⟩
        · unfold wsV at hw
          simp only [List.mem_append, List.mem_cons, List.not_mem_nil, or_false] at hw
          rcases hw with (rfl | rfl | rfl | rfl) | hw
          · exact hl1 rfl
          · exact b11
          · exact b12
          · exact b8
          · unfold xk_ws at hw
            rw [hmi] at hw
            rcases List.mem_cons.mp hw with rfl | hw
            · exact b9
            · exact hw
        · have b7 : mx ≤ 40 := b7
          show 8 + (mx + 11) + 100 * d ≤ R.locals
          omega
      refine xk_call_go (va_Run.run (va_runV (As := (st.take np).reverse) S hM' hcw ⟨xk_blind, ?_, xk_pc_of (as := .ref b :: (st.take np).reverse) hE hH hF⟩ rfl hlen (by exact hml) ?_ (lv_room h8) hd ⟨hc, hs⟩)) hF kk
      · have := va_recv hE.1 (xk_oneO hH hcell h6) (q0 := 0) hrc rfl
        rw [hrcn] at this
        exact this
      · show st = _
        rw [List.reverse_reverse, ← hdr, List.take_append_drop]
  · -- invokespecial
    rename_i idx
    split at h <;> (try (cases h; done))
    rename_i z' nest hq
    split at h <;> (try (cases h; done))
    rename_i ci mn by' mx rt stat np hz
    split at h <;> (try (cases h; done))
    rename_i b rest' hdr
    split at h <;> (try (cases h; done))
    rename_i hcnd
    obtain ⟨h1, h2, h3, h4, h5, h6⟩ := hcnd
    subst h1; subst h2; subst h3
    cases h
    obtain ⟨e', hz', hl1, hl2⟩ := xk_mth_ok hq ho
    cases hz.symm.trans hz'
    obtain ⟨oz, b1, b2, b3, b4, b5, b6, b7, b8, b9, -, b10⟩ := xk_mt_ok hz
    obtain ⟨b11, -⟩ := b10 rfl
    have hmi := xk_mi_of hz
    have hM' := hM.as (show (xk_mi z).2.1 = mn by rw [hmi])
    have hlen : ((st.take np).reverse).length = np := by simp; omega
    have hst : st = ((st.take np).reverse).reverse ++ .ref b :: rest := by rw [List.reverse_reverse, ← hdr, List.take_append_drop]
    have hG : GoodIn Ts (xk_ws z) := xk_good (fun w hw => by
      unfold xk_ws at hw
      rw [hmi] at hw
      rcases List.mem_cons.mp hw with rfl | hw
      · exact b9
      · exact hw) hTs
    have hRm : (xk_rm d σ σ').frames + 1 ≤ R.frames ∧ 8 + (mx + 11) + (xk_rm d σ σ').locals ≤ R.locals := by
      have b7 : mx ≤ 40 := b7
      refine ⟨hfr, ?_⟩
      show 8 + (mx + 11) + 100 * d ≤ R.locals
      omega
    have b2' : mn.cls = oz := b2
    cases nest
    · have hcw := cwI (Ts := Ts) (rm := xk_rm d σ σ') (R := R) (own := own) (index := idx) (bytes := by') (maxL := mx) (y := mn) (ws := xk_ws z) (ws' := xk_WA) (mc := σ'.2.1 - σ.2.1) (ms := σ'.2.2.1 - σ.2.2.1) np hts hG (by unfold xk_ws; rw [hmi]) rfl rfl (htW _ (by rw [b2']; exact b8)) (htW _ (hl1 rfl)) (htW _ b11) h5 ⟨b3, b4, b5⟩ hRm
      exact xk_call_go (va_Run.run (va_runI (As := (st.take np).reverse) S hM' hcw ⟨xk_blind, xk_pc_of (as := .ref b :: (st.take np).reverse) hE hH hF⟩ rfl hlen hml hst (lv_room h6) hd ⟨hc, hs⟩)) hF kk
    · have hcw := va_cnB (Ts := Ts) (rm := xk_rm d σ σ') (R := R) (own := own) (index := idx) (host := "OnePen") (bytes := by') (maxL := mx) (ret := none) (y := mn) (ws := xk_ws z) (ws' := xk_WA) (mc := σ'.2.1 - σ.2.1) (ms := σ'.2.2.1 - σ.2.2.1) np hts hG (by unfold xk_ws; rw [hmi]) rfl rfl (hl2 rfl D aC B0 SA VA s hE) (htW _ (by rw [b2']; exact b8)) ⟨b3, b4, b5⟩ hRm
      exact xk_call_go (va_Run.run (va_runIN (As := (st.take np).reverse) S hM' ⟨hcw, h5, htW _ b11⟩ ⟨xk_blind, xk_pc_of (as := .ref b :: (st.take np).reverse) hE hH hF⟩ rfl hlen hml hst (lv_room h6) hd ⟨hc, hs⟩)) hF kk
  · -- invokestatic
    rename_i idx
    split at h <;> (try (cases h; done))
    rename_i z' nest hq
    split at h <;> (try (cases h; done))
    rename_i ci mn by' mx rt stat np hz
    split at h <;> (try (cases h; done))
    rename_i hcnd
    obtain ⟨h1, h2, h3, h4⟩ := hcnd
    subst h1; subst h2
    cases h
    obtain ⟨e', hz', hl1, hl2⟩ := xk_mth_ok hq ho
    cases hz.symm.trans hz'
    obtain ⟨oz, b1, b2, b3, b4, b5, b6, b7, b8, b9, b10, -⟩ := xk_mt_ok hz
    have b10 := b10 rfl
    have hmi := xk_mi_of hz
    have hM' := hM.as (show (xk_mi z).2.1 = mn by rw [hmi])
    have hlen : ((st.take np).reverse).length = np := by simp; omega
    have hst : st = ((st.take np).reverse).reverse ++ st.drop np := by rw [List.reverse_reverse, List.take_append_drop]
    have b2' : mn.cls = oz := b2
    have hG : GoodIn Ts (xk_ws z) := xk_good (fun w hw => by
      unfold xk_ws at hw
      rw [hmi] at hw
      rcases List.mem_cons.mp hw with rfl | hw
      · exact b9
      · exact hw) hTs
    have hRm : (xk_rm d σ σ').frames + 1 ≤ R.frames ∧ 8 + (mx + 11) + (xk_rm d σ σ').locals ≤ R.locals := by
      have b7 : mx ≤ 40 := b7
      refine ⟨hfr, ?_⟩
      show 8 + (mx + 11) + 100 * d ≤ R.locals
      omega
    cases nest
    · have hcw := va_cwS (Ts := Ts) (s := s) (args := args) (rm := xk_rm d σ σ') (R := R) (own := own) (index := idx) (bytes := by') (maxL := mx) (ret := rt) (y := mn) (ws := xk_ws z) (ws' := xk_WA) (mc := σ'.2.1 - σ.2.1) (ms := σ'.2.2.1 - σ.2.2.1) np hts (fun w hw => by
        unfold va_wsS at hw
        rcases List.mem_append.mp hw with hw | hw
        · simp only [List.mem_cons, List.not_mem_nil, or_false] at hw
          have : w ∈ xk_WA := by
            rcases hw with rfl | rfl | rfl
            · exact hl1 rfl
            · exact b10
            · rw [b2']; exact b8
          exact ⟨hTs w this, good_of_word (xk_WA_good this)⟩
        · exact hG w hw) (by unfold xk_ws; rw [hmi]) rfl rfl ⟨b3, b4, b5⟩ hRm
      exact xk_call_go (va_Run.run (va_runS (As := (st.take np).reverse) S hM' hcw ⟨xk_blind, xk_pc_of (as := (st.take np).reverse) hE hH hF⟩ rfl hlen hml hst (lv_room h4) hd ⟨hc, hs⟩)) hF kk
    · have hcw := va_cnB (Ts := Ts) (rm := xk_rm d σ σ') (R := R) (own := own) (index := idx) (host := "OnePen") (bytes := by') (maxL := mx) (ret := rt) (y := mn) (ws := xk_ws z) (ws' := xk_WA) (mc := σ'.2.1 - σ.2.1) (ms := σ'.2.2.1 - σ.2.2.1) np hts hG (by unfold xk_ws; rw [hmi]) rfl rfl (hl2 rfl D aC B0 SA VA s hE) (htW _ (by rw [b2']; exact b8)) ⟨b3, b4, b5⟩ hRm
      exact xk_call_go (va_Run.run (va_runSN (As := (st.take np).reverse) S hM' ⟨hcw, htW _ b10, trivial⟩ ⟨xk_blind, xk_pc_of (as := (st.take np).reverse) hE hH hF⟩ rfl hlen hml hst (lv_room h4) hd ⟨hc, hs⟩)) hF kk
end XKC
