/-! String.length() and String.charAt(int) of the one constant: the JDK's own code -/
def xk_Nt (l : Launch) (D : va_G) (aC : Nat → ClassId) (B0 SA VA : Nat) (x : MethodName) (cc : ByteArray) (maxL : Nat) (ret : Option FieldType) (k : Nat) (as : List Value) (σ : xk_S) (r : Option Value) : Prop :=
  Met l x (.code x cc maxL ret :: xk_WA) { frames := k, cells := 0, slots := 0, locals := 100 * k } (xk_Pc D aC B0 SA VA as σ) (xk_Qc D aC B0 r σ) 0 0 (fun q => B0 ≤ q)
section XKN
variable {p : Program} {l : Launch} {e : Env} {R : Room} {s : State} {m : MethodId} {args : Array Value} {below : List Frame} {meth : Method} {c : Code} {H : Heap} {locs : List Loc} {cells slots : Nat} {Q : State → Prop}
variable {cc : ByteArray} {pc : Nat} {ls : Array Slot} {D : va_G} {aC : Nat → ClassId} {B0 SA VA : Nat}
theorem xk_Nt_of {x : MethodName} {maxL k : Nat} {ret : Option FieldType} {as : List Value} {σ : xk_S} {r : Option Value} (hp : plainName x.cls = true) (hl : (lg_sl as).length ≤ maxL)
    (body : ∀ (p : Program) (e : Env) (s : State) (m : MethodId) (below : List Frame) (meth : Method) (c : Code) (ls : Array Slot), p.tables.exec = Jvm.exec → c.code = cc → c.maxLocals = maxL → s.vm.findClass x.cls = some m.cls → (∀ w ∈ (Cond.code x cc maxL ret :: xk_WA), w.before as.toArray s = true) → xk_Env D aC B0 SA VA s → xk_HR D aC B0 σ s.heap → meth.sig.returnType = ret → meth.locks = false → lv_has ls maxL (lv_args 0 as) →
      W p l e { frames := k, cells := 0, slots := 0, locals := 100 * k } s m as.toArray below meth c s.heap [] 0 0 (MQ below (xk_Qc D aC B0 r σ) as.toArray s 0 0 (fun q => B0 ≤ q)) (F0 m 0 ls [])) : xk_Nt l D aC B0 SA VA x cc maxL ret k as σ r := by
  refine Met.ofW (cc := cc) (maxL := maxL) (ret := ret) hp rfl ?_
  intro p e s m args below meth c s₁ B hml hv
  obtain ⟨rfl, hE, hH⟩ := hv
  have hts := atoms_spec (ws := Cond.code x cc maxL ret :: xk_WA) B.pre
  rw [lg_entry_eq]
  exact body p e s m below meth c _ B.exec B.bytes hml (findClass_of_methodNamed B.named) hts hE hH B.returns B.notSynchronized (lv_entry as hl)
theorem xk_n_callS (hx : p.tables.exec = Jvm.exec) (hb : c.code = cc) (hml : ls.size = c.maxLocals) {own : String} (hown : s.vm.findClass own = some m.cls) {Ts : List Cond} (hTs : ∀ w ∈ xk_WA, w ∈ Ts) (hts : ∀ w ∈ Ts, w.before args s = true) (hE : xk_Env D aC B0 SA VA s) {σ : xk_S} (hH : xk_HR D aC B0 σ H) (hF : xk_Fr B0 s.heap H locs)
    {idx np mx k : Nat} {x : MethodName} {bytes : ByteArray} {rt : Option FieldType} {as rest st : List Value} {r : Option Value} (w1 : Cond.methodLink own idx x ∈ xk_WA) (w2 : Cond.static x ∈ xk_WA) (w3 : Cond.initialized x.cls ∈ xk_WA) (w4 : Cond.code x bytes mx rt ∈ xk_WA) (hd0 : x.cls ≠ "java/lang/invoke/MethodHandle" ∧ x.cls ≠ "java/lang/invoke/VarHandle" ∧ (parseMethodDescriptor x.desc).map (fun d => d.parameters.length) = some np) (hmx : mx ≤ 40)
    (hM : xk_Nt l D aC B0 SA VA x bytes mx rt k as σ r) (hfr : k + 1 ≤ R.frames) (hlo : 100 * k + 70 ≤ R.locals) (hc : cells ≤ R.cells) (hs : slots ≤ R.slots) (hd : decode cc pc = .ok (.invokestatic idx, 3)) (hst : st = as.reverse ++ rest) (hlen : as.length = np) (hsum : (rest.map fun v => v.category).sum ≤ 8)
    (kk : ∀ (H1 : Heap) (locs1 : List Loc), xk_HR D aC B0 σ H1 → xk_Fr B0 s.heap H1 locs1 → W p l e R s m args below meth c H1 locs1 cells slots Q (F0 m (pc + 3) ls (r.toList ++ rest))) : W p l e R s m args below meth c H locs cells slots Q (F0 m pc ls st) := by
  have S : CallFix p m c cc c.maxLocals s args Ts own := ⟨hx, hb, rfl, hown, hts⟩
  have hcw := va_cwS (Ts := Ts) (s := s) (args := args) (rm := { frames := k, cells := 0, slots := 0, locals := 100 * k }) (R := R) (own := own) (index := idx) (bytes := bytes) (maxL := mx) (ret := rt) (y := x) (ws := Cond.code x bytes mx rt :: xk_WA) (ws' := xk_WA) (mc := 0) (ms := 0) np hts (fun w hw => by
      unfold va_wsS at hw
      have : w ∈ xk_WA := by
        rcases List.mem_append.mp hw with hw | hw
        · simp only [List.mem_cons, List.not_mem_nil, or_false] at hw
          rcases hw with rfl | rfl | rfl
          · exact w1
          · exact w2
          · exact w3
        · rcases List.mem_cons.mp hw with rfl | hw
          · exact w4
          · exact hw
      exact ⟨hTs w this, good_of_word (xk_WA_good this)⟩) rfl rfl rfl hd0 ⟨hfr, by show 8 + (mx + 11) + 100 * k ≤ R.locals; omega⟩
  exact xk_call_go (va_Run.run (va_runS (As := as) S hM hcw ⟨xk_blind, xk_pc_of (as := as) hE hH hF⟩ rfl hlen hml hst (lv_room hsum) hd ⟨by omega, by omega⟩)) hF kk
theorem xk_n_callV (hx : p.tables.exec = Jvm.exec) (hb : c.code = cc) (hml : ls.size = c.maxLocals) {own : String} (hown : s.vm.findClass own = some m.cls) {Ts : List Cond} (hTs : ∀ w ∈ xk_WA, w ∈ Ts) (hts : ∀ w ∈ Ts, w.before args s = true) (hE : xk_Env D aC B0 SA VA s) {σ : xk_S} (hH : xk_HR D aC B0 σ H) (hF : xk_Fr B0 s.heap H locs)
    {idx np mx k : Nat} {x : MethodName} {bytes : ByteArray} {rt : Option FieldType} {as rest st : List Value} {r : Option Value} (w1 : Cond.methodLink own idx x ∈ xk_WA) (w2 : Cond.instanceMethod x ∈ xk_WA) (w3 : Cond.initialized "java/lang/String" ∈ xk_WA) (w5 : Cond.selects "java/lang/String" x x ∈ xk_WA) (w4 : Cond.code x bytes mx rt ∈ xk_WA) (hd0 : x.cls = "java/lang/String" ∧ x.cls ≠ "java/lang/invoke/MethodHandle" ∧ x.cls ≠ "java/lang/invoke/VarHandle" ∧ (parseMethodDescriptor x.desc).map (fun d => d.parameters.length) = some np) (hmx : mx ≤ 40)
    (hM : xk_Nt l D aC B0 SA VA x bytes mx rt k (.ref SA :: as) σ r) (hfr : k + 1 ≤ R.frames) (hlo : 100 * k + 70 ≤ R.locals) (hc : cells ≤ R.cells) (hs : slots ≤ R.slots) (hd : decode cc pc = .ok (.invokevirtual idx, 3)) (hst : st = as.reverse ++ .ref SA :: rest) (hlen : as.length = np) (hsum : (rest.map fun v => v.category).sum ≤ 8)
    (kk : ∀ (H1 : Heap) (locs1 : List Loc), xk_HR D aC B0 σ H1 → xk_Fr B0 s.heap H1 locs1 → W p l e R s m args below meth c H1 locs1 cells slots Q (F0 m (pc + 3) ls (r.toList ++ rest))) : W p l e R s m args below meth c H locs cells slots Q (F0 m pc ls st) := by
  have S : CallFix p m c cc c.maxLocals s args Ts own := ⟨hx, hb, rfl, hown, hts⟩
  obtain ⟨adK, adV, g1, g2, g3, g4⟩ := hE.2.2.2.2
  have hrecv : ∃ cell : Cell, H[SA]? = some cell ∧ cell.vm.isStatics = false ∧ s.vm.findClass "java/lang/String" = some cell.cls := by
    obtain ⟨cell, q1, q2, q3, -⟩ := (g1.1 0 (by omega)).1.kept (H1 := H) (fun a _ ha => hF.1 a (Nat.not_le.mp ha))
    rw [g2.1] at q1
    exact ⟨cell, q1, q2, q3⟩
  have hcw : CallW R s args own "java/lang/String" idx x bytes mx rt (Cond.code x bytes mx rt :: xk_WA) { frames := k, cells := 0, slots := 0, locals := 100 * k } 0 0 np := by
    refine cwV (Ts := Ts) (ws' := xk_WA) np hts (xk_good (fun w hw => ?_) hTs) rfl rfl rfl hd0 ⟨hfr, by show 8 + (mx + 11) + 100 * k ≤ R.locals; omega⟩
    unfold wsV at hw
    simp only [List.mem_append, List.mem_cons, List.not_mem_nil, or_false] at hw
    rcases hw with (rfl | rfl | rfl | rfl) | rfl | hw
    · exact w1
    · exact w2
    · exact w5
    · exact w3
    · exact w4
    · exact hw
  exact xk_call_go (va_Run.run (va_runV (As := as) S hM hcw ⟨xk_blind, hrecv, xk_pc_of (as := .ref SA :: as) hE hH hF⟩ rfl hlen hml hst (lv_room hsum) hd ⟨by omega, by omega⟩)) hF kk
theorem xk_vaS {σ : xk_S} (h0 : xk_HR D aC B0 σ s.heap) (hH : xk_HR D aC B0 σ H) (hF : xk_Fr B0 s.heap H locs) : va_S (fun q => B0 ≤ q) s.heap H locs := ⟨by rw [h0.1, hH.1]; exact Nat.le_refl _, fun q _ hq => hF.1 q (Nat.not_le.mp hq), hF.2⟩
theorem xk_Fr.rf {H0 : Heap} : xk_Fr B0 H0 H0 [] := ⟨fun _ _ => rfl, fun _ h => by cases h⟩
theorem xk_qc {σ : xk_S} {r : Option Value} (hH : xk_HR D aC B0 σ H) (hF : xk_Fr B0 s.heap H locs) (t : State) (ht : t.heap = H) : xk_Qc D aC B0 r σ args s (.returned r) t := ⟨rfl, by rw [ht]; exact hH, fun q hq => by rw [ht]; exact hF.1 q hq⟩
end XKN
/-- Preconditions.checkIndex -/
theorem xk_n_chk {l : Launch} {D : va_G} {aC : Nat → ClassId} {B0 SA VA k : Nat} {σ : xk_S} {i n : Int32} {f : Value} (hf : f.category = 1) (h0 : ¬ i < 0) (h1 : i < n) : xk_Nt l D aC B0 SA VA ⟨"jdk/internal/util/Preconditions", "checkIndex", "(IILjava/util/function/BiFunction;)I"⟩ prog_20_method_11_code 3 (some .int) k [.int i, .int n, f] σ (some (.int i)) := by
  refine xk_Nt_of (by decide) (by have h2 : ¬ f.category = 2 := by omega
                                  simp [lg_sl, h2, show ∀ z, (Value.int z).category = 1 from fun _ => rfl]) ?_
  intro p e s m below meth c ls hx hb hml hown hts hE hH hr hlocks hl
  have hl : lv_has ls 3 (lv_args 0 [.int i, .int n, f]) := hl
  refine lv_iload_n (i := 0) (x := i) hx hb (show decode prog_20_method_11_code 0 = .ok (.iload_n 0, 1) by decide +kernel) rfl (lv_at hl 0 rfl) ?_
  refine lv_if_lt (tgt := 9) hx hb (show decode prog_20_method_11_code 1 = .ok (.ifCond .lt 8, 3) by decide +kernel) (by decide) (fun q => absurd q h0) (fun _ => ?_)
  refine lv_iload_n (i := 0) (x := i) hx hb (show decode prog_20_method_11_code 4 = .ok (.iload_n 0, 1) by decide +kernel) rfl (lv_at hl 0 rfl) ?_
  refine lv_iload_n (i := 1) (x := n) hx hb (show decode prog_20_method_11_code 5 = .ok (.iload_n 1, 1) by decide +kernel) rfl (lv_at hl 1 rfl) ?_
  refine lv_icmp_lt (tgt := 16) hx hb (show decode prog_20_method_11_code 6 = .ok (.if_icmp .lt 10, 3) by decide +kernel) (by decide) (fun _ => ?_) (fun q => absurd h1 q)
  refine lv_iload_n (i := 0) (x := i) hx hb (show decode prog_20_method_11_code 16 = .ok (.iload_n 0, 1) by decide +kernel) rfl (lv_at hl 0 rfl) ?_
  exact W.iret hx hb hr (fun t ht _ => xk_qc hH xk_Fr.rf t ht) (fun _ h => by cases h) (show decode prog_20_method_11_code 17 = .ok (.ireturn, 1) by decide +kernel)
/-- String.checkIndex -/
theorem xk_n_chk2 {l : Launch} {D : va_G} {aC : Nat → ClassId} {B0 SA VA k : Nat} {σ : xk_S} {i n : Int32} (h0 : ¬ i < 0) (h1 : i < n) : xk_Nt l D aC B0 SA VA ⟨"java/lang/String", "checkIndex", "(II)V"⟩ prog_17_method_155_code 2 none (k + 1) [.int i, .int n] σ none := by
  refine xk_Nt_of (by decide) (by simp [lg_sl, Value.category]) ?_
  intro p e s m below meth c ls hx hb hml hown hts hE hH hr hlocks hl
  have hl : lv_has ls 2 (lv_args 0 [.int i, .int n]) := hl
  have htW : ∀ w ∈ xk_WA, w.before _ s = true := fun w hw => hts w (List.mem_cons_of_mem _ hw)
  obtain ⟨adK, adV, g1, g2, g3, g4⟩ := hE.2.2.2.2
  refine lv_iload_n (i := 0) (x := i) hx hb (show decode prog_17_method_155_code 0 = .ok (.iload_n 0, 1) by decide +kernel) rfl (lv_at hl 0 rfl) ?_
  refine lv_iload_n (i := 1) (x := n) hx hb (show decode prog_17_method_155_code 1 = .ok (.iload_n 1, 1) by decide +kernel) rfl (lv_at hl 1 rfl) ?_
  have hlink : (Cond.fieldLink "java/lang/String" 1053 "jdk/internal/util/Preconditions" "SIOOBE_FORMATTER" "Ljava/util/function/BiFunction;").before ([.int i, .int n] : List Value).toArray s = true := htW _ (xk_memdec _ (by decide +kernel))
  have go : ∀ f : Value, f.category = 1 → W p l e { frames := k + 1, cells := 0, slots := 0, locals := 100 * (k + 1) } s m ([.int i, .int n] : List Value).toArray below meth c s.heap [] 0 0 (MQ below (xk_Qc D aC B0 none σ) ([.int i, .int n] : List Value).toArray s 0 0 (fun q => B0 ≤ q)) (F0 m 5 ls [f, .int n, .int i]) := by
    intro f hf
    refine xk_n_callS (R := { frames := k + 1, cells := 0, slots := 0, locals := 100 * (k + 1) }) hx hb (hl.1.trans hml.symm) hown (fun w hw => List.mem_cons_of_mem _ hw) hts hE hH xk_Fr.rf (x := ⟨"jdk/internal/util/Preconditions", "checkIndex", "(IILjava/util/function/BiFunction;)I"⟩) (bytes := prog_20_method_11_code) (mx := 3) (rt := some .int) (as := [.int i, .int n, f]) (rest := []) (np := 3) (k := k) (xk_memdec _ (by decide +kernel)) (xk_memdec _ (by decide +kernel)) (xk_memdec _ (by decide +kernel)) (xk_memdec _ (by decide +kernel)) (by decide +kernel) (by decide) (xk_n_chk hf h0 h1) (Nat.le_refl _) (by show 100 * k + 70 ≤ 100 * (k + 1); omega) (Nat.le_refl _) (Nat.le_refl _) (show decode prog_17_method_155_code 5 = .ok (.invokestatic 1059, 3) by decide +kernel) rfl rfl (by simp) (fun H1 locs1 hH1 hF1 => ?_)
    refine lv_pop hx hb (show decode prog_17_method_155_code 8 = .ok (.pop, 1) by decide +kernel) rfl ?_
    exact W.vret hx hb hr (fun t ht _ => xk_qc hH1 hF1 t ht) hF1.2 (show decode prog_17_method_155_code 9 = .ok (.return_, 1) by decide +kernel)
  rcases g4 with g4 | ⟨t, g4⟩
  · exact va_gets hx hb g4 va_S.rf hown hlink (fun _ h => h) (show decode prog_17_method_155_code 2 = .ok (.getstatic 1053, 3) by decide +kernel) (go .null rfl)
  · exact va_gets hx hb g4 va_S.rf hown hlink (fun _ h => h) (show decode prog_17_method_155_code 2 = .ok (.getstatic 1053, 3) by decide +kernel) (go (.ref t) rfl)
theorem xk_tb_and : ∀ b ∈ xk_tb, ((b &&& 255).toUInt32 % 65536).toInt32 = b ∧ narrow .char (.int b) = .int b := by decide +kernel
theorem xk_tb_in {j : Nat} (h : j < 109) : xk_tb.getD j 0 ∈ xk_tb := by
  rw [List.getD_eq_getElem?_getD, List.getElem?_eq_getElem (show j < xk_tb.length from h)]
  exact List.getElem_mem _
/-- StringLatin1.charAt -/
theorem xk_n_l1 {l : Launch} {D : va_G} {aC : Nat → ClassId} {B0 SA VA k : Nat} {σ : xk_S} {i : Int32} (h0 : ¬ i < 0) (h1 : i.toNatClampNeg < 109) : xk_Nt l D aC B0 SA VA ⟨"java/lang/StringLatin1", "charAt", "([BI)C"⟩ prog_18_method_2_code 2 (some .char) (k + 2) [.ref VA, .int i] σ (some (.int (xk_tb.getD i.toNatClampNeg 0))) := by
  refine xk_Nt_of (by decide) (by simp [lg_sl, Value.category]) ?_
  intro p e s m below meth c ls hx hb hml hown hts hE hH hr hlocks hl
  have hl : lv_has ls 2 (lv_args 0 [.ref VA, .int i]) := hl
  obtain ⟨adK, adV, g1, g2, g3, g4⟩ := hE.2.2.2.2
  have hT := (g1.1 0 (by omega)).2.2.2
  rw [g2.2] at hT
  have hT : va_T .byte VA 109 (fun j => .int (xk_tb.getD j 0)) (fun q => B0 ≤ q) s s.heap := hT
  have hin : vp_in i 109 := fun q => by
    rcases q with q | q
    · exact h0 q
    · omega
  have hlt : i < Int32.ofNat 109 := by
    have hi : i.toInt = (i.toNatClampNeg : Int) := by
      have : (0 : Int) ≤ i.toInt := by
        have := Int32.not_lt.mp h0
        simpa using Int32.le_iff_toInt_le.mp this
      show i.toInt = ((i.toInt.toNat : Nat) : Int)
      omega
    rw [Int32.lt_iff_toInt_lt, hi]
    show (i.toNatClampNeg : Int) < 109
    omega
  refine lv_iload_n (i := 1) (x := i) hx hb (show decode prog_18_method_2_code 0 = .ok (.iload_n 1, 1) by decide +kernel) rfl (lv_at hl 1 rfl) ?_
  refine lv_aload_n (i := 0) (x := VA) hx hb (show decode prog_18_method_2_code 1 = .ok (.aload_n 0, 1) by decide +kernel) rfl (lv_at hl 0 rfl) ?_
  refine va_tlen hx hb hT va_S.rf rfl (show decode prog_18_method_2_code 2 = .ok (.arraylength, 1) by decide +kernel) ?_
  refine xk_n_callS (R := { frames := k + 2, cells := 0, slots := 0, locals := 100 * (k + 2) }) hx hb (hl.1.trans hml.symm) hown (fun w hw => List.mem_cons_of_mem _ hw) hts hE hH xk_Fr.rf (x := ⟨"java/lang/String", "checkIndex", "(II)V"⟩) (bytes := prog_17_method_155_code) (mx := 2) (rt := none) (as := [.int i, .int (Int32.ofNat 109)]) (rest := []) (np := 2) (k := k + 1) (xk_memdec _ (by decide +kernel)) (xk_memdec _ (by decide +kernel)) (xk_memdec _ (by decide +kernel)) (xk_memdec _ (by decide +kernel)) (by decide +kernel) (by decide) (xk_n_chk2 h0 hlt) (Nat.le_refl _) (by show 100 * (k + 1) + 70 ≤ 100 * (k + 2); omega) (Nat.le_refl _) (Nat.le_refl _) (show decode prog_18_method_2_code 3 = .ok (.invokestatic 9, 3) by decide +kernel) rfl rfl (by simp) (fun H1 locs1 hH1 hF1 => ?_)
  refine lv_aload_n (i := 0) (x := VA) hx hb (show decode prog_18_method_2_code 6 = .ok (.aload_n 0, 1) by decide +kernel) rfl (lv_at hl 0 rfl) ?_
  refine lv_iload_n (i := 1) (x := i) hx hb (show decode prog_18_method_2_code 7 = .ok (.iload_n 1, 1) by decide +kernel) rfl (lv_at hl 1 rfl) ?_
  refine va_tb hx hb hT (xk_vaS hH hH1 hF1) hin rfl (show decode prog_18_method_2_code 8 = .ok (.baload, 1) by decide +kernel) ?_
  refine lv_sipush (v := 255) hx hb (show decode prog_18_method_2_code 9 = .ok (.sipush 255, 3) by decide +kernel) (by decide) ?_
  refine lv_iand hx hb (show decode prog_18_method_2_code 12 = .ok (.iand, 1) by decide +kernel) ?_
  obtain ⟨e1, e2⟩ := xk_tb_and _ (xk_tb_in h1)
  refine lv_i2c hx hb (show decode prog_18_method_2_code 13 = .ok (.i2c, 1) by decide +kernel) e1 ?_
  exact W.zret hx hb hr e2 (fun t ht _ => xk_qc hH1 hF1 t ht) hF1.2 (show decode prog_18_method_2_code 14 = .ok (.ireturn, 1) by decide +kernel)
/-- String.isLatin1 -/
theorem xk_n_isl {l : Launch} {D : va_G} {aC : Nat → ClassId} {B0 SA VA k : Nat} {σ : xk_S} : xk_Nt l D aC B0 SA VA ⟨"java/lang/String", "isLatin1", "()Z"⟩ prog_17_method_154_code 1 (some .boolean) k [.ref SA] σ (some (.int 1)) := by
  refine xk_Nt_of (by decide) (by simp [lg_sl, Value.category]) ?_
  intro p e s m below meth c ls hx hb hml hown hts hE hH hr hlocks hl
  have hl : lv_has ls 1 (lv_args 0 [.ref SA]) := hl
  have htW : ∀ w ∈ xk_WA, w.before _ s = true := fun w hw => hts w (List.mem_cons_of_mem _ hw)
  obtain ⟨adK, adV, g1, g2, g3, g4⟩ := hE.2.2.2.2
  have hC := (g1.1 0 (by omega)).2.1
  rw [g2.1] at hC
  refine va_gets hx hb g3 va_S.rf hown (htW (Cond.fieldLink "java/lang/String" 38 "java/lang/String" "COMPACT_STRINGS" "Z") (xk_memdec _ (by decide +kernel))) (fun _ h => h) (show decode prog_17_method_154_code 0 = .ok (.getstatic 38, 3) by decide +kernel) ?_
  refine lv_if_eq (tgt := 17) hx hb (show decode prog_17_method_154_code 3 = .ok (.ifCond .eq 14, 3) by decide +kernel) (by decide) (fun q => absurd q (by decide)) (fun _ => ?_)
  refine lv_aload_n (i := 0) (x := SA) hx hb (show decode prog_17_method_154_code 6 = .ok (.aload_n 0, 1) by decide +kernel) rfl (lv_at hl 0 rfl) ?_
  refine vk_getf hx hb hC va_S.rf hown (htW (Cond.fieldLink "java/lang/String" 15 "java/lang/String" "coder" "B") (xk_memdec _ (by decide +kernel))) (fun _ h => h) (show decode prog_17_method_154_code 7 = .ok (.getfield 15, 3) by decide +kernel) ?_
  refine lv_if_ne (tgt := 17) hx hb (show decode prog_17_method_154_code 10 = .ok (.ifCond .ne 7, 3) by decide +kernel) (by decide) (fun q => absurd rfl q) (fun _ => ?_)
  refine lv_iconst (v := 1) hx hb (show decode prog_17_method_154_code 13 = .ok (.iconst 1, 1) by decide +kernel) (by decide) ?_
  refine lv_goto (tgt := 18) hx hb (show decode prog_17_method_154_code 14 = .ok (.goto 4, 3) by decide +kernel) (by decide) ?_
  exact W.zret hx hb hr (by decide) (fun t ht _ => xk_qc hH xk_Fr.rf t ht) (fun _ h => by cases h) (show decode prog_17_method_154_code 18 = .ok (.ireturn, 1) by decide +kernel)
/-- String.coder -/
theorem xk_n_cod {l : Launch} {D : va_G} {aC : Nat → ClassId} {B0 SA VA k : Nat} {σ : xk_S} : xk_Nt l D aC B0 SA VA ⟨"java/lang/String", "coder", "()B"⟩ prog_17_method_152_code 1 (some .byte) k [.ref SA] σ (some (.int 0)) := by
  refine xk_Nt_of (by decide) (by simp [lg_sl, Value.category]) ?_
  intro p e s m below meth c ls hx hb hml hown hts hE hH hr hlocks hl
  have hl : lv_has ls 1 (lv_args 0 [.ref SA]) := hl
  have htW : ∀ w ∈ xk_WA, w.before _ s = true := fun w hw => hts w (List.mem_cons_of_mem _ hw)
  obtain ⟨adK, adV, g1, g2, g3, g4⟩ := hE.2.2.2.2
  have hC := (g1.1 0 (by omega)).2.1
  rw [g2.1] at hC
  refine va_gets hx hb g3 va_S.rf hown (htW (Cond.fieldLink "java/lang/String" 38 "java/lang/String" "COMPACT_STRINGS" "Z") (xk_memdec _ (by decide +kernel))) (fun _ h => h) (show decode prog_17_method_152_code 0 = .ok (.getstatic 38, 3) by decide +kernel) ?_
  refine lv_if_eq (tgt := 13) hx hb (show decode prog_17_method_152_code 3 = .ok (.ifCond .eq 10, 3) by decide +kernel) (by decide) (fun q => absurd q (by decide)) (fun _ => ?_)
  refine lv_aload_n (i := 0) (x := SA) hx hb (show decode prog_17_method_152_code 6 = .ok (.aload_n 0, 1) by decide +kernel) rfl (lv_at hl 0 rfl) ?_
  refine vk_getf hx hb hC va_S.rf hown (htW (Cond.fieldLink "java/lang/String" 15 "java/lang/String" "coder" "B") (xk_memdec _ (by decide +kernel))) (fun _ h => h) (show decode prog_17_method_152_code 7 = .ok (.getfield 15, 3) by decide +kernel) ?_
  refine lv_goto (tgt := 14) hx hb (show decode prog_17_method_152_code 10 = .ok (.goto 4, 3) by decide +kernel) (by decide) ?_
  exact W.zret hx hb hr (by decide) (fun t ht _ => xk_qc hH xk_Fr.rf t ht) (fun _ h => by cases h) (show decode prog_17_method_152_code 14 = .ok (.ireturn, 1) by decide +kernel)
/-- String.charAt -/
theorem xk_n_chr {l : Launch} {D : va_G} {aC : Nat → ClassId} {B0 SA VA k : Nat} {σ : xk_S} {i : Int32} (h0 : ¬ i < 0) (h1 : i.toNatClampNeg < 109) : xk_Nt l D aC B0 SA VA ⟨"java/lang/String", "charAt", "(I)C"⟩ prog_17_method_56_code 2 (some .char) (k + 3) [.ref SA, .int i] σ (some (.int (xk_tb.getD i.toNatClampNeg 0))) := by
  refine xk_Nt_of (by decide) (by simp [lg_sl, Value.category]) ?_
  intro p e s m below meth c ls hx hb hml hown hts hE hH hr hlocks hl
  have hl : lv_has ls 2 (lv_args 0 [.ref SA, .int i]) := hl
  have htW : ∀ w ∈ xk_WA, w.before _ s = true := fun w hw => hts w (List.mem_cons_of_mem _ hw)
  obtain ⟨adK, adV, g1, g2, g3, g4⟩ := hE.2.2.2.2
  have hV := (g1.1 0 (by omega)).2.2.1
  rw [g2.1, g2.2] at hV
  refine lv_aload_n (i := 0) (x := SA) hx hb (show decode prog_17_method_56_code 0 = .ok (.aload_n 0, 1) by decide +kernel) rfl (lv_at hl 0 rfl) ?_
  refine xk_n_callV (R := { frames := k + 3, cells := 0, slots := 0, locals := 100 * (k + 3) }) hx hb (hl.1.trans hml.symm) hown (fun w hw => List.mem_cons_of_mem _ hw) hts hE hH xk_Fr.rf (x := ⟨"java/lang/String", "isLatin1", "()Z"⟩) (bytes := prog_17_method_154_code) (mx := 1) (rt := some .boolean) (as := []) (rest := []) (np := 0) (k := k + 2) (xk_memdec _ (by decide +kernel)) (xk_memdec _ (by decide +kernel)) (xk_memdec _ (by decide +kernel)) (xk_memdec _ (by decide +kernel)) (xk_memdec _ (by decide +kernel)) (by decide +kernel) (by decide) xk_n_isl (Nat.le_refl _) (by show 100 * (k + 2) + 70 ≤ 100 * (k + 3); omega) (Nat.le_refl _) (Nat.le_refl _) (show decode prog_17_method_56_code 1 = .ok (.invokevirtual 492, 3) by decide +kernel) rfl rfl (by simp) (fun H1 locs1 hH1 hF1 => ?_)
  refine lv_if_eq (tgt := 16) hx hb (show decode prog_17_method_56_code 4 = .ok (.ifCond .eq 12, 3) by decide +kernel) (by decide) (fun q => absurd q (by decide)) (fun _ => ?_)
  refine lv_aload_n (i := 0) (x := SA) hx hb (show decode prog_17_method_56_code 7 = .ok (.aload_n 0, 1) by decide +kernel) rfl (lv_at hl 0 rfl) ?_
  refine vk_getf hx hb hV (xk_vaS hH hH1 hF1) hown (htW (Cond.fieldLink "java/lang/String" 9 "java/lang/String" "value" "[B") (xk_memdec _ (by decide +kernel))) (fun _ h => h) (show decode prog_17_method_56_code 8 = .ok (.getfield 9, 3) by decide +kernel) ?_
  refine lv_iload_n (i := 1) (x := i) hx hb (show decode prog_17_method_56_code 11 = .ok (.iload_n 1, 1) by decide +kernel) rfl (lv_at hl 1 rfl) ?_
  refine xk_n_callS (R := { frames := k + 3, cells := 0, slots := 0, locals := 100 * (k + 3) }) hx hb (hl.1.trans hml.symm) hown (fun w hw => List.mem_cons_of_mem _ hw) hts hE hH1 hF1 (x := ⟨"java/lang/StringLatin1", "charAt", "([BI)C"⟩) (bytes := prog_18_method_2_code) (mx := 2) (rt := some .char) (as := [.ref VA, .int i]) (rest := []) (np := 2) (k := k + 2) (xk_memdec _ (by decide +kernel)) (xk_memdec _ (by decide +kernel)) (xk_memdec _ (by decide +kernel)) (xk_memdec _ (by decide +kernel)) (by decide +kernel) (by decide) (xk_n_l1 h0 h1) (Nat.le_refl _) (by show 100 * (k + 2) + 70 ≤ 100 * (k + 3); omega) (Nat.le_refl _) (Nat.le_refl _) (show decode prog_17_method_56_code 12 = .ok (.invokestatic 495, 3) by decide +kernel) rfl rfl (by simp) (fun H2 locs2 hH2 hF2 => ?_)
  exact W.zret hx hb hr (xk_tb_and _ (xk_tb_in h1)).2 (fun t ht _ => xk_qc hH2 hF2 t ht) hF2.2 (show decode prog_17_method_56_code 15 = .ok (.ireturn, 1) by decide +kernel)
/-- String.length -/
theorem xk_n_len {l : Launch} {D : va_G} {aC : Nat → ClassId} {B0 SA VA k : Nat} {σ : xk_S} : xk_Nt l D aC B0 SA VA ⟨"java/lang/String", "length", "()I"⟩ prog_17_method_54_code 1 (some .int) (k + 1) [.ref SA] σ (some (.int 109)) := by
  refine xk_Nt_of (by decide) (by simp [lg_sl, Value.category]) ?_
  intro p e s m below meth c ls hx hb hml hown hts hE hH hr hlocks hl
  have hl : lv_has ls 1 (lv_args 0 [.ref SA]) := hl
  have htW : ∀ w ∈ xk_WA, w.before _ s = true := fun w hw => hts w (List.mem_cons_of_mem _ hw)
  obtain ⟨adK, adV, g1, g2, g3, g4⟩ := hE.2.2.2.2
  have hV := (g1.1 0 (by omega)).2.2.1
  have hT := (g1.1 0 (by omega)).2.2.2
  rw [g2.1, g2.2] at hV
  rw [g2.2] at hT
  refine lv_aload_n (i := 0) (x := SA) hx hb (show decode prog_17_method_54_code 0 = .ok (.aload_n 0, 1) by decide +kernel) rfl (lv_at hl 0 rfl) ?_
  refine vk_getf hx hb hV va_S.rf hown (htW (Cond.fieldLink "java/lang/String" 9 "java/lang/String" "value" "[B") (xk_memdec _ (by decide +kernel))) (fun _ h => h) (show decode prog_17_method_54_code 1 = .ok (.getfield 9, 3) by decide +kernel) ?_
  refine va_tlen (v := 109) hx hb hT va_S.rf (by decide) (show decode prog_17_method_54_code 4 = .ok (.arraylength, 1) by decide +kernel) ?_
  refine lv_aload_n (i := 0) (x := SA) hx hb (show decode prog_17_method_54_code 5 = .ok (.aload_n 0, 1) by decide +kernel) rfl (lv_at hl 0 rfl) ?_
  refine xk_n_callV (R := { frames := k + 1, cells := 0, slots := 0, locals := 100 * (k + 1) }) hx hb (hl.1.trans hml.symm) hown (fun w hw => List.mem_cons_of_mem _ hw) hts hE hH xk_Fr.rf (x := ⟨"java/lang/String", "coder", "()B"⟩) (bytes := prog_17_method_152_code) (mx := 1) (rt := some .byte) (as := []) (rest := [.int 109]) (np := 0) (k := k) (xk_memdec _ (by decide +kernel)) (xk_memdec _ (by decide +kernel)) (xk_memdec _ (by decide +kernel)) (xk_memdec _ (by decide +kernel)) (xk_memdec _ (by decide +kernel)) (by decide +kernel) (by decide) xk_n_cod (Nat.le_refl _) (by show 100 * k + 70 ≤ 100 * (k + 1); omega) (Nat.le_refl _) (Nat.le_refl _) (show decode prog_17_method_54_code 6 = .ok (.invokevirtual 335, 3) by decide +kernel) rfl rfl (by simp [Value.category]) (fun H1 locs1 hH1 hF1 => ?_)
  refine lv_ishr (x := 109) (y := 0) hx hb (show decode prog_17_method_54_code 9 = .ok (.ishr, 1) by decide +kernel) ?_
  exact W.iret (v := 109) hx hb hr (fun t ht _ => xk_qc hH1 hF1 t ht) hF1.2 (show decode prog_17_method_54_code 10 = .ok (.ireturn, 1) by decide +kernel)
/-- both, in the words of xk_sim -/
theorem xk_nats {l : Launch} {D : va_G} {aC : Nat → ClassId} {B0 SA VA : Nat} : ∀ d, 8 ≤ d → ∀ z as σ r σ', 900 ≤ z → xk_natM z as σ = some (r, σ') → σ.2.2.2 = SA → xk_Met l D aC B0 SA VA (d + 1) z as σ r σ' := by
  intro d hd z as σ r σ' hz h hSA
  obtain ⟨k, rfl⟩ : ∃ k, d = k + 2 := ⟨d - 2, by omega⟩
  unfold xk_natM at h
  split at h
  · rename_i hz1
    subst hz1
    split at h <;> (try (cases h; done))
    split at h <;> (try (cases h; done))
    rename_i hb
    cases h
    have hb : _ = SA := hb.trans hSA
    subst hb
    unfold xk_Met xk_rm
    rw [Nat.sub_self, Nat.sub_self]
    exact xk_n_len (k := k + 2)
  · split at h <;> (try (cases h; done))
    rename_i hz1
    subst hz1
    split at h <;> (try (cases h; done))
    split at h <;> (try (cases h; done))
    rename_i hb
    obtain ⟨hb, hk⟩ := hb
    cases h
    have hb : _ = SA := hb.trans hSA
    subst hb
    unfold xk_Met xk_rm
    rw [Nat.sub_self, Nat.sub_self]
    exact xk_n_chr (k := k) (fun q => hk (Or.inl q)) (Nat.not_le.mp fun q => hk (Or.inr q))
