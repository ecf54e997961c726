/-! the law's start: what is known there; the claim out of xk_lawOK -/
theorem xk_K_of {s : State} {args : Array Value} (hts : ∀ w ∈ lw_tbl, w.before args s = true) : ∃ (D : va_G) (aC : Nat → ClassId), va_K D xk_cl (xk_tys aC) s := by
  have htW : ∀ w ∈ xk_WA, w.before args s = true := fun w hw => hts w (xk_WA_tbl hw)
  have h1 : ∀ ci : Nat, ∃ q : ClassId × (Nat → Nat), ∀ r : vw_C, xk_cl[ci]? = some r → u_Kn s r.1 r.2.1 r.2.2 q.1 q.2 := by
    intro ci
    cases hr : xk_cl[ci]? with
    | none => exact ⟨(0, fun _ => 0), fun r h => by cases h⟩
    | some r =>
      obtain ⟨cC, iS, h⟩ := u_known htW (xk_cl_in (List.mem_of_getElem? hr)) (htW _ (xk_insta_at hr).1)
      exact ⟨(cC, iS), fun r' h' => by cases h'; exact h⟩
  obtain ⟨q, hq⟩ := Classical.axiomOfChoice h1
  have prim : ∀ ty : FieldType, Cond.arrayClass ty ∈ xk_WA → (∀ C, ty ≠ .object C) → ∃ cA : ClassId, ArrOfT s cA ty ∧ va_RA s cA ty := by
    intro ty hty hno
    obtain ⟨cA, kA, comp, e1, e2, e3⟩ := Cond.arrayClass_spec (htW _ hty)
    refine ⟨cA, fun n z => ⟨fun k h => (by cases h), kA, e2, comp, e3⟩, ?_⟩
    unfold va_RA
    split
    · rename_i C
      exact absurd rfl (hno C)
    · exact e1
  have obj : ∀ C : String, Cond.arrayOver (.object C) ∈ lw_tbl → ∃ cA : ClassId, ArrOfT s cA (.object C) ∧ va_RA s cA (.object C) := by
    intro C hC
    obtain ⟨comp, cA, kA, e1, -, e3, e4, e5⟩ := Cond.arrayOver_spec (hts _ hC)
    exact ⟨cA, fun n z => ⟨fun k h => (by cases h), kA, e3, comp, e4⟩, kA, comp, e3, e4, e1, e5⟩
  obtain ⟨a0, x0⟩ := prim .int xk_arrI (fun C h => by cases h)
  obtain ⟨a1, x1⟩ := prim .byte xk_arrB (fun C h => by cases h)
  obtain ⟨a2, x2⟩ := prim .boolean xk_arrZ (fun C h => by cases h)
  obtain ⟨a3, x3⟩ := prim .long xk_arrJ (fun C h => by cases h)
  obtain ⟨a4, x4⟩ := obj _ xk_overR
  obtain ⟨a5, x5⟩ := obj _ xk_overK
  obtain ⟨a6, x6⟩ := obj _ xk_overD
  refine ⟨(fun ci => (q ci).1, fun ci => (q ci).2), fun t => [a0, a1, a2, a3, a4, a5, a6].getD t 0, fun ci r hr => hq ci r hr, fun k z hz => ?_⟩
  have hk : k < 7 := (List.getElem?_eq_some_iff.mp hz).1
  match k, hk with
  | 0, _ => cases hz; exact x0
  | 1, _ => cases hz; exact x1
  | 2, _ => cases hz; exact x2
  | 3, _ => cases hz; exact x3
  | 4, _ => cases hz; exact x4
  | 5, _ => cases hz; exact x5
  | 6, _ => cases hz; exact x6
def xk_tm : Term := .string "OnePen$Text" 49
set_option maxRecDepth 100000 in
theorem xk_flatE : ∀ j, j < 109 → Cond.eq (.elem (.field xk_tm "java/lang/String" "value" "[B") (.int (Int32.ofNat j))) (.int (xk_tb.getD j 0)) ∈ flatC (Jvm.Cond.and given_1 narrow_1) := by decide +kernel
set_option maxRecDepth 100000 in
theorem xk_flat1 : Cond.exactly xk_tm "java/lang/String" ∈ flatC (Jvm.Cond.and given_1 narrow_1) ∧ Cond.eq (.field xk_tm "java/lang/String" "coder" "B") (.int 0) ∈ flatC (Jvm.Cond.and given_1 narrow_1) ∧ Cond.arrayOf (.field xk_tm "java/lang/String" "value" "[B") .byte ∈ flatC (Jvm.Cond.and given_1 narrow_1) ∧ Cond.eq (.length (.field xk_tm "java/lang/String" "value" "[B")) (.int (Int32.ofNat 109)) ∈ flatC (Jvm.Cond.and given_1 narrow_1)
    ∧ Cond.eq (.static "java/lang/String" "COMPACT_STRINGS" "Z") (.int 1) ∈ flatC (Jvm.Cond.and given_1 narrow_1) ∧ Cond.isRef (.static "jdk/internal/util/Preconditions" "SIOOBE_FORMATTER" "Ljava/util/function/BiFunction;") ∈ flatC (Jvm.Cond.and given_1 narrow_1) := by decide +kernel
set_option maxRecDepth 100000 in
theorem xk_tblS : Cond.stringRef "OnePen$Text" 49 xk_txt ∈ lw_tbl ∧ Cond.laysStatic "java/lang/String" "COMPACT_STRINGS" "Z" ∈ lw_tbl ∧ Cond.initialized "java/lang/String" ∈ lw_tbl ∧ Cond.laysStatic "jdk/internal/util/Preconditions" "SIOOBE_FORMATTER" "Ljava/util/function/BiFunction;" ∈ lw_tbl ∧ Cond.initialized "jdk/internal/util/Preconditions" ∈ lw_tbl := by decide +kernel
theorem xk_Env_of {s : State} {args : Array Value} (hts : ∀ w ∈ lw_tbl, w.before args s = true) (hgv : (Jvm.Cond.and given_1 narrow_1).before args s = true) : ∃ (D : va_G) (aC : Nat → ClassId) (SA VA : Nat), xk_Env D aC s.heap.size SA VA s := by
  obtain ⟨D, aC, hK⟩ := xk_K_of hts
  have hs := flat_of_before _ hgv
  have hA : ∀ a : Nat, a < s.heap.size → ¬ (fun q => s.heap.size ≤ q) a := fun a ha => Nat.not_le.mpr ha
  obtain ⟨f1, f2, f3, f4, f5, f6⟩ := xk_flat1
  obtain ⟨t1, t2, t3, t4, t5⟩ := xk_tblS
  have i0 : ∀ i : Nat, i < 1 → i = 0 := fun i h => by omega
  obtain ⟨adK, adV, hS, hev⟩ := vk_Sof (s := s) (args := args) (N := 1) (tm := fun _ => xk_tm) (len := [109]) (byt := [xk_tb]) (A := fun q => s.heap.size ≤ q)
    (fun i hi => by rw [i0 i hi]; decide) (fun i hi => hs _ f1) (fun i hi => hs _ f2) (fun i hi => hs _ f3) (fun i hi => by rw [i0 i hi]; exact hs _ f4) (fun i hi j hj => by rw [i0 i hi] at hj ⊢; exact hs _ (xk_flatE j hj)) (fun i j hi hj hij => by omega) hA
  refine ⟨D, aC, adK 0, adV 0, hK, fun C hC => ?_, vk_R.of (hts _ t1) (hev 0 (by omega)), fun e he hn o r ho hr => ?_, adK, adV, hS, ⟨rfl, rfl⟩, va_Zof (hts _ t2) (hts _ t3) (va_eqi (hs _ f5)) hA, va_Zqof (hts _ t4) (hts _ t5) (hs _ f6) hA⟩
  · simp only [List.mem_cons, List.not_mem_nil, or_false] at hC
    rcases hC with rfl | rfl | rfl
    · exact va_AO.of (hts _ xk_overR)
    · exact va_AO.of (hts _ xk_overK)
    · exact va_AO.of (hts _ xk_overD)
  · have h3 := List.all_eq_true.mp xk_ml_ok e he
    rw [ho, hr] at h3
    simp only [hn, if_true, decide_eq_true_eq] at h3
    exact va_Nw.of rfl (hts _ (List.mem_of_getElem? h3))
theorem whole_start_open (hOK : xk_lawOK) {p : Program} {e : Env} {s : State} {m : MethodId} {below : List Frame} {meth : Method} {c : Code} (l : Launch) (hflags : l.flags = flags0) {b L : Nat} {xs : Nat → Int32} (hL : L ≤ 3072) (C0 : lw_At p s m meth c b L xs) : W p l e room_1 s m #[Value.ref b] below meth c s.heap [] 0 0 (lw_Z below #[Value.ref b] s) (entryFrame m ([Value.ref b] : List Value).toArray 4) := by
  have C1 := C0
  obtain ⟨hx, hb, hr, hml, hown, hts, hX, hbl, hlocks, hgv⟩ := C0
  obtain ⟨D, aC, SA, VA, hE⟩ := xk_Env_of hts hgv
  obtain ⟨n, σf, h1, h2, h3⟩ := hOK b L s.heap.size SA xs hL hbl
  rw [lg_entry_eq]
  have hRL : xk_RL ((lg_sl [Value.ref b] ++ List.replicate (4 - (lg_sl [Value.ref b]).length) Slot.unset).toArray) [.ref b, xk_dd, xk_dd, xk_dd] := by
    have h0 := lv_entry [Value.ref b] (n := 4) (by simp [lg_sl, Value.category])
    refine ⟨h0.1, h0.2.1, fun i v hi hv _ => ?_⟩
    match i with
    | 0 => cases hi; rfl
    | 1 => cases hi; exact absurd rfl hv
    | 2 => cases hi; exact absurd rfl hv
    | 3 => cases hi; exact absurd rfl hv
    | i + 4 => simp at hi
  have key := xk_lrun_sim (l := l) (e := e) (below := below) (D := D) (aC := aC) (SA := SA) (VA := VA) (d := 200) C1 hE (by omega) h2 h3 n 0 [.ref b, xk_dd, xk_dd, xk_dd] [] (fun _ => xk_no, s.heap.size, 0, SA) h1 (Nat.le_refl _) rfl rfl s.heap [] _ ⟨rfl, Nat.le_refl _, fun a q1 q2 => by
    have q2 : a < s.heap.size := q2
    omega, fun _ _ => rfl⟩ ⟨fun _ _ => rfl, fun _ h => by cases h⟩ hRL
  rw [show (((fun _ => xk_no, s.heap.size, 0, SA) : xk_S).2.1 - s.heap.size) = 0 from Nat.sub_self _] at key
  exact key
