/-! THE LAW over the abstract machine, and the claim out of it -/
def R_law : String := "OnePenLaw"
/-- steps on the script -/
def xk_lext (b L : Nat) (xs : Nat → Int32) (i : Instr) (len : Nat) (st : List Value) : Option (List Value) :=
  match i with
  | .iaload => match st with
    | .int j :: .ref a :: st => if len = 1 ∧ a = b ∧ ¬ (j < 0 ∨ L ≤ j.toNatClampNeg) then some (.int (xs j.toNatClampNeg) :: st) else none
    | _ => none
  | .arraylength => match st with
    | .ref a :: st => if len = 1 ∧ a = b then some (.int (Int32.ofNat L) :: st) else none
    | _ => none
  | _ => none
def xk_lo : Nat := 14
def xk_lret (i : Instr) (len : Nat) (st : List Value) : Option Int32 :=
  match i with
  | .ireturn => match st with
    | [.int v] => if len = 1 then some v else none
    | _ => none
  | _ => none
def xk_lins (pc : Nat) : Option (Instr × Nat) := match decode code pc with | .ok q => some q | .error _ => none
theorem xk_lins_ok {pc : Nat} {q : Instr × Nat} (h : xk_lins pc = some q) : decode code pc = .ok q := by
  unfold xk_lins at h
  generalize decode code pc = z at h ⊢
  cases z with
  | ok q' => cases h; rfl
  | error _ => cases h
def xk_lrun (I : Nat → Option (Instr × Nat)) (M : Nat → Nat → List Value → xk_S → Option (Option Value × xk_S)) (b L : Nat) (xs : Nat → Int32) : Nat → Nat → List Value → List Value → xk_S → Option (Int32 × xk_S)
  | 0, _, _, _, _ => none
  | n + 1, pc, ρ, st, σ =>
    match I pc with
    | none => none
    | some (i, len) => match xk_lext b L xs i len st with
      | some st' => xk_lrun I M b L xs n (pc + len) ρ st' σ
      | none => match xk_pure xk_lo i len ρ st with
        | some (ρ', st') => xk_lrun I M b L xs n (pc + len) ρ' st' σ
        | none => match xk_br i len st with
          | some (bb, off, st') => if bb = true then (if 0 ≤ (pc : Int) + off then xk_lrun I M b L xs n ((pc : Int) + off).toNat ρ st' σ else none) else xk_lrun I M b L xs n (pc + len) ρ st' σ
          | none => match xk_heap xk_lo false i len st σ with
            | some (st', σ') => xk_lrun I M b L xs n (pc + len) ρ st' σ'
            | none => match xk_call xk_lo i len st σ with
              | some (z, as, st') => match M n z as σ with
                | some (v, σ') => xk_lrun I M b L xs n (pc + 3) ρ (v.toList ++ st') σ'
                | none => none
              | none => (xk_lret i len st).map (fun r => (r, σ))
theorem xk_lrun_le {I : Nat → Option (Instr × Nat)} {M : Nat → Nat → List Value → xk_S → Option (Option Value × xk_S)} (hM : ∀ n z as σ r σ', M n z as σ = some (r, σ') → xk_le σ σ') {b L : Nat} {xs : Nat → Int32} : ∀ (n pc : Nat) (ρ st : List Value) (σ : xk_S) (r : Int32) (σ' : xk_S), xk_lrun I M b L xs n pc ρ st σ = some (r, σ') → xk_le σ σ' := by
  intro n
  induction n with
  | zero => intro pc ρ st σ r σ' h; cases h
  | succ n ih =>
    intro pc ρ st σ r σ' h
    unfold xk_lrun at h
    split at h <;> (try (cases h; done))
    split at h
    · exact ih _ _ _ _ _ _ h
    · split at h
      · exact ih _ _ _ _ _ _ h
      · split at h
        · split at h
          · split at h <;> (try (cases h; done))
            exact ih _ _ _ _ _ _ h
          · exact ih _ _ _ _ _ _ h
        · split at h
          · rename_i hh
            exact (xk_heap_le hh).tr (ih _ _ _ _ _ _ h)
          · split at h
            · split at h <;> (try (cases h; done))
              rename_i hm
              exact (hM _ _ _ _ _ _ hm).tr (ih _ _ _ _ _ _ h)
            · obtain ⟨v, hv, h3⟩ := Option.map_eq_some_iff.mp h
              cases h3
              exact xk_le.rf
/-- what is owed of pure numbers: on every script of at most 3072 ints the abstract law answers 1, within the room -/
def xk_lawOK : Prop := ∀ (b L B0 SA : Nat) (xs : Nat → Int32), L ≤ 3072 → b < B0 → ∃ (n : Nat) (σf : xk_S), xk_lrun xk_lins (xk_M 200) b L xs n 0 [.ref b, xk_dd, xk_dd, xk_dd] [] (fun _ => xk_no, B0, 0, SA) = some (1, σf) ∧ σf.2.1 - B0 ≤ 600000 ∧ σf.2.2.1 ≤ 7302250
def lw_P (b : Addr) (xs : List Int32) (args : Array Value) (s : State) : Prop := args = #[.ref b] ∧ s.IntsAt b xs ∧ xs.length ≤ 3072 ∧ (Jvm.Cond.and given_1 narrow_1).before args s = true
def lw_Q (_ : Array Value) (s : State) (o : Outcome) (t : State) : Prop := o = .returned (some (.int 1)) ∧ Framed s o t [] 600000 7302250
def lw_Z (below : List Frame) (a : Array Value) (s : State) : State → Prop := fun t => ∃ o, t.status = .running ∧ Ended t below o ∧ lw_Q a s o t
/-- the law's own end, with 1 on the stack, nothing written that was there before, its room as the claim has it -/
theorem lw_ret {p : Program} {l : Launch} {e : Env} {s : State} {m : MethodId} {below : List Frame} {meth : Method} {c : Code} {b : Nat} (hx : p.tables.exec = Jvm.exec) (hb : c.code = code) (hr : meth.sig.returnType = ret) (hlocks : meth.locks = false) {pc : Nat} {H : Heap} {ls : Array Slot} (hdg : decode code pc = .ok (.ireturn, 1)) : W p l e room_1 s m #[Value.ref b] below meth c H [] 600000 7302250 (lw_Z below #[Value.ref b] s) (F0 m pc ls [.int 1]) := by
  intro T hT X
  obtain ⟨fs, hret, hrun, hended, hW, hframe⟩ := X.leave (v := some (.int 1)) (hlocks := hlocks) (fun h => by rw [hr] at h; cases h)
  have hmeth' : T.vm.method? m = some meth := X.method'
  refine ⟨T.setFrames fs, ?_, .returned (some (.int 1)), hrun, hended, rfl, ⟨_, rfl⟩, hW, hframe⟩
  jvm_step X.here [X.here.top, hx, hb, hdg, hmeth', hr, ret, narrow_b1]
  (try refine ⟨rfl, ?_⟩); (try refine ⟨rfl, ?_⟩)
  first | (intro acts; rw [hret _ acts rfl rfl rfl]) | rw [hret _ _ rfl rfl rfl]
  exact Steps.refl _
/-- what holds at the law's entry: the machine, the code, the tables' words (any of lw_tbl by 'hts w (by decide +kernel)'), the script of L ints xs at the cell b, what the Statement gives of the start (any of its parts by flat_of_before) -/
def lw_At (p : Program) (s : State) (m : MethodId) (meth : Method) (c : Code) (b L : Nat) (xs : Nat → Int32) : Prop :=
  p.tables.exec = Jvm.exec ∧ c.code = code ∧ meth.sig.returnType = ret ∧ c.maxLocals = 4 ∧ s.vm.findClass R_law = some m.cls ∧ (∀ w ∈ lw_tbl, w.before #[Value.ref b] s = true) ∧ va_X b L xs s s.heap ∧ b < s.heap.size ∧ meth.locks = false ∧ (Jvm.Cond.and given_1 narrow_1).before #[Value.ref b] s = true
section XKL
variable {p : Program} {l : Launch} {e : Env} {s : State} {m : MethodId} {below : List Frame} {meth : Method} {c : Code} {D : va_G} {aC : Nat → ClassId} {SA VA b L : Nat} {xs : Nat → Int32}
theorem xk_lrun_sim {d : Nat} (C0 : lw_At p s m meth c b L xs) (hE : xk_Env D aC s.heap.size SA VA s) (hd0 : d ≤ 800) {σf : xk_S} (hRc : σf.2.1 - s.heap.size ≤ 600000) (hRs : σf.2.2.1 ≤ 7302250) :
    ∀ (n pc : Nat) (ρ st : List Value) (σ : xk_S), xk_lrun xk_lins (xk_M d) b L xs n pc ρ st σ = some (1, σf) → s.heap.size ≤ σ.2.1 → σ.2.2.2 = SA → ρ.length = 4 → ∀ (H : Heap) (locs : List Loc) (ls : Array Slot), xk_HR D aC s.heap.size σ H → xk_Fr s.heap.size s.heap H locs → xk_RL ls ρ → W p l e room_1 s m #[Value.ref b] below meth c H locs (σ.2.1 - s.heap.size) (σ.2.2.1 - 0) (lw_Z below #[Value.ref b] s) (F0 m pc ls st) := by
  obtain ⟨hx, hb, hr, hml, hown, hts, hX, hbl, hlocks, hgv⟩ := C0
  generalize hI : xk_lins = I
  have hI2 : ∀ pc q, I pc = some q → decode code pc = .ok q := fun pc q h => xk_lins_ok (by rw [hI]; exact h)
  have htW : ∀ w ∈ xk_WA, w.before #[Value.ref b] s = true := fun w hw => hts w (xk_WA_tbl hw)
  have ho : xk_RN[xk_lo]? = some R_law := rfl
  intro n
  induction n with
  | zero => intro pc ρ st σ h; cases h
  | succ n ih =>
    intro pc ρ st σ h hN hSA hlen H locs ls hH hF hL
    have hlenC : ρ.length = c.maxLocals := hlen.trans hml.symm
    unfold xk_lrun at h
    split at h <;> (try (cases h; done))
    rename_i i len hd0
    have hd := hI2 _ _ hd0
    split at h
    · rename_i st' hext
      have hS : va_S (fun q => s.heap.size ≤ q) s.heap H locs := ⟨by rw [hH.1]; exact hN, fun q _ hq => hF.1 q (Nat.not_le.mp hq), hF.2⟩
      unfold xk_lext at hext
      split at hext <;> (try (cases hext; done))
      · split at hext <;> (try (cases hext; done))
        split at hext <;> (try (cases hext; done))
        rename_i hc
        obtain ⟨rfl, rfl, hin⟩ := hc
        cases hext
        exact va_sld hx hb hX hbl (Nat.not_le.mpr hbl) hS hin hd (ih _ _ _ _ h hN hSA hlen H locs ls hH hF hL)
      · split at hext <;> (try (cases hext; done))
        split at hext <;> (try (cases hext; done))
        rename_i hc
        obtain ⟨rfl, rfl⟩ := hc
        cases hext
        exact va_slen hx hb hX hbl (Nat.not_le.mpr hbl) hS hd (ih _ _ _ _ h hN hSA hlen H locs ls hH hF hL)
    · split at h
      · rename_i ρ' st' hp
        exact xk_w_pure hx hb ho hown htW hp hL hd (fun ls' hL' => ih _ _ _ _ h hN hSA (by rw [xk_pure_len hp]; exact hlen) H locs ls' hH hF hL')
      · split at h
        · rename_i bb off st' hbr
          refine xk_w_br hx hb hbr hd (fun hbt => ?_) (fun hbf => ?_)
          · rw [if_pos hbt] at h
            split at h <;> (try (cases h; done))
            rename_i h0
            exact ⟨_, (Int.toNat_of_nonneg h0).symm, ih _ _ _ _ h hN hSA hlen H locs ls hH hF hL⟩
          · rw [if_neg (by rw [hbf]; decide)] at h
            exact ih _ _ _ _ h hN hSA hlen H locs ls hH hF hL
        · split at h
          · rename_i st' σ' hh
            obtain ⟨l1, l2, l3⟩ := xk_heap_le hh
            obtain ⟨l4, l5, l6⟩ := xk_lrun_le (xk_M_le d) _ _ _ _ _ _ _ h
            exact xk_w_heap (R := room_1) hx hb (hL.1.trans hlenC) ho hown htW hE.1 (fun q => by cases q) hE.2.1 hE.2.2.1 hSA hH hF hh hd hN (Nat.zero_le _) (by show _ ≤ 600000; omega) (by show _ ≤ 7302250; omega) (by decide) (by decide) (fun H1 locs1 hH1 hF1 => ih _ _ _ _ h (by omega) (l3.trans hSA) hlen H1 locs1 ls hH1 hF1 hL)
          · split at h
            · rename_i z as rest hcall
              split at h <;> (try (cases h; done))
              rename_i v σ' hm
              obtain ⟨l1, l2, l3⟩ := xk_M_le _ _ _ _ _ _ _ hm
              obtain ⟨l4, l5, l6⟩ := xk_lrun_le (xk_M_le d) _ _ _ _ _ _ _ h
              exact xk_w_call (R := room_1) hx hb (hL.1.trans hlenC) ho hown (fun w hw => xk_WA_tbl hw) hts hE hSA hH hF hcall hd (xk_sim xk_nats _ _ _ _ _ _ _ hm hSA) ⟨l1, l2, l3⟩ (by show d + 1 ≤ 2048; omega) (by show 100 * d + 70 ≤ 84000; omega) (by show _ ≤ 600000; omega) (by show _ ≤ 7302250; omega) (fun H1 locs1 hH1 hF1 => xk_Wcs (k := σ'.2.1 - s.heap.size) (n := σ'.2.2.1 - 0) (by omega) (by omega) (ih _ _ _ _ h (by omega) (l3.trans hSA) hlen H1 locs1 ls hH1 hF1 hL))
            · obtain ⟨v, hv, h3⟩ := Option.map_eq_some_iff.mp h
              cases h3
              unfold xk_lret at hv
              split at hv <;> (try (cases hv; done))
              split at hv <;> (try (cases hv; done))
              split at hv <;> (try (cases hv; done))
              rename_i hlen1
              subst hlen1
              cases hv
              refine va_forget hF.2 ?_
              refine W.widen (k := 600000) (n := 7302250) hRc (by omega) ?_
              exact lw_ret hx hb hr hlocks hd
end XKL
