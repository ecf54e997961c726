/-! the run of a method's body, and the contract of every method -/
theorem xk_s1_len {ρ ρ' st st' : List Value} {k : Nat} {v : Value} (h : xk_s1 ρ k v st = some (ρ', st')) : ρ'.length = ρ.length := by
  unfold xk_s1 at h
  split at h <;> (try (cases h; done))
  cases h
  exact List.length_set
theorem xk_s2_len {ρ ρ' st st' : List Value} {k : Nat} {v : Value} (h : xk_s2 ρ k v st = some (ρ', st')) : ρ'.length = ρ.length := by
  unfold xk_s2 at h
  split at h <;> (try (cases h; done))
  cases h
  rw [List.length_set, List.length_set]
theorem xk_pure_len {o len : Nat} {i : Instr} {ρ ρ' st st' : List Value} (h : xk_pure o i len ρ st = some (ρ', st')) : ρ'.length = ρ.length := by
  unfold xk_pure at h
  split at h
  · cases h; rfl
  · split at h
    · rename_i hs
      cases h
      unfold xk_sto at hs
      split at hs <;> (try (cases hs; done)) <;> (split at hs <;> (try (cases hs; done))) <;> (split at hs <;> (try (cases hs; done))) <;>
        first
          | exact xk_s1_len hs
          | exact xk_s2_len hs
          | (cases hs; rfl)
    · obtain ⟨z, h2, h3⟩ := Option.map_eq_some_iff.mp h
      cases h3; rfl
section XKR
variable {p : Program} {l : Launch} {e : Env} {R : Room} {s : State} {m : MethodId} {args : Array Value} {below : List Frame} {meth : Method} {c : Code} {Qf : State → Prop}
variable {cc : ByteArray} {D : va_G} {aC : Nat → ClassId} {B0 SA VA : Nat}
theorem xk_run_sim {y d : Nat} (hx : p.tables.exec = Jvm.exec) (hb : c.code = xk_code y) {own : String} (ho : xk_RN[xk_own y]? = some own) (hown : s.vm.findClass own = some m.cls) {Ts : List Cond} (hTs : ∀ w ∈ xk_WA, w ∈ Ts) (hts : ∀ w ∈ Ts, w.before args s = true) (hE : xk_Env D aC B0 SA VA s) (hini : xk_ini y = true → meth.name = "<init>")
    (hM : ∀ n z as σ r σ', xk_M d n z as σ = some (r, σ') → σ.2.2.2 = SA → xk_Met l D aC B0 SA VA d z as σ r σ') {r : Option Value} {σf : xk_S} {N0 S0 : Nat} (hfr : d + 1 ≤ R.frames) (hlo : 100 * d + 100 ≤ R.locals) (hRc : σf.2.1 - N0 ≤ R.cells) (hRs : σf.2.2.1 - S0 ≤ R.slots)
    (hret : ∀ (H : Heap) (locs : List Loc) (ls : Array Slot) (pc len : Nat) (i : Instr) (st : List Value), xk_HR D aC B0 σf H → xk_Fr B0 s.heap H locs → decode (xk_code y) pc = .ok (i, len) → xk_ret y i len st = some r → W p l e R s m args below meth c H locs (σf.2.1 - N0) (σf.2.2.1 - S0) Qf (F0 m pc ls st)) :
    ∀ (n pc : Nat) (ρ st : List Value) (σ : xk_S), xk_run (xk_M d) y n pc ρ st σ = some (r, σf) → N0 ≤ σ.2.1 → S0 ≤ σ.2.2.1 → σ.2.2.2 = SA → ρ.length = c.maxLocals → ∀ (H : Heap) (locs : List Loc) (ls : Array Slot), xk_HR D aC B0 σ H → xk_Fr B0 s.heap H locs → xk_RL ls ρ → W p l e R s m args below meth c H locs (σ.2.1 - N0) (σ.2.2.1 - S0) Qf (F0 m pc ls st) := by
  have htW : ∀ w ∈ xk_WA, w.before args s = true := fun w hw => hts w (hTs w hw)
  intro n
  induction n with
  | zero => intro pc ρ st σ h; cases h
  | succ n ih =>
    intro pc ρ st σ h hN hS hSA hlen H locs ls hH hF hL
    unfold xk_run at h
    split at h <;> (try (cases h; done))
    rename_i i len hins
    have hd : decode (xk_code y) pc = .ok (i, len) := by
      unfold xk_ins at hins
      split at hins <;> (try (cases hins; done))
      rename_i hq
      cases hins
      exact hq
    split at h
    · rename_i ρ' st' hp
      exact xk_w_pure hx hb ho hown htW hp hL hd (fun ls' hL' => ih _ _ _ _ h hN hS hSA (by rw [xk_pure_len hp]; exact hlen) H locs ls' hH hF hL')
    · split at h
      · rename_i b off st' hbr
        refine xk_w_br hx hb hbr hd (fun hbt => ?_) (fun hbf => ?_)
        · rw [if_pos hbt] at h
          split at h <;> (try (cases h; done))
          rename_i h0
          exact ⟨_, (Int.toNat_of_nonneg h0).symm, ih _ _ _ _ h hN hS hSA hlen H locs ls hH hF hL⟩
        · rw [if_neg (by rw [hbf]; decide)] at h
          exact ih _ _ _ _ h hN hS hSA hlen H locs ls hH hF hL
      · split at h
        · rename_i st' σ' hh
          have hle := xk_heap_le hh
          have hle2 := xk_run_le (xk_M_le d) _ _ _ _ _ _ _ h
          obtain ⟨l1, l2, l3⟩ := hle
          obtain ⟨l4, l5, l6⟩ := hle2
          exact xk_w_heap hx hb (hL.1.trans hlen) ho hown htW hE.1 hini hE.2.1 hE.2.2.1 hSA hH hF hh hd hN hS (by omega) (by omega) (by omega) (by omega) (fun H1 locs1 hH1 hF1 => ih _ _ _ _ h (by omega) (by omega) (l3.trans hSA) hlen H1 locs1 ls hH1 hF1 hL)
        · split at h
          · rename_i z as rest hcall
            split at h <;> (try (cases h; done))
            rename_i v σ' hm
            have hle := xk_M_le _ _ _ _ _ _ _ hm
            have hle2 := xk_run_le (xk_M_le d) _ _ _ _ _ _ _ h
            obtain ⟨l1, l2, l3⟩ := hle
            obtain ⟨l4, l5, l6⟩ := hle2
            exact xk_w_call hx hb (hL.1.trans hlen) ho hown hTs hts hE hSA hH hF hcall hd (hM _ _ _ _ _ _ hm hSA) ⟨l1, l2, l3⟩ hfr (by omega) (by omega) (by omega) (fun H1 locs1 hH1 hF1 => xk_Wcs (k := σ'.2.1 - N0) (n := σ'.2.2.1 - S0) (by omega) (by omega) (ih _ _ _ _ h (by omega) (by omega) (l3.trans hSA) hlen H1 locs1 ls hH1 hF1 hL))
          · obtain ⟨v, hv, h3⟩ := Option.map_eq_some_iff.mp h
            cases h3
            exact hret H locs ls pc len i st hH hF hd hv
end XKR
theorem xk_entL (as : List Value) : (lg_sl as).length = (xk_ent as).length := by
  induction as with
  | nil => rfl
  | cons v as ih =>
    unfold lg_sl xk_ent at ih ⊢
    simp only [List.flatMap_cons, List.length_append]
    rw [ih]
    by_cases hc : v.category = 2
    · simp [hc]
    · simp [hc]
theorem xk_entG (as : List Value) (k : Nat) : ∀ (i : Nat) (v : Value), (xk_ent as ++ List.replicate k xk_dd)[i]? = some v → v ≠ xk_dd → (lg_sl as ++ List.replicate k Slot.unset)[i]? = some (.val v) := by
  induction as with
  | nil =>
    intro i v h hv
    simp only [xk_ent, List.flatMap_nil, List.nil_append, List.getElem?_replicate] at h
    split at h
    · cases h; exact absurd rfl hv
    · cases h
  | cons w as ih =>
    intro i v h hv
    unfold xk_ent lg_sl at *
    simp only [List.flatMap_cons, List.append_assoc] at h ⊢
    by_cases hc : w.category = 2
    · simp only [hc, if_true, List.cons_append, List.nil_append] at h ⊢
      match i with
      | 0 => simp at h ⊢; exact h
      | 1 => simp at h; exact absurd h.symm hv
      | i + 2 => simp at h ⊢; exact ih i v h hv
    · simp only [hc, if_false, List.cons_append, List.nil_append] at h ⊢
      match i with
      | 0 => simp at h ⊢; exact h
      | i + 1 => simp at h ⊢; exact ih i v h hv
theorem xk_entRL {y : Nat} {as : List Value} (h : (xk_ent as).length ≤ xk_nL y) : xk_RL ((lg_sl as ++ List.replicate (xk_nL y - (lg_sl as).length) Slot.unset).toArray) (xk_env y as) := by
  have h0 := lv_entry as (n := xk_nL y) (by rw [xk_entL]; exact h)
  refine ⟨?_, h0.2.1, fun i v hi hv _ => ?_⟩
  · rw [h0.1]
    unfold xk_env
    rw [List.length_append, List.length_replicate]; omega
  · unfold xk_env at hi
    have := xk_entG as _ i v hi hv
    rw [xk_entL]
    simpa using this
set_option maxHeartbeats 4000000 in
theorem xk_sim {l : Launch} {D : va_G} {aC : Nat → ClassId} {B0 SA VA : Nat} (hNat : ∀ d, 8 ≤ d → ∀ z as σ r σ', 900 ≤ z → xk_natM z as σ = some (r, σ') → σ.2.2.2 = SA → xk_Met l D aC B0 SA VA (d + 1) z as σ r σ') :
    ∀ (d n y : Nat) (as : List Value) (σ : xk_S) (r : Option Value) (σ' : xk_S), xk_M d n y as σ = some (r, σ') → σ.2.2.2 = SA → xk_Met l D aC B0 SA VA d y as σ r σ' := by
  intro d
  induction d with
  | zero => intro n y as σ r σ' h; cases h
  | succ d ih =>
    intro n y as σ r σ' h hSA
    unfold xk_M at h
    split at h
    · rename_i h9
      split at h <;> (try (cases h; done))
      rename_i h8
      exact hNat d h8 y as σ r σ' h9 h hSA
    · rename_i h9
      split at h <;> (try (cases h; done))
      rename_i hlen
      cases hmt : xk_mt y with
      | none =>
        exfalso
        cases n with
        | zero => cases h
        | succ n =>
          unfold xk_run at h
          have hc : xk_code y = ⟨#[]⟩ := by unfold xk_code; rw [hmt]; rfl
          have : xk_ins y 0 = none := by
            unfold xk_ins
            rw [hc]
            decide +kernel
          rw [this] at h
          cases h
      | some em =>
        obtain ⟨o, b1, b2, b3, b4, b5, b6, b7, b8, b9, b10, b11⟩ := xk_mt_ok hmt
        have hmi := xk_mi_of hmt
        have hcode : xk_code y = em.2.2.1 := by unfold xk_code; rw [hmt]; rfl
        have hnL : xk_nL y = em.2.2.2.1 := by unfold xk_nL; rw [hmt]; rfl
        have hown' : xk_own y = em.1 := by unfold xk_own; rw [hmt]; rfl
        have hrt : xk_rt y = em.2.2.2.2.1 := by unfold xk_rt; rw [hmt]; rfl
        have hnm : xk_nm y = em.2.1 := xk_nm_of hmt
        unfold xk_Met
        rw [hmi]
        have hws : xk_ws y = .code em.2.1 em.2.2.1 em.2.2.2.1 em.2.2.2.2.1 :: xk_WA := by unfold xk_ws; rw [hmi]
        refine Met.ofW (cc := em.2.2.1) (maxL := em.2.2.2.1) (ret := em.2.2.2.2.1) (ws' := xk_WA) b6 hws ?_
        intro p e s m args below meth c s₁ B hml hv
        obtain ⟨rfl, hE, hH⟩ := hv
        have hts := atoms_spec (ws := xk_ws y) B.pre
        have hr := B.returns
        have hlocks := B.notSynchronized
        have hfin : xk_ini y = true → meth.name = "<init>" := fun hi => by
          have := (name_of_methodNamed B.named B.method).1
          rw [this]
          unfold xk_ini at hi
          rw [hnm] at hi
          exact of_decide_eq_true hi
        have hown : s.vm.findClass o = some m.cls := by
          have := findClass_of_methodNamed B.named
          rw [b2] at this
          exact this
        have hRL := xk_entRL hlen
        rw [hnL] at hRL
        rw [lg_entry_eq]
        generalize (lg_sl as ++ List.replicate (em.2.2.2.1 - (lg_sl as).length) Slot.unset).toArray = ls at hRL ⊢
        have hx := B.exec
        have hb := B.bytes
        have hTs : ∀ w ∈ xk_WA, w ∈ xk_ws y := fun w hw => by rw [hws]; exact List.mem_cons_of_mem _ hw
        have henv : (xk_env y as).length = c.maxLocals := by
          unfold xk_env
          rw [List.length_append, List.length_replicate, hml, hnL]
          rw [hnL] at hlen
          omega
        have key := xk_run_sim (p := p) (l := l) (e := e) (R := (headSpec (xk_ws y) (xk_rm (d + 1) σ σ')).room) (s := s) (m := m) (args := as.toArray) (below := below) (meth := meth) (c := c) (y := y) (d := d) (own := o) (Ts := xk_ws y) (r := r) (σf := σ') (N0 := σ.2.1) (S0 := σ.2.2.1)
          (Qf := MQ below (xk_Qc D aC B0 r σ') as.toArray s (σ'.2.1 - σ.2.1) (σ'.2.2.1 - σ.2.2.1) (fun q => B0 ≤ q)) hx (by rw [hcode]; exact hb) (by rw [hown']; exact b1) hown hTs hts hE hfin (fun n z as σ r σ' hm hs => ih n z as σ r σ' hm hs) (Nat.le_refl _) (by show 100 * d + 100 ≤ 100 * (d + 1); omega) (Nat.le_refl _) (Nat.le_refl _) ?_ n 0 (xk_env y as) [] σ h (Nat.le_refl _) (Nat.le_refl _) hSA henv s.heap [] ls hH ⟨fun _ _ => rfl, fun _ h => by cases h⟩ hRL
        · rw [Nat.sub_self, Nat.sub_self] at key
          exact key
        · intro H locs ls pc len i st hH2 hF2 hd hret
          rw [hcode] at hd
          unfold xk_ret at hret
          split at hret <;> (try (cases hret; done))
          · split at hret <;> (try (cases hret; done))
            rename_i v ty hty
            split at hret <;> (try (cases hret; done))
            rename_i hc
            obtain ⟨rfl, hn⟩ := hc
            cases hret
            rw [hrt] at hty
            exact W.zret hx hb (hr.trans hty) hn (fun t ht hW => ⟨rfl, by rw [ht]; exact hH2, fun q hq => by rw [ht]; exact hF2.1 q hq⟩) hF2.2 hd
          · split at hret <;> (try (cases hret; done))
            split at hret <;> (try (cases hret; done))
            rename_i hc
            obtain ⟨rfl, hty⟩ := hc
            cases hret
            rw [hrt] at hty
            exact W.lret hx hb (hr.trans hty) (fun t ht hW => ⟨rfl, by rw [ht]; exact hH2, fun q hq => by rw [ht]; exact hF2.1 q hq⟩) hF2.2 hd
          · split at hret <;> (try (cases hret; done))
            split at hret <;> (try (cases hret; done))
            rename_i hc
            obtain ⟨rfl, hty⟩ := hc
            cases hret
            rw [hrt] at hty
            exact W.vret hx hb (hr.trans hty) (fun t ht hW => ⟨rfl, by rw [ht]; exact hH2, fun q hq => by rw [ht]; exact hF2.1 q hq⟩) hF2.2 hd
