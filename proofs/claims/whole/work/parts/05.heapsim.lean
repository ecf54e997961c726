/-! the steps on the heap are the machine's -/
section XKH
variable {p : Program} {l : Launch} {e : Env} {R : Room} {s : State} {m : MethodId} {args : Array Value} {below : List Frame} {meth : Method} {c : Code} {H : Heap} {locs : List Loc} {cells slots : Nat} {Q : State → Prop}
variable {cc : ByteArray} {pc : Nat} {ls : Array Slot} {D : va_G} {aC : Nat → ClassId} {B0 : Nat}
theorem xk_arr_at {σ : xk_S} {a t : Nat} {x : vp_A} (h : xk_HR D aC B0 σ H) (ha : σ.1 a = .inl (t, x)) : H[a]? = some (vp_cell (aC t) x) := by
  have h1 := h.at (xk_no_arr ha)
  rw [ha] at h1
  exact h1
theorem xk_one {σ : xk_S} {a t : Nat} {x : vp_A} (h : xk_HR D aC B0 σ H) (ha : σ.1 a = .inl (t, x)) : va_P D xk_cl [(a, .inl (aC t, x))] H := by
  intro k q hk
  have hz : k < 1 := (List.getElem?_eq_some_iff.mp hk).1
  rw [show k = 0 by omega] at hk
  cases hk
  exact xk_arr_at h ha
theorem xk_oneO {σ : xk_S} {a ci : Nat} {fs : List Value} (h : xk_HR D aC B0 σ H) (ha : σ.1 a = .inr (ci, fs)) (hc : ci < 13) : va_P D xk_cl [(a, .inr (ci, fs))] H := by
  intro k q hk
  have hz : k < 1 := (List.getElem?_eq_some_iff.mp hk).1
  rw [show k = 0 by omega] at hk
  cases hk
  have h1 := h.at (xk_no_obj ha hc)
  rw [ha] at h1
  exact h1
theorem xk_w_getf (hx : p.tables.exec = Jvm.exec) (hb : c.code = cc) {o : Nat} {own : String} (ho : xk_RN[o]? = some own) (hown : s.vm.findClass own = some m.cls) (hts : ∀ w ∈ xk_WA, w.before args s = true) (hK : va_K D xk_cl (xk_tys aC) s)
    {σ : xk_S} (hH : xk_HR D aC B0 σ H) {idx ci k a : Nat} {fs st : List Value} {v : Value} (hf : xk_fld o idx = some (ci, k)) (ha : σ.1 a = .inr (ci, fs)) (hv : fs[k]? = some v) (hd : decode cc pc = .ok (.getfield idx, 3))
    (kk : W p l e R s m args below meth c H locs cells slots Q (F0 m (pc + 3) ls (v :: st))) : W p l e R s m args below meth c H locs cells slots Q (F0 m pc ls (.ref a :: st)) := by
  obtain ⟨⟨C, T, N⟩, hr, hk, hT, hw⟩ := xk_fld_ok hf ho
  exact va_get (C := C) (T := T) (N := N) (ref := C) (ci := ci) (D := D) (tys := xk_tys aC) (cl := xk_cl) (ws := [(a, .inr (ci, fs))]) hx hb hts (xk_cl_in (List.mem_of_getElem? hr)) hown hK (xk_oneO hH ha (xk_cl_lt hr)) 0 rfl hr k hk (hts _ hw) (fun x hx2 => by
    have hT : (T k).1 = C := hT
    rw [hT] at hx2; exact hx2) hv hd kk
theorem xk_w_putf (hx : p.tables.exec = Jvm.exec) (hb : c.code = cc) {o : Nat} {own : String} (ho : xk_RN[o]? = some own) (hown : s.vm.findClass own = some m.cls) (hts : ∀ w ∈ xk_WA, w.before args s = true) (hK : va_K D xk_cl (xk_tys aC) s) {ini : Bool} (hini : ini = true → meth.name = "<init>")
    {σ : xk_S} (hH : xk_HR D aC B0 σ H) {idx ci k a : Nat} {fs st : List Value} {v : Value} (hf : xk_fld o idx = some (ci, k)) (ha : σ.1 a = .inr (ci, fs)) (hkl : k < fs.length) (hn : narrow (xk_ty ci k) v = v) (hfit : fits (xk_ty ci k) v = true) (hfin : xk_fin ci k = false ∨ (ini = true ∧ o = ci)) (hd : decode cc pc = .ok (.putfield idx, 3))
    (kk : ∀ (H1 : Heap) (i : Nat), xk_HR D aC B0 (va_up σ.1 a (.inr (ci, fs.set k v)), σ.2) H1 → (∀ q : Nat, q ≠ a → H1[q]? = H[q]?) → W p l e R s m args below meth c H1 (locs ++ [⟨a, i⟩]) cells slots Q (F0 m (pc + 3) ls st)) : W p l e R s m args below meth c H locs cells slots Q (F0 m pc ls (v :: .ref a :: st)) := by
  obtain ⟨⟨C, T, N⟩, hr, hk, hT, hw⟩ := xk_fld_ok hf ho
  have hin := xk_cl_in (List.mem_of_getElem? hr)
  have hk : k < N := hk
  have hT : (T k).1 = C := hT
  have hw : Cond.fieldLink own idx C (T k).2.1 (T k).2.2.1 ∈ xk_WA := hw
  have hlt := xk_cl_lt hr
  have hno := xk_no_obj ha hlt
  have hat := hH.at hno
  rw [ha] at hat
  obtain ⟨r, h1, cell, q1, q2, q3, q4⟩ := hat
  have hrr : r = (C, T, N) := Option.some.inj (h1.symm.trans hr)
  subst hrr
  have hap := va_apart (own := own) (cl := xk_cl) (ci := ci) hts hin (xk_ty ci) (fun k hk => xk_ty_at hr hk) (xk_nm_ok _ (List.mem_of_getElem? hr)) hK hr
  obtain ⟨hS, hfc, kC, hkC, hkind⟩ := hK.1 ci _ hr
  obtain ⟨cf, kf, fi, f, hi, hsl⟩ := hS k hk
  have hlay := hts _ (hin _ (u_in_lay hk))
  have hst := (u_facts hfc hkC (u_lays hts hin hk) hi).1
  have hi2 : s.fieldFound? C (T k).2.1 (T k).2.2.1 = some (cf, kf, fi, f) := by rw [← hT]; exact hi
  have fin : ∀ (H' : Heap), H'[a]? = some (cell.setSlot f.slot v) → H'.size = H.size → (∀ q, q ≠ a → H'[q]? = H[q]?) → W p l e R s m args below meth c H' (locs ++ [⟨a, f.slot⟩]) cells slots Q (F0 m (pc + 3) ls st) := by
    intro H' e1 e2 e3
    rw [hsl] at e1 ⊢
    refine kk H' _ (hH.put hno ?_ e2 e3) e3
    exact ⟨_, hr, t_OB.to (V := updV (vp_V fs) k v) ⟨_, e1, q2, q3, t_set q4 hap hk v⟩ (fun j _ => vp_updV_set hkl v j)⟩
  have hfe : xk_fin ci k = (T k).2.2.2 := by unfold xk_fin; rw [hr]; rfl
  unfold u_lay at hlay
  by_cases hf2 : (T k).2.2.2 = true
  · rw [if_pos hf2] at hlay
    rcases hfin with hfin | ⟨hini2, hoc⟩
    · rw [hfe, hf2] at hfin; cases hfin
    · subst hoc
      have hon : own = C := by
        have : ∀ ci, ci < 13 → (xk_cl[ci]?).map (fun r => r.1) = xk_RN[ci]? := by decide +kernel
        have h2 := this o hlt
        rw [hr, ho] at h2
        exact (Option.some.inj h2).symm
      have hcf : m.cls = cf := by
        obtain ⟨_, _, c', _, _, _, -, -, hf', -, -, -, hown2, -⟩ := Cond.laysFinal_spec hlay
        have e1 : c' = cf := by have := hi.symm.trans hf'; simp at this; exact this.1.symm
        rw [hT, ← hon] at hown2
        rw [← e1]; exact Option.some.inj (hown.symm.trans hown2)
      have h6 := u_fits hfc hkC hkind (Or.inr hlay) hi (xk_ty_at hr hk) hn hfit
      exact W.putFinK hx hb hown (hts _ hw) hi2 hst hcf (hini hini2) (by rw [q2]; exact h6) q1 q3 (by rw [hsl]; exact k2_hasslot (q4 k hk)) rfl rfl hd fin
  · rw [if_neg hf2] at hlay
    have h6 := u_store hfc hkC hkind hlay hi (xk_ty_at hr hk) hn hfit
    exact W.putK hx hb (f := f) ⟨hown, hts _ hw, ⟨_, _, _, hi2⟩, hst⟩ (by rw [q2]; exact h6) q1 q3 (by rw [hsl]; exact k2_hasslot (q4 k hk)) rfl rfl hd fin
theorem xk_upF {α : Type} (f : Nat → α) (mk : α → Value) (k : Nat) (x : α) : updV (fun j => mk (f j)) k (mk x) = fun j => mk (va_up f k x j) := by
  funext j
  by_cases hj : j = k
  · subst hj; simp [updV, va_up]
  · simp [updV, va_up, hj]
end XKH
