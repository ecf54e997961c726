section XKH2
variable {p : Program} {l : Launch} {e : Env} {R : Room} {s : State} {m : MethodId} {args : Array Value} {below : List Frame} {meth : Method} {c : Code} {H : Heap} {locs : List Loc} {cells slots : Nat} {Q : State → Prop}
variable {cc : ByteArray} {pc : Nat} {ls : Array Slot} {D : va_G} {aC : Nat → ClassId} {B0 : Nat}
theorem xk_Wcs {g : JFrame} {k n : Nat} (h1 : cells = k) (h2 : slots = n) (kk : W p l e R s m args below meth c H locs k n Q g) : W p l e R s m args below meth c H locs cells slots Q g := by
  subst h1; subst h2; exact kk
theorem xk_rk_ok {ci t : Nat} (h : xk_rk ci = some t) : (ci = 7 ∧ t = 4) ∨ (ci = 1 ∧ t = 5) ∨ (ci = 0 ∧ t = 6) := by
  unfold xk_rk at h
  split at h
  · cases h; omega
  · split at h
    · cases h; omega
    · split at h
      · cases h; omega
      · cases h
theorem xk_rk_cl {ci t : Nat} (h : xk_rk ci = some t) : ∃ r : vw_C, xk_cl[ci]? = some r ∧ (xk_tys aC)[t]? = some (aC t, .object r.1) ∧ r.1 ∈ ["OnePen$Rule", "OnePen$Desk", "OnePen$Day"] := by
  rcases xk_rk_ok h with ⟨rfl, rfl⟩ | ⟨rfl, rfl⟩ | ⟨rfl, rfl⟩
  · exact ⟨_, rfl, rfl, by decide⟩
  · exact ⟨_, rfl, rfl, by decide⟩
  · exact ⟨_, rfl, rfl, by decide⟩
theorem xk_dv_at {ci j : Nat} {r : vw_C} (hr : xk_cl[ci]? = some r) (hj : j < r.2.2) : defaultValue (xk_ty ci j) = vp_V (xk_dv ci) j := by
  have hn : xk_nf ci = r.2.2 := by unfold xk_nf; rw [hr]; rfl
  unfold vp_V xk_dv
  rw [List.getD_eq_getElem?_getD, List.getElem?_map, List.getElem?_range (by omega)]
  rfl
set_option maxHeartbeats 4000000 in
theorem xk_w_heap (hx : p.tables.exec = Jvm.exec) (hb : c.code = cc) (hml : ls.size = c.maxLocals) {o : Nat} {own : String} (ho : xk_RN[o]? = some own) (hown : s.vm.findClass own = some m.cls) (hts : ∀ w ∈ xk_WA, w.before args s = true) (hK : va_K D xk_cl (xk_tys aC) s) {ini : Bool} (hini : ini = true → meth.name = "<init>")
    (hO : ∀ C ∈ ["OnePen$Rule", "OnePen$Desk", "OnePen$Day"], va_AO C s) {SA : Nat} (hZ : vk_R "OnePen$Text" 49 xk_txt SA s) {σ σ' : xk_S} (hSA : σ.2.2.2 = SA) (hH : xk_HR D aC B0 σ H) (hF : xk_Fr B0 s.heap H locs) {i : Instr} {len : Nat} {st st' : List Value} (h : xk_heap o ini i len st σ = some (st', σ')) (hd : decode cc pc = .ok (i, len))
    {N0 S0 : Nat} (hN0 : N0 ≤ σ.2.1) (hS0 : S0 ≤ σ.2.2.1) (hRc : σ'.2.1 - N0 ≤ R.cells) (hRs : σ'.2.2.1 - S0 ≤ R.slots) (hfr : 1 ≤ R.frames) (hlo : 30 ≤ R.locals)
    (k : ∀ (H1 : Heap) (locs1 : List Loc), xk_HR D aC B0 σ' H1 → xk_Fr B0 s.heap H1 locs1 → W p l e R s m args below meth c H1 locs1 (σ'.2.1 - N0) (σ'.2.2.1 - S0) Q (F0 m (pc + len) ls st')) : W p l e R s m args below meth c H locs (σ.2.1 - N0) (σ.2.2.1 - S0) Q (F0 m pc ls st) := by
  have hsz := hH.1
  have hB := hH.2.1
  unfold xk_heap at h
  split at h <;> (try (cases h; done))
  · -- getfield
    split at h <;> (try (cases h; done))
    split at h <;> (try (cases h; done))
    rename_i hf ha
    split at h <;> (try (cases h; done))
    rename_i hc
    obtain ⟨rfl, rfl⟩ := hc
    obtain ⟨v, hv, h3⟩ := Option.map_eq_some_iff.mp h
    cases h3
    exact xk_w_getf hx hb ho hown hts hK hH hf ha hv hd (k H locs hH hF)
  · -- putfield
    split at h <;> (try (cases h; done))
    split at h <;> (try (cases h; done))
    rename_i hf ha
    split at h <;> (try (cases h; done))
    rename_i hc
    obtain ⟨rfl, rfl, h1, h2, h3, h4⟩ := hc
    cases h
    exact xk_w_putf hx hb ho hown hts hK hini hH hf ha h1 h2 h3 h4 hd (fun H1 i hH1 oq => k H1 _ hH1 (hF.put (hH.in (xk_no_obj ha (by obtain ⟨r, hr, -⟩ := xk_fld_ok hf ho; exact xk_cl_lt hr))).1 oq))
  · -- iaload
    split at h <;> (try (cases h; done))
    split at h <;> (try (cases h; done))
    rename_i ha
    split at h <;> (try (cases h; done))
    rename_i hc
    obtain ⟨rfl, rfl, hin⟩ := hc
    cases h
    exact va_iald (cl := xk_cl) hx hb hK (xk_one hH ha) 0 0 rfl rfl hin hd (k H locs hH hF)
  · -- baload
    split at h <;> (try (cases h; done))
    split at h <;> (try (cases h; done))
    rename_i ha
    split at h <;> (try (cases h; done))
    rename_i hc
    obtain ⟨rfl, ht, hin⟩ := hc
    cases h
    rcases ht with rfl | rfl
    · exact va_bald (cl := xk_cl) hx hb hK (xk_one hH ha) 0 1 rfl rfl hin hd (k H locs hH hF)
    · exact va_zald (cl := xk_cl) hx hb hK (xk_one hH ha) 0 2 rfl rfl hin hd (k H locs hH hF)
  · -- laload
    split at h <;> (try (cases h; done))
    split at h <;> (try (cases h; done))
    rename_i ha
    split at h <;> (try (cases h; done))
    rename_i hc
    obtain ⟨rfl, rfl, hin⟩ := hc
    cases h
    exact va_lald (cl := xk_cl) hx hb hK (xk_one hH ha) 0 3 rfl rfl hin hd (k H locs hH hF)
  · -- aaload
    split at h <;> (try (cases h; done))
    split at h <;> (try (cases h; done))
    rename_i ha
    split at h <;> (try (cases h; done))
    rename_i hc
    obtain ⟨rfl, ht, hin⟩ := hc
    cases h
    rcases ht with rfl | rfl | rfl
    · exact va_aldq (cl := xk_cl) (C := "OnePen$Rule") hx hb hK (xk_one hH ha) 0 4 rfl rfl hin hd (k H locs hH hF)
    · exact va_aldq (cl := xk_cl) (C := "OnePen$Desk") hx hb hK (xk_one hH ha) 0 5 rfl rfl hin hd (k H locs hH hF)
    · exact va_aldq (cl := xk_cl) (C := "OnePen$Day") hx hb hK (xk_one hH ha) 0 6 rfl rfl hin hd (k H locs hH hF)
  · -- iastore
    split at h <;> (try (cases h; done))
    split at h <;> (try (cases h; done))
    rename_i x j a st2 _ t n g ha
    split at h <;> (try (cases h; done))
    rename_i hc
    obtain ⟨rfl, rfl, hin⟩ := hc
    cases h
    refine W.iast hx hb (xk_arr_at hH ha) ((hK.2 0 _ rfl).1 n (fun j => .int (g j))) (fun q => by cases q) (by show ¬ (j < 0 ∨ (arrV _ _ _).slots.size ≤ _); rw [arrV_size]; exact hin) rfl rfl hd fun H1 e z oq => k H1 _ (hH.put (xk_no_arr ha) ?_ z oq) (hF.put (hH.in (xk_no_arr ha)).1 oq)
    show H1[a]? = some (vp_cell (aC 0) (n, .inl _))
    rw [e, vp_cell_i, vp_cell_i, arrV_store, xk_upF g .int]
  · -- bastore
    split at h <;> (try (cases h; done))
    split at h <;> (try (cases h; done))
    rename_i x j a st2 _ t n g ha
    split at h
    · rename_i hc
      obtain ⟨rfl, rfl, hin⟩ := hc
      cases h
      refine W.bast hx hb (xk_arr_at hH ha) ((hK.2 1 _ rfl).1 n (fun j => .int (g j))) (fun q => by cases q) (by show ¬ (j < 0 ∨ (arrV _ _ _).slots.size ≤ _); rw [arrV_size]; exact hin) rfl rfl hd fun H1 e z oq => k H1 _ (hH.put (xk_no_arr ha) ?_ z oq) (hF.put (hH.in (xk_no_arr ha)).1 oq)
      show H1[a]? = some (vp_cell (aC 1) (n, .inl _))
      rw [e, vp_cell_i, vp_cell_i, arrV_store]
      exact congrArg (fun f => some (arrV (aC 1) n f)) (xk_upF g .int _ _)
    · split at h <;> (try (cases h; done))
      rename_i hc
      obtain ⟨rfl, rfl, hin⟩ := hc
      cases h
      refine W.zast hx hb (xk_arr_at hH ha) ((hK.2 2 _ rfl).1 n (fun j => .int (g j))) (fun q => by cases q) (by show ¬ (j < 0 ∨ (arrV _ _ _).slots.size ≤ _); rw [arrV_size]; exact hin) rfl rfl hd fun H1 e z oq => k H1 _ (hH.put (xk_no_arr ha) ?_ z oq) (hF.put (hH.in (xk_no_arr ha)).1 oq)
      show H1[a]? = some (vp_cell (aC 2) (n, .inl _))
      rw [e, vp_cell_i, vp_cell_i, arrV_store]
      exact congrArg (fun f => some (arrV (aC 2) n f)) (xk_upF g .int _ _)
  · -- lastore
    split at h <;> (try (cases h; done))
    split at h <;> (try (cases h; done))
    rename_i x j a st2 _ t n g ha
    split at h <;> (try (cases h; done))
    rename_i hc
    obtain ⟨rfl, rfl, hin⟩ := hc
    cases h
    refine W.last hx hb (xk_arr_at hH ha) ((hK.2 3 _ rfl).1 n (fun j => .long (g j))) (fun q => by cases q) (by show ¬ (j < 0 ∨ (arrV _ _ _).slots.size ≤ _); rw [arrV_size]; exact hin) rfl rfl hd fun H1 e z oq => k H1 _ (hH.put (xk_no_arr ha) ?_ z oq) (hF.put (hH.in (xk_no_arr ha)).1 oq)
    show H1[a]? = some (vp_cell (aC 3) (n, .inr (.inl _)))
    rw [e, vp_cell_l, vp_cell_l, arrV_store, xk_upF g .long]
  · -- aastore
    split at h <;> (try (cases h; done))
    split at h <;> (try (cases h; done))
    rename_i v j a st2 _ _ t n g cv fv ha hv
    split at h <;> (try (cases h; done))
    rename_i hc
    obtain ⟨rfl, hrk, hin⟩ := hc
    cases h
    obtain ⟨r, hr, htys, -⟩ := xk_rk_cl (aC := aC) hrk
    have hatv := hH.at (xk_no_obj hv (xk_cl_lt hr))
    rw [hv] at hatv
    obtain ⟨r2, hr2, cellV, g1, g2, g3, -⟩ := hatv
    have hcls := (hK.1 cv r hr).2
    obtain ⟨kA, comp, k1, k2, k3, -⟩ := (hK.2 t _ htys).2
    have hcomp : comp = D.1 cv := Option.some.inj (k3.symm.trans hcls.1)
    subst hcomp
    have hcls2 := hcls
    obtain ⟨kC, hkC, -⟩ := hcls.2
    have hlt : j.toNatClampNeg < n := Nat.not_le.mp fun q => hin (Or.inr q)
    refine W.aast hx hb (xk_arr_at hH ha) (fun q h => by cases h) (fun h => by cases h) k1 k2 rfl hkC ⟨fun q => hin (Or.inl q), by show _ < (arrV _ _ _).slots.size; rw [arrV_size]; exact hlt⟩ g1 (fun q h => by rw [g3] at h; cases h) (by rw [g2]; exact hkC) (by rw [g2]; exact va_assign hcls2) rfl rfl hd fun H1 e z oq => k H1 _ (hH.put (xk_no_arr ha) ?_ z oq) (hF.put (hH.in (xk_no_arr ha)).1 oq)
    show H1[a]? = some (vp_cell (aC t) (n, .inr (.inr (.inr (.inr _)))))
    rw [e, vp_cell_q, vp_cell_q, arrV_store]
    exact congrArg (fun f => some (arrV (aC t) n f)) (xk_upF g va_rf _ (some v))
  · -- arraylength
    split at h <;> (try (cases h; done))
    split at h <;> (try (cases h; done))
    rename_i a st2 _ t x ha
    split at h <;> (try (cases h; done))
    rename_i hc
    obtain ⟨rfl, ht⟩ := hc
    cases h
    have htt : ∃ ty, (xk_tys aC)[t]? = some (aC t, ty) := by
      match t, ht with
      | 0, _ => exact ⟨_, rfl⟩
      | 1, _ => exact ⟨_, rfl⟩
      | 2, _ => exact ⟨_, rfl⟩
      | 3, _ => exact ⟨_, rfl⟩
      | 4, _ => exact ⟨_, rfl⟩
      | 5, _ => exact ⟨_, rfl⟩
      | 6, _ => exact ⟨_, rfl⟩
    obtain ⟨ty, hty⟩ := htt
    exact va_alen (cl := xk_cl) hx hb hK (xk_one hH ha) 0 t rfl hty rfl hd (k H locs hH hF)
  · -- new
    split at h <;> (try (cases h; done))
    rename_i idx ci hk
    split at h <;> (try (cases h; done))
    rename_i hlen
    subst hlen
    cases h
    obtain ⟨⟨C, T, N⟩, hr, hw⟩ := xk_kls_ok hk ho
    have hn : xk_nf ci = N := by unfold xk_nf; rw [hr]; rfl
    obtain ⟨hi1, hi2⟩ := xk_insta_at hr
    have hKn := hK.1 ci _ hr
    have hRc : σ.2.1 + 1 - N0 ≤ R.cells := hRc
    have hRs : σ.2.2.1 + xk_nf ci - S0 ≤ R.slots := hRs
    refine W.newcK (n := N) hx hb hown (hts _ hw) (hts _ hi1) (hts _ hi2) rfl hd (by omega) (by omega) hKn.2.1 hsz fun H1 kC hkC e1 z1 o1 => ?_
    refine xk_Wcs (k := σ.2.1 + 1 - N0) (n := σ.2.2.1 + xk_nf ci - S0) (by omega) (by omega) ?_
    refine k H1 locs (hH.new ?_ (by rw [z1, hsz]) (fun q hq => o1 q (by rw [← hsz]; exact hq))) (hF.new (by rw [hsz]; exact hB) (fun q hq => o1 q (by rw [← hsz]; exact hq)))
    exact ⟨_, hr, (u_born (xk_ty ci) hts (xk_cl_in (List.mem_of_getElem? hr)) hKn hkC e1 (fun k hk => xk_ty_at hr hk)).to (fun j hj => xk_dv_at hr hj)⟩
  · -- newarray
    split at h <;> (try (cases h; done))
    split at h <;> (try (cases h; done))
    rename_i ty _ n st2 _ t hnk
    split at h <;> (try (cases h; done))
    rename_i hc
    obtain ⟨rfl, hn0, hnb⟩ := hc
    cases h
    have hRc : σ.2.1 + 1 - N0 ≤ R.cells := hRc
    have hRs : σ.2.2.1 + n.toNatClampNeg - S0 ≤ R.slots := hRs
    have key : ∃ fty, newarray.typeOf ty = fty ∧ (Cond.arrayClass (newarray.typeOf ty)).before args s = true ∧ n.toNatClampNeg * componentBytes (newarray.typeOf ty) ≤ 536870912 ∧ s.vm.findClass ("[" ++ (newarray.typeOf ty).toString) = some (aC t) ∧ ∀ N : Nat, vp_cell (aC t) (xk_z t N) = arrV (aC t) N (fun _ => defaultValue (newarray.typeOf ty)) := by
      unfold xk_nk at hnk
      split at hnk <;> (try (cases hnk; done)) <;> cases hnk
      · exact ⟨_, rfl, hts _ xk_arrI, by show _ * 4 ≤ _; omega, (hK.2 0 _ rfl).2, fun N => rfl⟩
      · exact ⟨_, rfl, hts _ xk_arrB, by show _ * 1 ≤ _; omega, (hK.2 1 _ rfl).2, fun N => rfl⟩
      · exact ⟨_, rfl, hts _ xk_arrZ, by show _ * 1 ≤ _; omega, (hK.2 2 _ rfl).2, fun N => rfl⟩
      · exact ⟨_, rfl, hts _ xk_arrJ, by show _ * 8 ≤ _; omega, (hK.2 3 _ rfl).2, fun N => rfl⟩
    obtain ⟨fty, -, hac, hby, hfc, hcell⟩ := key
    refine va_newaK hx hb hac rfl hd rfl hn0 rfl hby (by omega) (by omega) hsz fun H1 cA e1 z1 o1 hAr hnm => ?_
    have hcA : cA = aC t := Option.some.inj (hnm.symm.trans hfc)
    subst hcA
    refine xk_Wcs (k := σ.2.1 + 1 - N0) (n := σ.2.2.1 + n.toNatClampNeg - S0) (by omega) (by omega) ?_
    refine k H1 locs (hH.new ?_ (by rw [z1, hsz]) (fun q hq => o1 q (by rw [← hsz]; exact hq))) (hF.new (by rw [hsz]; exact hB) (fun q hq => o1 q (by rw [← hsz]; exact hq)))
    show H1[σ.2.1]? = some (vp_cell (aC t) (xk_z t n.toNatClampNeg))
    rw [hcell]
    exact e1
  · -- anewarray
    split at h <;> (try (cases h; done))
    split at h <;> (try (cases h; done))
    rename_i idx _ n st2 _ ci hk
    split at h <;> (try (cases h; done))
    rename_i t hrk
    split at h <;> (try (cases h; done))
    rename_i hc
    obtain ⟨rfl, hn0, hnb⟩ := hc
    cases h
    have hRc : σ.2.1 + 1 - N0 ≤ R.cells := hRc
    have hRs : σ.2.2.1 + n.toNatClampNeg - S0 ≤ R.slots := hRs
    obtain ⟨r, hr, hw⟩ := xk_kls_ok hk ho
    obtain ⟨r', hr', htys, hmem⟩ := xk_rk_cl (aC := aC) hrk
    have hrr : r' = r := Option.some.inj (hr'.symm.trans hr)
    subst hrr
    refine W.anew hx hb hown (hts _ hw) (va_AO.use (hO _ hmem)) rfl hd rfl hn0 (by omega) (by omega) (by omega) fun cA kA comp f1 f2 f3 f4 => ?_
    obtain ⟨kA', comp', k1, k2, k3, k4⟩ := (hK.2 t _ htys).2
    have hcA : cA = aC t := Option.some.inj (f1.symm.trans k4)
    subst hcA
    refine xk_Wcs (k := σ.2.1 + 1 - N0) (n := σ.2.2.1 + n.toNatClampNeg - S0) (by omega) (by omega) ?_
    generalize hH1 : H.push ({ cls := aC t, slots := Array.replicate n.toNatClampNeg .null, vm := .none } : Cell) = H1
    have z1 : H1.size = H.size + 1 := by rw [← hH1, Array.size_push]
    have e1 : H1[σ.2.1]? = some (arrV (aC t) n.toNatClampNeg (fun _ => .null)) := by rw [← hH1, ← hsz, Array.getElem?_push_size, ← arrV_new]
    have o1 : ∀ q : Nat, q < H.size → H1[q]? = H[q]? := fun q hq => by rw [← hH1, Array.getElem?_push, if_neg (Nat.ne_of_lt hq)]
    rw [hsz]
    exact k H1 locs (hH.new e1 z1 o1) (hF.new (by rw [hsz]; exact hB) o1)
  · -- invokespecial: Object.<init>
    split at h <;> (try (cases h; done))
    split at h <;> (try (cases h; done))
    rename_i hc
    obtain ⟨rfl, hoi, hsum⟩ := hc
    cases h
    exact W.objInit hx hb hown (hts _ (xk_oin_ok hoi ho)) (hts _ xk_obj1) (hts _ xk_obj2) rfl hml rfl hd hfr (by show 2 * 0 + _ + 12 ≤ _; omega) (k H locs hH hF)
  · -- invokestatic: Math
    split at h <;> (try (cases h; done))
    · rename_i hq
      split at h <;> (try (cases h; done))
      split at h <;> (try (cases h; done))
      rename_i hc
      obtain ⟨rfl, hsum⟩ := hc
      cases h
      exact va_mabs hx hb hml.symm hown (hts _ (xk_mat_ok hq ho)) (hts _ (xk_math 0 (by omega))) (hts _ xk_mathI) (hts _ xk_math0) hfr (by omega) hRc hRs hd (k H locs hH hF)
    · rename_i hq
      split at h <;> (try (cases h; done))
      split at h <;> (try (cases h; done))
      rename_i hc
      obtain ⟨rfl, hsum⟩ := hc
      cases h
      exact va_mmax hx hb hml.symm hown (hts _ (xk_mat_ok hq ho)) (hts _ (xk_math 1 (by omega))) (hts _ xk_mathI) (hts _ xk_math1) hfr (by omega) hRc hRs hd (k H locs hH hF)
    · rename_i hq
      split at h <;> (try (cases h; done))
      split at h <;> (try (cases h; done))
      rename_i hc
      obtain ⟨rfl, hsum⟩ := hc
      cases h
      exact va_mmin hx hb hml.symm hown (hts _ (xk_mat_ok hq ho)) (hts _ (xk_math 2 (by omega))) (hts _ xk_mathI) (hts _ xk_math2) hfr (by omega) hRc hRs hd (k H locs hH hF)
  · -- ldc
    split at h <;> (try (cases h; done))
    rename_i hc
    obtain ⟨rfl, rfl, rfl⟩ := hc
    cases h
    have hon : own = "OnePen$Text" := Option.some.inj (ho.symm.trans (show xk_RN[10]? = some "OnePen$Text" from rfl))
    subst hon
    rw [hSA] at k
    exact va_ldcS hx hb hown hZ hd (k H locs hH hF)
end XKH2
