/-! the tables hold: each entry of 01.names is a word of the claim's tables -/
def xk_WA : List Cond := lw_tbl.filter goodWord
theorem xk_WA_of {w : Cond} {i : Nat} (h : lw_tbl[i]? = some w) (hg : goodWord w = true) : w ∈ xk_WA := List.mem_filter.mpr ⟨List.mem_of_getElem? h, hg⟩
theorem xk_WA_good {w : Cond} (h : w ∈ xk_WA) : goodWord w = true := (List.mem_filter.mp h).2
theorem xk_WA_tbl {w : Cond} (h : w ∈ xk_WA) : w ∈ lw_tbl := (List.mem_filter.mp h).1
set_option maxRecDepth 100000 in
theorem xk_fl_ok : xk_fl.all (fun e => match xk_cl[e.2.1]?, xk_RN[e.1 / 1000]? with
  | some r, some o => decide (e.2.2.1 < r.2.2) && decide ((r.2.1 e.2.2.1).1 = r.1) && decide (lw_tbl[e.2.2.2]? = some (.fieldLink o (e.1 % 1000) r.1 (r.2.1 e.2.2.1).2.1 (r.2.1 e.2.2.1).2.2.1)) && goodWord (.fieldLink o (e.1 % 1000) r.1 (r.2.1 e.2.2.1).2.1 (r.2.1 e.2.2.1).2.2.1)
  | _, _ => false) = true := by decide +kernel
set_option maxRecDepth 100000 in
theorem xk_ml_ok : xk_ml.all (fun e => match xk_mt e.2.1, xk_RN[e.1 / 1000]? with
  | some r, some o => if e.2.2.2 = true then decide (lw_tbl[e.2.2.1]? = some (.methodLinkNest o (e.1 % 1000) r.2.1 "OnePen")) else decide (lw_tbl[e.2.2.1]? = some (.methodLink o (e.1 % 1000) r.2.1)) && goodWord (.methodLink o (e.1 % 1000) r.2.1)
  | _, _ => false) = true := by decide +kernel
set_option maxRecDepth 100000 in
theorem xk_kl_ok : xk_kl.all (fun e => match xk_cl[e.2.1]?, xk_RN[e.1 / 1000]? with
  | some r, some o => decide (lw_tbl[e.2.2]? = some (.classLink o (e.1 % 1000) r.1)) && goodWord (.classLink o (e.1 % 1000) r.1)
  | _, _ => false) = true := by decide +kernel
set_option maxRecDepth 100000 in
theorem xk_il_ok : xk_il.all (fun e => match xk_RN[e.1 / 1000]? with
  | some o => decide (lw_tbl[e.2.2]? = some (.constant o (e.1 % 1000) e.2.1)) && goodWord (.constant o (e.1 % 1000) e.2.1)
  | _ => false) = true := by decide +kernel
set_option maxRecDepth 100000 in
theorem xk_jl_ok : xk_jl.all (fun e => match xk_RN[e.1 / 1000]? with
  | some o => decide (lw_tbl[e.2.2]? = some (.constantLong o (e.1 % 1000) e.2.1)) && goodWord (.constantLong o (e.1 % 1000) e.2.1)
  | _ => false) = true := by decide +kernel
set_option maxRecDepth 100000 in
theorem xk_ol_ok : xk_ol.all (fun e => match xk_RN[e.1 / 1000]? with
  | some o => decide (lw_tbl[e.2]? = some (.methodLink o (e.1 % 1000) Lib.objectInit)) && goodWord (.methodLink o (e.1 % 1000) Lib.objectInit)
  | _ => false) = true := by decide +kernel
set_option maxRecDepth 100000 in
theorem xk_pl_ok : (xk_mtL.zip xk_pl).all (fun e => match xk_RN[e.1.1]? with
  | some o => decide (e.1.2.1.cls = o) && decide (e.1.2.1.cls ≠ "java/lang/invoke/MethodHandle") && decide (e.1.2.1.cls ≠ "java/lang/invoke/VarHandle") && decide ((parseMethodDescriptor e.1.2.1.desc).map (fun d => d.parameters.length) = some e.1.2.2.2.2.2.2) && plainName e.1.2.1.cls && decide (e.1.2.2.2.1 ≤ 40)
    && decide (lw_tbl[e.2.2.1]? = some (.initialized o)) && goodWord (.initialized o)
    && (if e.1.2.2.2.2.2.1 = true then decide (lw_tbl[e.2.1]? = some (.static e.1.2.1)) && goodWord (.static e.1.2.1) else decide (lw_tbl[e.2.1]? = some (.instanceMethod e.1.2.1)) && goodWord (.instanceMethod e.1.2.1) && (decide (e.1.2.1.name = "<init>") || (decide (lw_tbl[e.2.2.2]? = some (.selects o e.1.2.1 e.1.2.1)) && goodWord (.selects o e.1.2.1 e.1.2.1))))
  | _ => false) = true := by decide +kernel
theorem xk_pl_len : xk_pl.length = xk_mtL.length := by decide +kernel
set_option maxRecDepth 100000 in
theorem xk_cl_in0 : xk_cl.flatMap (fun r => u_ws r.1 r.2.1 r.2.2) = xk_lp.filterMap (fun i => lw_tbl[i]?) := by decide +kernel
set_option maxRecDepth 100000 in
theorem xk_cl_in1 : (xk_cl.flatMap (fun r => u_ws r.1 r.2.1 r.2.2)).all goodWord = true := by decide +kernel
theorem xk_cl_in {r : vw_C} (hr : r ∈ xk_cl) : ∀ w ∈ u_ws r.1 r.2.1 r.2.2, w ∈ xk_WA := by
  intro w hw
  have h1 : w ∈ xk_cl.flatMap (fun r => u_ws r.1 r.2.1 r.2.2) := List.mem_flatMap.mpr ⟨r, hr, hw⟩
  have h2 := List.all_eq_true.mp xk_cl_in1 w h1
  rw [xk_cl_in0] at h1
  obtain ⟨i, -, hi⟩ := List.mem_filterMap.mp h1
  exact xk_WA_of hi h2
set_option maxRecDepth 100000 in
theorem xk_insta_ok : (xk_cl.zip xk_insta).all (fun e => decide (lw_tbl[e.2]? = some (.instantiable e.1.1 e.1.2.2)) && goodWord (.instantiable e.1.1 e.1.2.2)) = true := by decide +kernel
def xk_ty (ci k : Nat) : FieldType := ((xk_tyL[ci]?).getD (fun _ => .int)) k
theorem xk_ty_ok : ∀ ci, ci < 13 → ∀ k, k < ((xk_cl[ci]?).map (fun r => r.2.2)).getD 0 → parseFieldDescriptor (((xk_cl[ci]?).map (fun r => r.2.1 k)).getD ("", "", "", false)).2.2.1 = some (xk_ty ci k) := by decide +kernel
theorem xk_nm_ok : ∀ r ∈ xk_cl, ∀ a, a < r.2.2 → ∀ b, b < r.2.2 → a ≠ b → (r.2.1 a).2.1 ≠ (r.2.1 b).2.1 := by decide +kernel
theorem xk_memdec (w : Cond) (h : (decide (w ∈ lw_tbl) && goodWord w) = true) : w ∈ xk_WA := by
  simp only [Bool.and_eq_true, decide_eq_true_eq] at h
  exact List.mem_filter.mpr h
theorem xk_obj1 : Cond.instanceMethod Lib.objectInit ∈ xk_WA := xk_memdec _ (by decide +kernel)
theorem xk_obj2 : Cond.code Lib.objectInit ⟨#[0xb1]⟩ 1 none ∈ xk_WA := xk_memdec _ (by decide +kernel)
theorem xk_arrI : Cond.arrayClass .int ∈ xk_WA := xk_memdec _ (by decide +kernel)
theorem xk_arrB : Cond.arrayClass .byte ∈ xk_WA := xk_memdec _ (by decide +kernel)
theorem xk_arrZ : Cond.arrayClass .boolean ∈ xk_WA := xk_memdec _ (by decide +kernel)
theorem xk_arrJ : Cond.arrayClass .long ∈ xk_WA := xk_memdec _ (by decide +kernel)
theorem xk_overR : Cond.arrayOver (.object "OnePen$Rule") ∈ lw_tbl := by decide +kernel
theorem xk_overK : Cond.arrayOver (.object "OnePen$Desk") ∈ lw_tbl := by decide +kernel
theorem xk_overD : Cond.arrayOver (.object "OnePen$Day") ∈ lw_tbl := by decide +kernel
def xk_mname (k : Nat) : MethodName := if k = 0 then Lib.Math.abs.name else if k = 1 then Lib.Math.max.name else Lib.Math.min.name
set_option maxRecDepth 100000 in
theorem xk_ql_ok : xk_ql.all (fun e => match xk_RN[e.1 / 1000]? with
  | some o => decide (lw_tbl[e.2.2]? = some (.methodLink o (e.1 % 1000) (xk_mname e.2.1))) && goodWord (.methodLink o (e.1 % 1000) (xk_mname e.2.1))
  | _ => false) = true := by decide +kernel
theorem xk_math : ∀ k, k < 3 → Cond.static (xk_mname k) ∈ xk_WA := fun k hk => xk_memdec _ (by
  match k, hk with
  | 0, _ => decide +kernel
  | 1, _ => decide +kernel
  | 2, _ => decide +kernel)
theorem xk_mathI : Cond.initialized "java/lang/Math" ∈ xk_WA := xk_memdec _ (by decide +kernel)
theorem xk_math0 : Cond.code Lib.Math.abs.name Lib.Math.abs.code 1 (some .int) ∈ xk_WA := xk_memdec _ (by decide +kernel)
theorem xk_math1 : Cond.code Lib.Math.max.name Lib.Math.max.code 2 (some .int) ∈ xk_WA := xk_memdec _ (by decide +kernel)
theorem xk_math2 : Cond.code Lib.Math.min.name Lib.Math.min.code 2 (some .int) ∈ xk_WA := xk_memdec _ (by decide +kernel)
