/-! what is made: the model -/
def md0 : Md := (fun j => if j = 22 then 63 else 0, fun _ _ => 0, fun _ _ => 0)
theorem dv_12 : xk_dv 12 = [.null, .int (xj 0), .int (xj 0), .null, .null, .null, .null, .null, .int (xj 0), .int (xj 0), .int (xj 0), .int (xj 0), .int (xj 0), .int (xj 0), .int (xj 0), .null, .int (xj 0), .null, .int (xj 0), .null, .null, .int (xj 0), .int (xj 0), .int (xj 0), .int (xj 0), .int (xj 0), .int (xj 0), .null, .int (xj 0), .null, .null, .int (xj 0), .null, .null, .null, .int (xj 0), .int (xj 0), .int (xj 0), .int (xj 0), .null, .int (xj 0), .null, .null, .long 0, .null, .null, .null] := rfl
section XS9e03
variable {D o s t : Nat} {f : Nat → xk_C} {K : Option Value → xk_S → Prop}
theorem i_Mod (hD : 1 ≤ D) (h0 : f o = .inr (12, xk_dv 12)) (hpost : K none (xm f o md0, (o + 23, s + 4928, t))) : xk_Cl D 140 [.ref o] (f, (o + 1, s, t)) K := by
  rw [e140 (by omega)]
  have po : K none (xs f o (xl_M o md0), (o + 23, s + 4928, t)) := hpost
  rw [dv_12] at h0
  rw [← xs_one h0]
  simp (disch := first | omega | (simp only [List.length_cons, List.length_nil] <;> omega)) only [b140_0, b140_1, b140_4, b140_5, b140_8, b140_10, b140_13, b140_14, b140_17, b140_19, b140_22, b140_23, b140_25, b140_27, b140_30, b140_31, b140_34, b140_36, b140_39, b140_40, b140_42, b140_44, b140_47, b140_48, b140_50, b140_52, b140_55, b140_56, b140_59, b140_61, b140_64, b140_65, b140_67, b140_69, b140_72, b140_73, b140_75, b140_77, b140_80, b140_81, b140_83, b140_85, b140_88, b140_89, b140_91, b140_94, b140_95, b140_98, b140_100, b140_103, b140_104, b140_106, b140_108, b140_111, b140_112, b140_114, b140_116, b140_119, b140_120, b140_122, b140_124, b140_127, b140_128, b140_131, b140_133, b140_136, b140_137, b140_139, b140_141, b140_144, b140_145, b140_147, b140_149, b140_152, b140_153, b140_155, b140_157, b140_160, b140_161, b140_163, b140_165, b140_168, b140_169, b140_172, b140_174, b140_177, b140_178, b140_179, b140_181, b140_184, b140_185, b140_186, b140_188, b140_191, List.getElem?_cons_zero, List.getElem?_cons_succ, List.length_cons, List.length_nil, List.set_cons_zero, List.set_cons_succ, true_and, and_true, Option.toList_some, Option.toList_none, List.cons_append, List.nil_append, ↓reduceIte, not_false_eq_true, not_true_eq_false, Nat.reduceAdd, xj0_01, xj1_01, xb_B, xb_True, xb_False, ↓xs_pf, xs_push, ↓ini_z, z_0, z_1, z_2, z_3, xj_nat, Int.toNat_natCast, Int.reduceToNat, Nat.add_assoc]
  exact po
end XS9e03
