/-! the law: its cases, its loop -/
set_option maxRecDepth 20000
section XS9d02
variable {bs a b L i : Nat} {xs : Nat → Int32} {Q : xk_S → Prop} {f : Nat → xk_C} {w : Nat × Nat × Nat} {x : Int32}
theorem rel_a (h : REL f a b) : xk_RC f a 11 := by
  obtain ⟨n, nr, T, ru, S, H, im, I, R, hp, hm, hr, hx⟩ := h
  exact (rc_Pen hp.1).mpr trivial
theorem case_0 (hL : L ≤ 3072) (hi : i + 6 ≤ L) (hab : a + 204 ≤ b) (h : REL f a b) (fin : ∀ f, REL f a b → xk_LB bs L xs 881 [.ref bs, .ref a, .ref b, .int (xj (i : Nat))] [] (f, w) Q) : xk_LB bs L xs 164 [.ref bs, .ref a, .ref b, .int (xj (i : Nat))] [] (f, w) Q := by
  have A := a_feed (D := 200) (w := w) (u1 := yv xs i 1) (u2 := yv xs i 2) (u3 := yv xs i 3) (u4 := yv xs i 4) (u5 := yv xs i 5) (by omega) hab h
  refine lb_pure (show xk_lins 164 = some (.aload_n 1, 1) by decide +kernel) rfl rfl ?_
  refine lb_arg (j := 1) (show xk_lins 165 = some (.aload_n 0, 1) by decide +kernel) (show xk_lins 166 = some (.iload_n 3, 1) by decide +kernel) (show xk_lins 167 = some (.iconst 1, 1) by decide +kernel) (show xk_lins 168 = some (.iadd, 1) by decide +kernel) (show xk_lins 169 = some (.iaload, 1) by decide +kernel) (by decide) hi hL ?_
  refine lb_arg (j := 2) (show xk_lins 170 = some (.aload_n 0, 1) by decide +kernel) (show xk_lins 171 = some (.iload_n 3, 1) by decide +kernel) (show xk_lins 172 = some (.iconst 2, 1) by decide +kernel) (show xk_lins 173 = some (.iadd, 1) by decide +kernel) (show xk_lins 174 = some (.iaload, 1) by decide +kernel) (by decide) hi hL ?_
  refine lb_arg (j := 3) (show xk_lins 175 = some (.aload_n 0, 1) by decide +kernel) (show xk_lins 176 = some (.iload_n 3, 1) by decide +kernel) (show xk_lins 177 = some (.iconst 3, 1) by decide +kernel) (show xk_lins 178 = some (.iadd, 1) by decide +kernel) (show xk_lins 179 = some (.iaload, 1) by decide +kernel) (by decide) hi hL ?_
  refine lb_arg (j := 4) (show xk_lins 180 = some (.aload_n 0, 1) by decide +kernel) (show xk_lins 181 = some (.iload_n 3, 1) by decide +kernel) (show xk_lins 182 = some (.iconst 4, 1) by decide +kernel) (show xk_lins 183 = some (.iadd, 1) by decide +kernel) (show xk_lins 184 = some (.iaload, 1) by decide +kernel) (by decide) hi hL ?_
  refine lb_arg (j := 5) (show xk_lins 185 = some (.aload_n 0, 1) by decide +kernel) (show xk_lins 186 = some (.iload_n 3, 1) by decide +kernel) (show xk_lins 187 = some (.iconst 5, 1) by decide +kernel) (show xk_lins 188 = some (.iadd, 1) by decide +kernel) (show xk_lins 189 = some (.iaload, 1) by decide +kernel) (by decide) hi hL ?_
  refine lb_virt [.int (yv xs i 1), .int (yv xs i 2), .int (yv xs i 3), .int (yv xs i 4), .int (yv xs i 5)] [] (show xk_lins 190 = some (.invokevirtual 13, 3) by decide +kernel) (by decide +kernel) (by decide +kernel) (show xk_mt 99 = some _ from rfl) (by simp) rfl rfl (by decide) (by decide) (by simp [xk_sum, Value.category]) (rel_a h) ?_
  refine xk_Cl_imp ?_ A
  rintro r σ ⟨v, f1, rfl, rfl, rc, k⟩
  show xk_LB bs L xs 193 [.ref bs, .ref a, .ref b, .int (xj (i : Nat))] [.int v] (f1, w) Q
  refine lb_pure (show xk_lins 193 = some (.aload_n 2, 1) by decide +kernel) rfl rfl ?_
  refine lb_arg (j := 1) (show xk_lins 194 = some (.aload_n 0, 1) by decide +kernel) (show xk_lins 195 = some (.iload_n 3, 1) by decide +kernel) (show xk_lins 196 = some (.iconst 1, 1) by decide +kernel) (show xk_lins 197 = some (.iadd, 1) by decide +kernel) (show xk_lins 198 = some (.iaload, 1) by decide +kernel) (by decide) hi hL ?_
  refine lb_arg (j := 2) (show xk_lins 199 = some (.aload_n 0, 1) by decide +kernel) (show xk_lins 200 = some (.iload_n 3, 1) by decide +kernel) (show xk_lins 201 = some (.iconst 2, 1) by decide +kernel) (show xk_lins 202 = some (.iadd, 1) by decide +kernel) (show xk_lins 203 = some (.iaload, 1) by decide +kernel) (by decide) hi hL ?_
  refine lb_arg (j := 3) (show xk_lins 204 = some (.aload_n 0, 1) by decide +kernel) (show xk_lins 205 = some (.iload_n 3, 1) by decide +kernel) (show xk_lins 206 = some (.iconst 3, 1) by decide +kernel) (show xk_lins 207 = some (.iadd, 1) by decide +kernel) (show xk_lins 208 = some (.iaload, 1) by decide +kernel) (by decide) hi hL ?_
  refine lb_arg (j := 4) (show xk_lins 209 = some (.aload_n 0, 1) by decide +kernel) (show xk_lins 210 = some (.iload_n 3, 1) by decide +kernel) (show xk_lins 211 = some (.iconst 4, 1) by decide +kernel) (show xk_lins 212 = some (.iadd, 1) by decide +kernel) (show xk_lins 213 = some (.iaload, 1) by decide +kernel) (by decide) hi hL ?_
  refine lb_arg (j := 5) (show xk_lins 214 = some (.aload_n 0, 1) by decide +kernel) (show xk_lins 215 = some (.iload_n 3, 1) by decide +kernel) (show xk_lins 216 = some (.iconst 5, 1) by decide +kernel) (show xk_lins 217 = some (.iadd, 1) by decide +kernel) (show xk_lins 218 = some (.iaload, 1) by decide +kernel) (by decide) hi hL ?_
  refine lb_virt [.int (yv xs i 1), .int (yv xs i 2), .int (yv xs i 3), .int (yv xs i 4), .int (yv xs i 5)] [.int v] (show xk_lins 219 = some (.invokevirtual 17, 3) by decide +kernel) (by decide +kernel) (by decide +kernel) (show xk_mt 146 = some _ from rfl) (by simp) rfl rfl (by decide) (by decide) (by simp [xk_sum, Value.category]) rc ?_
  refine xk_Cl_imp ?_ k
  rintro r2 σ2 ⟨f2, rfl, rfl, h2⟩
  show xk_LB bs L xs 222 [.ref bs, .ref a, .ref b, .int (xj (i : Nat))] [.int v, .int v] (f2, w) Q
  exact lb_go (st' := []) (tgt := 881) (off := 659) (show xk_lins 222 = some (.if_icmp .eq 659, 3) by decide +kernel) rfl (xk_pure_no rfl rfl (fun _ _ => rfl) (fun _ _ => rfl)) (by simp [xk_br, xk_cmp]) (by decide) (fin f2 h2)
theorem case_1 (hL : L ≤ 3072) (hi : i + 6 ≤ L) (hab : a + 204 ≤ b) (h : REL f a b) (fin : ∀ f, REL f a b → xk_LB bs L xs 881 [.ref bs, .ref a, .ref b, .int (xj (i : Nat))] [] (f, w) Q) : xk_LB bs L xs 227 [.ref bs, .ref a, .ref b, .int (xj (i : Nat))] [] (f, w) Q := by
  have A := a_end (D := 200) (w := w) (x := (yv xs i 1).toInt) (by omega) hab h (ti_lo _) (ti_hi _)
  simp only [xj_ti] at A
  refine lb_pure (show xk_lins 227 = some (.aload_n 1, 1) by decide +kernel) rfl rfl ?_
  refine lb_arg (j := 1) (show xk_lins 228 = some (.aload_n 0, 1) by decide +kernel) (show xk_lins 229 = some (.iload_n 3, 1) by decide +kernel) (show xk_lins 230 = some (.iconst 1, 1) by decide +kernel) (show xk_lins 231 = some (.iadd, 1) by decide +kernel) (show xk_lins 232 = some (.iaload, 1) by decide +kernel) (by decide) hi hL ?_
  refine lb_virt [.int (yv xs i 1)] [] (show xk_lins 233 = some (.invokevirtual 18, 3) by decide +kernel) (by decide +kernel) (by decide +kernel) (show xk_mt 101 = some _ from rfl) (by simp) rfl rfl (by decide) (by decide) (by simp [xk_sum, Value.category]) (rel_a h) ?_
  refine xk_Cl_imp ?_ A
  rintro r σ ⟨v, f1, rfl, rfl, rc, k⟩
  show xk_LB bs L xs 236 [.ref bs, .ref a, .ref b, .int (xj (i : Nat))] [.int v] (f1, w) Q
  refine lb_pure (show xk_lins 236 = some (.aload_n 2, 1) by decide +kernel) rfl rfl ?_
  refine lb_arg (j := 1) (show xk_lins 237 = some (.aload_n 0, 1) by decide +kernel) (show xk_lins 238 = some (.iload_n 3, 1) by decide +kernel) (show xk_lins 239 = some (.iconst 1, 1) by decide +kernel) (show xk_lins 240 = some (.iadd, 1) by decide +kernel) (show xk_lins 241 = some (.iaload, 1) by decide +kernel) (by decide) hi hL ?_
  refine lb_virt [.int (yv xs i 1)] [.int v] (show xk_lins 242 = some (.invokevirtual 22, 3) by decide +kernel) (by decide +kernel) (by decide +kernel) (show xk_mt 147 = some _ from rfl) (by simp) rfl rfl (by decide) (by decide) (by simp [xk_sum, Value.category]) rc ?_
  refine xk_Cl_imp ?_ k
  rintro r2 σ2 ⟨f2, rfl, rfl, h2⟩
  show xk_LB bs L xs 245 [.ref bs, .ref a, .ref b, .int (xj (i : Nat))] [.int v, .int v] (f2, w) Q
  exact lb_go (st' := []) (tgt := 881) (off := 636) (show xk_lins 245 = some (.if_icmp .eq 636, 3) by decide +kernel) rfl (xk_pure_no rfl rfl (fun _ _ => rfl) (fun _ _ => rfl)) (by simp [xk_br, xk_cmp]) (by decide) (fin f2 h2)
theorem case_2 (hL : L ≤ 3072) (hi : i + 6 ≤ L) (hab : a + 204 ≤ b) (h : REL f a b) (fin : ∀ f, REL f a b → xk_LB bs L xs 881 [.ref bs, .ref a, .ref b, .int (xj (i : Nat))] [] (f, w) Q) : xk_LB bs L xs 250 [.ref bs, .ref a, .ref b, .int (xj (i : Nat))] [] (f, w) Q := by
  have A := a_office (D := 200) (w := w) (by omega) hab h
  refine lb_pure (show xk_lins 250 = some (.aload_n 1, 1) by decide +kernel) rfl rfl ?_
  refine lb_virt [] [] (show xk_lins 251 = some (.invokevirtual 23, 3) by decide +kernel) (by decide +kernel) (by decide +kernel) (show xk_mt 102 = some _ from rfl) (by simp) rfl rfl (by decide) (by decide) (by simp [xk_sum, Value.category]) (rel_a h) ?_
  refine xk_Cl_imp ?_ A
  rintro r σ ⟨v, f1, rfl, rfl, rc, k⟩
  show xk_LB bs L xs 254 [.ref bs, .ref a, .ref b, .int (xj (i : Nat))] [.int v] (f1, w) Q
  refine lb_pure (show xk_lins 254 = some (.aload_n 2, 1) by decide +kernel) rfl rfl ?_
  refine lb_virt [] [.int v] (show xk_lins 255 = some (.invokevirtual 27, 3) by decide +kernel) (by decide +kernel) (by decide +kernel) (show xk_mt 182 = some _ from rfl) (by simp) rfl rfl (by decide) (by decide) (by simp [xk_sum, Value.category]) rc ?_
  refine xk_Cl_imp ?_ k
  rintro r2 σ2 ⟨f2, rfl, rfl, h2⟩
  show xk_LB bs L xs 258 [.ref bs, .ref a, .ref b, .int (xj (i : Nat))] [.int v, .int v] (f2, w) Q
  exact lb_go (st' := []) (tgt := 881) (off := 623) (show xk_lins 258 = some (.if_icmp .eq 623, 3) by decide +kernel) rfl (xk_pure_no rfl rfl (fun _ _ => rfl) (fun _ _ => rfl)) (by simp [xk_br, xk_cmp]) (by decide) (fin f2 h2)
theorem case_3 (hL : L ≤ 3072) (hi : i + 6 ≤ L) (hab : a + 204 ≤ b) (h : REL f a b) (fin : ∀ f, REL f a b → xk_LB bs L xs 881 [.ref bs, .ref a, .ref b, .int (xj (i : Nat))] [] (f, w) Q) : xk_LB bs L xs 263 [.ref bs, .ref a, .ref b, .int (xj (i : Nat))] [] (f, w) Q := by
  have A := a_rule (D := 200) (w := w) (by omega) hab h
  refine lb_pure (show xk_lins 263 = some (.aload_n 1, 1) by decide +kernel) rfl rfl ?_
  refine lb_virt [] [] (show xk_lins 264 = some (.invokevirtual 28, 3) by decide +kernel) (by decide +kernel) (by decide +kernel) (show xk_mt 103 = some _ from rfl) (by simp) rfl rfl (by decide) (by decide) (by simp [xk_sum, Value.category]) (rel_a h) ?_
  refine xk_Cl_imp ?_ A
  rintro r σ ⟨v, f1, rfl, rfl, rc, k⟩
  show xk_LB bs L xs 267 [.ref bs, .ref a, .ref b, .int (xj (i : Nat))] [.int v] (f1, w) Q
  refine lb_pure (show xk_lins 267 = some (.aload_n 2, 1) by decide +kernel) rfl rfl ?_
  refine lb_virt [] [.int v] (show xk_lins 268 = some (.invokevirtual 31, 3) by decide +kernel) (by decide +kernel) (by decide +kernel) (show xk_mt 181 = some _ from rfl) (by simp) rfl rfl (by decide) (by decide) (by simp [xk_sum, Value.category]) rc ?_
  refine xk_Cl_imp ?_ k
  rintro r2 σ2 ⟨f2, rfl, rfl, h2⟩
  show xk_LB bs L xs 271 [.ref bs, .ref a, .ref b, .int (xj (i : Nat))] [.int v, .int v] (f2, w) Q
  exact lb_go (st' := []) (tgt := 881) (off := 610) (show xk_lins 271 = some (.if_icmp .eq 610, 3) by decide +kernel) rfl (xk_pure_no rfl rfl (fun _ _ => rfl) (fun _ _ => rfl)) (by simp [xk_br, xk_cmp]) (by decide) (fin f2 h2)
theorem case_4 (hL : L ≤ 3072) (hi : i + 6 ≤ L) (hab : a + 204 ≤ b) (h : REL f a b) (fin : ∀ f, REL f a b → xk_LB bs L xs 881 [.ref bs, .ref a, .ref b, .int (xj (i : Nat))] [] (f, w) Q) : xk_LB bs L xs 276 [.ref bs, .ref a, .ref b, .int (xj (i : Nat))] [] (f, w) Q := by
  have A := a_paper (D := 200) (w := w) (x := (yv xs i 1).toInt) (y := (yv xs i 2).toInt) (by omega) hab h (ti_lo _) (ti_hi _) (ti_lo _) (ti_hi _)
  simp only [xj_ti] at A
  refine lb_pure (show xk_lins 276 = some (.aload_n 1, 1) by decide +kernel) rfl rfl ?_
  refine lb_arg (j := 1) (show xk_lins 277 = some (.aload_n 0, 1) by decide +kernel) (show xk_lins 278 = some (.iload_n 3, 1) by decide +kernel) (show xk_lins 279 = some (.iconst 1, 1) by decide +kernel) (show xk_lins 280 = some (.iadd, 1) by decide +kernel) (show xk_lins 281 = some (.iaload, 1) by decide +kernel) (by decide) hi hL ?_
  refine lb_arg (j := 2) (show xk_lins 282 = some (.aload_n 0, 1) by decide +kernel) (show xk_lins 283 = some (.iload_n 3, 1) by decide +kernel) (show xk_lins 284 = some (.iconst 2, 1) by decide +kernel) (show xk_lins 285 = some (.iadd, 1) by decide +kernel) (show xk_lins 286 = some (.iaload, 1) by decide +kernel) (by decide) hi hL ?_
  refine lb_virt [.int (yv xs i 1), .int (yv xs i 2)] [] (show xk_lins 287 = some (.invokevirtual 32, 3) by decide +kernel) (by decide +kernel) (by decide +kernel) (show xk_mt 104 = some _ from rfl) (by simp) rfl rfl (by decide) (by decide) (by simp [xk_sum, Value.category]) (rel_a h) ?_
  refine xk_Cl_imp ?_ A
  rintro r σ ⟨v, f1, rfl, rfl, rc, k⟩
  show xk_LB bs L xs 290 [.ref bs, .ref a, .ref b, .int (xj (i : Nat))] [.int v] (f1, w) Q
  refine lb_pure (show xk_lins 290 = some (.aload_n 2, 1) by decide +kernel) rfl rfl ?_
  refine lb_arg (j := 1) (show xk_lins 291 = some (.aload_n 0, 1) by decide +kernel) (show xk_lins 292 = some (.iload_n 3, 1) by decide +kernel) (show xk_lins 293 = some (.iconst 1, 1) by decide +kernel) (show xk_lins 294 = some (.iadd, 1) by decide +kernel) (show xk_lins 295 = some (.iaload, 1) by decide +kernel) (by decide) hi hL ?_
  refine lb_arg (j := 2) (show xk_lins 296 = some (.aload_n 0, 1) by decide +kernel) (show xk_lins 297 = some (.iload_n 3, 1) by decide +kernel) (show xk_lins 298 = some (.iconst 2, 1) by decide +kernel) (show xk_lins 299 = some (.iadd, 1) by decide +kernel) (show xk_lins 300 = some (.iaload, 1) by decide +kernel) (by decide) hi hL ?_
  refine lb_virt [.int (yv xs i 1), .int (yv xs i 2)] [.int v] (show xk_lins 301 = some (.invokevirtual 36, 3) by decide +kernel) (by decide +kernel) (by decide +kernel) (show xk_mt 199 = some _ from rfl) (by simp) rfl rfl (by decide) (by decide) (by simp [xk_sum, Value.category]) rc ?_
  refine xk_Cl_imp ?_ k
  rintro r2 σ2 ⟨f2, rfl, rfl, h2⟩
  show xk_LB bs L xs 304 [.ref bs, .ref a, .ref b, .int (xj (i : Nat))] [.int v, .int v] (f2, w) Q
  exact lb_go (st' := []) (tgt := 881) (off := 577) (show xk_lins 304 = some (.if_icmp .eq 577, 3) by decide +kernel) rfl (xk_pure_no rfl rfl (fun _ _ => rfl) (fun _ _ => rfl)) (by simp [xk_br, xk_cmp]) (by decide) (fin f2 h2)
theorem case_5 (hL : L ≤ 3072) (hi : i + 6 ≤ L) (hab : a + 204 ≤ b) (h : REL f a b) (fin : ∀ f, REL f a b → xk_LB bs L xs 881 [.ref bs, .ref a, .ref b, .int (xj (i : Nat))] [] (f, w) Q) : xk_LB bs L xs 309 [.ref bs, .ref a, .ref b, .int (xj (i : Nat))] [] (f, w) Q := by
  have A := a_clerk (D := 200) (w := w) (x := (yv xs i 1).toInt) (y := (yv xs i 2).toInt) (by omega) hab h (ti_lo _) (ti_hi _) (ti_lo _) (ti_hi _)
  simp only [xj_ti] at A
  refine lb_pure (show xk_lins 309 = some (.aload_n 1, 1) by decide +kernel) rfl rfl ?_
  refine lb_arg (j := 1) (show xk_lins 310 = some (.aload_n 0, 1) by decide +kernel) (show xk_lins 311 = some (.iload_n 3, 1) by decide +kernel) (show xk_lins 312 = some (.iconst 1, 1) by decide +kernel) (show xk_lins 313 = some (.iadd, 1) by decide +kernel) (show xk_lins 314 = some (.iaload, 1) by decide +kernel) (by decide) hi hL ?_
  refine lb_arg (j := 2) (show xk_lins 315 = some (.aload_n 0, 1) by decide +kernel) (show xk_lins 316 = some (.iload_n 3, 1) by decide +kernel) (show xk_lins 317 = some (.iconst 2, 1) by decide +kernel) (show xk_lins 318 = some (.iadd, 1) by decide +kernel) (show xk_lins 319 = some (.iaload, 1) by decide +kernel) (by decide) hi hL ?_
  refine lb_virt [.int (yv xs i 1), .int (yv xs i 2)] [] (show xk_lins 320 = some (.invokevirtual 37, 3) by decide +kernel) (by decide +kernel) (by decide +kernel) (show xk_mt 105 = some _ from rfl) (by simp) rfl rfl (by decide) (by decide) (by simp [xk_sum, Value.category]) (rel_a h) ?_
  refine xk_Cl_imp ?_ A
  rintro r σ ⟨v, f1, rfl, rfl, rc, k⟩
  show xk_LB bs L xs 323 [.ref bs, .ref a, .ref b, .int (xj (i : Nat))] [.int v] (f1, w) Q
  refine lb_pure (show xk_lins 323 = some (.aload_n 2, 1) by decide +kernel) rfl rfl ?_
  refine lb_arg (j := 1) (show xk_lins 324 = some (.aload_n 0, 1) by decide +kernel) (show xk_lins 325 = some (.iload_n 3, 1) by decide +kernel) (show xk_lins 326 = some (.iconst 1, 1) by decide +kernel) (show xk_lins 327 = some (.iadd, 1) by decide +kernel) (show xk_lins 328 = some (.iaload, 1) by decide +kernel) (by decide) hi hL ?_
  refine lb_arg (j := 2) (show xk_lins 329 = some (.aload_n 0, 1) by decide +kernel) (show xk_lins 330 = some (.iload_n 3, 1) by decide +kernel) (show xk_lins 331 = some (.iconst 2, 1) by decide +kernel) (show xk_lins 332 = some (.iadd, 1) by decide +kernel) (show xk_lins 333 = some (.iaload, 1) by decide +kernel) (by decide) hi hL ?_
  refine lb_virt [.int (yv xs i 1), .int (yv xs i 2)] [.int v] (show xk_lins 334 = some (.invokevirtual 40, 3) by decide +kernel) (by decide +kernel) (by decide +kernel) (show xk_mt 200 = some _ from rfl) (by simp) rfl rfl (by decide) (by decide) (by simp [xk_sum, Value.category]) rc ?_
  refine xk_Cl_imp ?_ k
  rintro r2 σ2 ⟨f2, rfl, rfl, h2⟩
  show xk_LB bs L xs 337 [.ref bs, .ref a, .ref b, .int (xj (i : Nat))] [.int v, .int v] (f2, w) Q
  exact lb_go (st' := []) (tgt := 881) (off := 544) (show xk_lins 337 = some (.if_icmp .eq 544, 3) by decide +kernel) rfl (xk_pure_no rfl rfl (fun _ _ => rfl) (fun _ _ => rfl)) (by simp [xk_br, xk_cmp]) (by decide) (fin f2 h2)
theorem case_6 (hL : L ≤ 3072) (hi : i + 6 ≤ L) (hab : a + 204 ≤ b) (h : REL f a b) (fin : ∀ f, REL f a b → xk_LB bs L xs 881 [.ref bs, .ref a, .ref b, .int (xj (i : Nat))] [] (f, w) Q) : xk_LB bs L xs 342 [.ref bs, .ref a, .ref b, .int (xj (i : Nat))] [] (f, w) Q := by
  have A := a_sign (D := 200) (w := w) (x := (yv xs i 1).toInt) (by omega) hab h (ti_lo _) (ti_hi _)
  simp only [xj_ti] at A
  refine lb_pure (show xk_lins 342 = some (.aload_n 1, 1) by decide +kernel) rfl rfl ?_
  refine lb_arg (j := 1) (show xk_lins 343 = some (.aload_n 0, 1) by decide +kernel) (show xk_lins 344 = some (.iload_n 3, 1) by decide +kernel) (show xk_lins 345 = some (.iconst 1, 1) by decide +kernel) (show xk_lins 346 = some (.iadd, 1) by decide +kernel) (show xk_lins 347 = some (.iaload, 1) by decide +kernel) (by decide) hi hL ?_
  refine lb_virt [.int (yv xs i 1)] [] (show xk_lins 348 = some (.invokevirtual 41, 3) by decide +kernel) (by decide +kernel) (by decide +kernel) (show xk_mt 107 = some _ from rfl) (by simp) rfl rfl (by decide) (by decide) (by simp [xk_sum, Value.category]) (rel_a h) ?_
  refine xk_Cl_imp ?_ A
  rintro r σ ⟨v, f1, rfl, rfl, rc, k⟩
  show xk_LB bs L xs 351 [.ref bs, .ref a, .ref b, .int (xj (i : Nat))] [.int v] (f1, w) Q
  refine lb_pure (show xk_lins 351 = some (.aload_n 2, 1) by decide +kernel) rfl rfl ?_
  refine lb_arg (j := 1) (show xk_lins 352 = some (.aload_n 0, 1) by decide +kernel) (show xk_lins 353 = some (.iload_n 3, 1) by decide +kernel) (show xk_lins 354 = some (.iconst 1, 1) by decide +kernel) (show xk_lins 355 = some (.iadd, 1) by decide +kernel) (show xk_lins 356 = some (.iaload, 1) by decide +kernel) (by decide) hi hL ?_
  refine lb_virt [.int (yv xs i 1)] [.int v] (show xk_lins 357 = some (.invokevirtual 44, 3) by decide +kernel) (by decide +kernel) (by decide +kernel) (show xk_mt 208 = some _ from rfl) (by simp) rfl rfl (by decide) (by decide) (by simp [xk_sum, Value.category]) rc ?_
  refine xk_Cl_imp ?_ k
  rintro r2 σ2 ⟨f2, rfl, rfl, h2⟩
  show xk_LB bs L xs 360 [.ref bs, .ref a, .ref b, .int (xj (i : Nat))] [.int v, .int v] (f2, w) Q
  exact lb_go (st' := []) (tgt := 881) (off := 521) (show xk_lins 360 = some (.if_icmp .eq 521, 3) by decide +kernel) rfl (xk_pure_no rfl rfl (fun _ _ => rfl) (fun _ _ => rfl)) (by simp [xk_br, xk_cmp]) (by decide) (fin f2 h2)
theorem case_7 (hL : L ≤ 3072) (hi : i + 6 ≤ L) (hab : a + 204 ≤ b) (h : REL f a b) (fin : ∀ f, REL f a b → xk_LB bs L xs 881 [.ref bs, .ref a, .ref b, .int (xj (i : Nat))] [] (f, w) Q) : xk_LB bs L xs 365 [.ref bs, .ref a, .ref b, .int (xj (i : Nat))] [] (f, w) Q := by
  have A := a_blank (D := 200) (w := w) (x := (yv xs i 1).toInt) (by omega) hab h (ti_lo _) (ti_hi _)
  simp only [xj_ti] at A
  refine lb_pure (show xk_lins 365 = some (.aload_n 1, 1) by decide +kernel) rfl rfl ?_
  refine lb_arg (j := 1) (show xk_lins 366 = some (.aload_n 0, 1) by decide +kernel) (show xk_lins 367 = some (.iload_n 3, 1) by decide +kernel) (show xk_lins 368 = some (.iconst 1, 1) by decide +kernel) (show xk_lins 369 = some (.iadd, 1) by decide +kernel) (show xk_lins 370 = some (.iaload, 1) by decide +kernel) (by decide) hi hL ?_
  refine lb_virt [.int (yv xs i 1)] [] (show xk_lins 371 = some (.invokevirtual 45, 3) by decide +kernel) (by decide +kernel) (by decide +kernel) (show xk_mt 108 = some _ from rfl) (by simp) rfl rfl (by decide) (by decide) (by simp [xk_sum, Value.category]) (rel_a h) ?_
  refine xk_Cl_imp ?_ A
  rintro r σ ⟨v, f1, rfl, rfl, rc, k⟩
  show xk_LB bs L xs 374 [.ref bs, .ref a, .ref b, .int (xj (i : Nat))] [.int v] (f1, w) Q
  refine lb_pure (show xk_lins 374 = some (.aload_n 2, 1) by decide +kernel) rfl rfl ?_
  refine lb_arg (j := 1) (show xk_lins 375 = some (.aload_n 0, 1) by decide +kernel) (show xk_lins 376 = some (.iload_n 3, 1) by decide +kernel) (show xk_lins 377 = some (.iconst 1, 1) by decide +kernel) (show xk_lins 378 = some (.iadd, 1) by decide +kernel) (show xk_lins 379 = some (.iaload, 1) by decide +kernel) (by decide) hi hL ?_
  refine lb_virt [.int (yv xs i 1)] [.int v] (show xk_lins 380 = some (.invokevirtual 48, 3) by decide +kernel) (by decide +kernel) (by decide +kernel) (show xk_mt 209 = some _ from rfl) (by simp) rfl rfl (by decide) (by decide) (by simp [xk_sum, Value.category]) rc ?_
  refine xk_Cl_imp ?_ k
  rintro r2 σ2 ⟨f2, rfl, rfl, h2⟩
  show xk_LB bs L xs 383 [.ref bs, .ref a, .ref b, .int (xj (i : Nat))] [.int v, .int v] (f2, w) Q
  exact lb_go (st' := []) (tgt := 881) (off := 498) (show xk_lins 383 = some (.if_icmp .eq 498, 3) by decide +kernel) rfl (xk_pure_no rfl rfl (fun _ _ => rfl) (fun _ _ => rfl)) (by simp [xk_br, xk_cmp]) (by decide) (fin f2 h2)
theorem case_8 (hL : L ≤ 3072) (hi : i + 6 ≤ L) (hab : a + 204 ≤ b) (h : REL f a b) (fin : ∀ f, REL f a b → xk_LB bs L xs 881 [.ref bs, .ref a, .ref b, .int (xj (i : Nat))] [] (f, w) Q) : xk_LB bs L xs 388 [.ref bs, .ref a, .ref b, .int (xj (i : Nat))] [] (f, w) Q := by
  have A := a_await (D := 200) (w := w) (x := (yv xs i 1).toInt) (by omega) hab h (ti_lo _) (ti_hi _)
  simp only [xj_ti] at A
  refine lb_pure (show xk_lins 388 = some (.aload_n 1, 1) by decide +kernel) rfl rfl ?_
  refine lb_arg (j := 1) (show xk_lins 389 = some (.aload_n 0, 1) by decide +kernel) (show xk_lins 390 = some (.iload_n 3, 1) by decide +kernel) (show xk_lins 391 = some (.iconst 1, 1) by decide +kernel) (show xk_lins 392 = some (.iadd, 1) by decide +kernel) (show xk_lins 393 = some (.iaload, 1) by decide +kernel) (by decide) hi hL ?_
  refine lb_virt [.int (yv xs i 1)] [] (show xk_lins 394 = some (.invokevirtual 49, 3) by decide +kernel) (by decide +kernel) (by decide +kernel) (show xk_mt 109 = some _ from rfl) (by simp) rfl rfl (by decide) (by decide) (by simp [xk_sum, Value.category]) (rel_a h) ?_
  refine xk_Cl_imp ?_ A
  rintro r σ ⟨v, f1, rfl, rfl, rc, k⟩
  show xk_LB bs L xs 397 [.ref bs, .ref a, .ref b, .int (xj (i : Nat))] [.int v] (f1, w) Q
  refine lb_pure (show xk_lins 397 = some (.aload_n 2, 1) by decide +kernel) rfl rfl ?_
  refine lb_arg (j := 1) (show xk_lins 398 = some (.aload_n 0, 1) by decide +kernel) (show xk_lins 399 = some (.iload_n 3, 1) by decide +kernel) (show xk_lins 400 = some (.iconst 1, 1) by decide +kernel) (show xk_lins 401 = some (.iadd, 1) by decide +kernel) (show xk_lins 402 = some (.iaload, 1) by decide +kernel) (by decide) hi hL ?_
  refine lb_virt [.int (yv xs i 1)] [.int v] (show xk_lins 403 = some (.invokevirtual 52, 3) by decide +kernel) (by decide +kernel) (by decide +kernel) (show xk_mt 210 = some _ from rfl) (by simp) rfl rfl (by decide) (by decide) (by simp [xk_sum, Value.category]) rc ?_
  refine xk_Cl_imp ?_ k
  rintro r2 σ2 ⟨f2, rfl, rfl, h2⟩
  show xk_LB bs L xs 406 [.ref bs, .ref a, .ref b, .int (xj (i : Nat))] [.int v, .int v] (f2, w) Q
  exact lb_go (st' := []) (tgt := 881) (off := 475) (show xk_lins 406 = some (.if_icmp .eq 475, 3) by decide +kernel) rfl (xk_pure_no rfl rfl (fun _ _ => rfl) (fun _ _ => rfl)) (by simp [xk_br, xk_cmp]) (by decide) (fin f2 h2)
theorem case_9 (hL : L ≤ 3072) (hi : i + 6 ≤ L) (hab : a + 204 ≤ b) (h : REL f a b) (fin : ∀ f, REL f a b → xk_LB bs L xs 881 [.ref bs, .ref a, .ref b, .int (xj (i : Nat))] [] (f, w) Q) : xk_LB bs L xs 411 [.ref bs, .ref a, .ref b, .int (xj (i : Nat))] [] (f, w) Q := by
  have A := a_filling (D := 200) (w := w) (by omega) hab h
  refine lb_pure (show xk_lins 411 = some (.aload_n 1, 1) by decide +kernel) rfl rfl ?_
  refine lb_virt [] [] (show xk_lins 412 = some (.invokevirtual 53, 3) by decide +kernel) (by decide +kernel) (by decide +kernel) (show xk_mt 110 = some _ from rfl) (by simp) rfl rfl (by decide) (by decide) (by simp [xk_sum, Value.category]) (rel_a h) ?_
  refine xk_Cl_imp ?_ A
  rintro r σ ⟨v, f1, rfl, rfl, rc, k⟩
  show xk_LB bs L xs 415 [.ref bs, .ref a, .ref b, .int (xj (i : Nat))] [.int v] (f1, w) Q
  refine lb_pure (show xk_lins 415 = some (.aload_n 2, 1) by decide +kernel) rfl rfl ?_
  refine lb_virt [] [.int v] (show xk_lins 416 = some (.invokevirtual 56, 3) by decide +kernel) (by decide +kernel) (by decide +kernel) (show xk_mt 211 = some _ from rfl) (by simp) rfl rfl (by decide) (by decide) (by simp [xk_sum, Value.category]) rc ?_
  refine xk_Cl_imp ?_ k
  rintro r2 σ2 ⟨f2, rfl, rfl, h2⟩
  show xk_LB bs L xs 419 [.ref bs, .ref a, .ref b, .int (xj (i : Nat))] [.int v, .int v] (f2, w) Q
  exact lb_go (st' := []) (tgt := 881) (off := 462) (show xk_lins 419 = some (.if_icmp .eq 462, 3) by decide +kernel) rfl (xk_pure_no rfl rfl (fun _ _ => rfl) (fun _ _ => rfl)) (by simp [xk_br, xk_cmp]) (by decide) (fin f2 h2)
theorem case_10 (hL : L ≤ 3072) (hi : i + 6 ≤ L) (hab : a + 204 ≤ b) (h : REL f a b) (fin : ∀ f, REL f a b → xk_LB bs L xs 881 [.ref bs, .ref a, .ref b, .int (xj (i : Nat))] [] (f, w) Q) : xk_LB bs L xs 424 [.ref bs, .ref a, .ref b, .int (xj (i : Nat))] [] (f, w) Q := by
  have A := a_change (D := 200) (w := w) (by omega) hab h
  refine lb_pure (show xk_lins 424 = some (.aload_n 1, 1) by decide +kernel) rfl rfl ?_
  refine lb_virt [] [] (show xk_lins 425 = some (.invokevirtual 57, 3) by decide +kernel) (by decide +kernel) (by decide +kernel) (show xk_mt 111 = some _ from rfl) (by simp) rfl rfl (by decide) (by decide) (by simp [xk_sum, Value.category]) (rel_a h) ?_
  refine xk_Cl_imp ?_ A
  rintro r σ ⟨v, f1, rfl, rfl, rc, k⟩
  show xk_LB bs L xs 428 [.ref bs, .ref a, .ref b, .int (xj (i : Nat))] [.int v] (f1, w) Q
  refine lb_pure (show xk_lins 428 = some (.aload_n 2, 1) by decide +kernel) rfl rfl ?_
  refine lb_virt [] [.int v] (show xk_lins 429 = some (.invokevirtual 60, 3) by decide +kernel) (by decide +kernel) (by decide +kernel) (show xk_mt 212 = some _ from rfl) (by simp) rfl rfl (by decide) (by decide) (by simp [xk_sum, Value.category]) rc ?_
  refine xk_Cl_imp ?_ k
  rintro r2 σ2 ⟨f2, rfl, rfl, h2⟩
  show xk_LB bs L xs 432 [.ref bs, .ref a, .ref b, .int (xj (i : Nat))] [.int v, .int v] (f2, w) Q
  exact lb_go (st' := []) (tgt := 881) (off := 449) (show xk_lins 432 = some (.if_icmp .eq 449, 3) by decide +kernel) rfl (xk_pure_no rfl rfl (fun _ _ => rfl) (fun _ _ => rfl)) (by simp [xk_br, xk_cmp]) (by decide) (fin f2 h2)
theorem case_11 (hL : L ≤ 3072) (hi : i + 6 ≤ L) (hab : a + 204 ≤ b) (h : REL f a b) (fin : ∀ f, REL f a b → xk_LB bs L xs 881 [.ref bs, .ref a, .ref b, .int (xj (i : Nat))] [] (f, w) Q) : xk_LB bs L xs 437 [.ref bs, .ref a, .ref b, .int (xj (i : Nat))] [] (f, w) Q := by
  have A := a_undo (D := 200) (w := w) (by omega) hab h
  refine lb_pure (show xk_lins 437 = some (.aload_n 1, 1) by decide +kernel) rfl rfl ?_
  refine lb_virt [] [] (show xk_lins 438 = some (.invokevirtual 61, 3) by decide +kernel) (by decide +kernel) (by decide +kernel) (show xk_mt 112 = some _ from rfl) (by simp) rfl rfl (by decide) (by decide) (by simp [xk_sum, Value.category]) (rel_a h) ?_
  refine xk_Cl_imp ?_ A
  rintro r σ ⟨v, f1, rfl, rfl, rc, k⟩
  show xk_LB bs L xs 441 [.ref bs, .ref a, .ref b, .int (xj (i : Nat))] [.int v] (f1, w) Q
  refine lb_pure (show xk_lins 441 = some (.aload_n 2, 1) by decide +kernel) rfl rfl ?_
  refine lb_virt [] [.int v] (show xk_lins 442 = some (.invokevirtual 64, 3) by decide +kernel) (by decide +kernel) (by decide +kernel) (show xk_mt 207 = some _ from rfl) (by simp) rfl rfl (by decide) (by decide) (by simp [xk_sum, Value.category]) rc ?_
  refine xk_Cl_imp ?_ k
  rintro r2 σ2 ⟨f2, rfl, rfl, h2⟩
  show xk_LB bs L xs 445 [.ref bs, .ref a, .ref b, .int (xj (i : Nat))] [.int v, .int v] (f2, w) Q
  exact lb_go (st' := []) (tgt := 881) (off := 436) (show xk_lins 445 = some (.if_icmp .eq 436, 3) by decide +kernel) rfl (xk_pure_no rfl rfl (fun _ _ => rfl) (fun _ _ => rfl)) (by simp [xk_br, xk_cmp]) (by decide) (fin f2 h2)
theorem case_12 (hL : L ≤ 3072) (hi : i + 6 ≤ L) (hab : a + 204 ≤ b) (h : REL f a b) (fin : ∀ f, REL f a b → xk_LB bs L xs 881 [.ref bs, .ref a, .ref b, .int (xj (i : Nat))] [] (f, w) Q) : xk_LB bs L xs 450 [.ref bs, .ref a, .ref b, .int (xj (i : Nat))] [] (f, w) Q := by
  have A := a_when (D := 200) (w := w) (x := (yv xs i 1).toInt) (y := (yv xs i 2).toInt) (by omega) hab h (ti_lo _) (ti_hi _) (ti_lo _) (ti_hi _)
  simp only [xj_ti] at A
  refine lb_pure (show xk_lins 450 = some (.aload_n 1, 1) by decide +kernel) rfl rfl ?_
  refine lb_arg (j := 1) (show xk_lins 451 = some (.aload_n 0, 1) by decide +kernel) (show xk_lins 452 = some (.iload_n 3, 1) by decide +kernel) (show xk_lins 453 = some (.iconst 1, 1) by decide +kernel) (show xk_lins 454 = some (.iadd, 1) by decide +kernel) (show xk_lins 455 = some (.iaload, 1) by decide +kernel) (by decide) hi hL ?_
  refine lb_arg (j := 2) (show xk_lins 456 = some (.aload_n 0, 1) by decide +kernel) (show xk_lins 457 = some (.iload_n 3, 1) by decide +kernel) (show xk_lins 458 = some (.iconst 2, 1) by decide +kernel) (show xk_lins 459 = some (.iadd, 1) by decide +kernel) (show xk_lins 460 = some (.iaload, 1) by decide +kernel) (by decide) hi hL ?_
  refine lb_virt [.int (yv xs i 1), .int (yv xs i 2)] [] (show xk_lins 461 = some (.invokevirtual 65, 3) by decide +kernel) (by decide +kernel) (by decide +kernel) (show xk_mt 115 = some _ from rfl) (by simp) rfl rfl (by decide) (by decide) (by simp [xk_sum, Value.category]) (rel_a h) ?_
  refine xk_Cl_imp ?_ A
  rintro r σ ⟨v, f1, rfl, rfl, rc, k⟩
  show xk_LB bs L xs 464 [.ref bs, .ref a, .ref b, .int (xj (i : Nat))] [.int v] (f1, w) Q
  refine lb_pure (show xk_lins 464 = some (.aload_n 2, 1) by decide +kernel) rfl rfl ?_
  refine lb_arg (j := 1) (show xk_lins 465 = some (.aload_n 0, 1) by decide +kernel) (show xk_lins 466 = some (.iload_n 3, 1) by decide +kernel) (show xk_lins 467 = some (.iconst 1, 1) by decide +kernel) (show xk_lins 468 = some (.iadd, 1) by decide +kernel) (show xk_lins 469 = some (.iaload, 1) by decide +kernel) (by decide) hi hL ?_
  refine lb_arg (j := 2) (show xk_lins 470 = some (.aload_n 0, 1) by decide +kernel) (show xk_lins 471 = some (.iload_n 3, 1) by decide +kernel) (show xk_lins 472 = some (.iconst 2, 1) by decide +kernel) (show xk_lins 473 = some (.iadd, 1) by decide +kernel) (show xk_lins 474 = some (.iaload, 1) by decide +kernel) (by decide) hi hL ?_
  refine lb_virt [.int (yv xs i 1), .int (yv xs i 2)] [.int v] (show xk_lins 475 = some (.invokevirtual 68, 3) by decide +kernel) (by decide +kernel) (by decide +kernel) (show xk_mt 213 = some _ from rfl) (by simp) rfl rfl (by decide) (by decide) (by simp [xk_sum, Value.category]) rc ?_
  refine xk_Cl_imp ?_ k
  rintro r2 σ2 ⟨f2, rfl, rfl, h2⟩
  show xk_LB bs L xs 478 [.ref bs, .ref a, .ref b, .int (xj (i : Nat))] [.int v, .int v] (f2, w) Q
  exact lb_go (st' := []) (tgt := 881) (off := 403) (show xk_lins 478 = some (.if_icmp .eq 403, 3) by decide +kernel) rfl (xk_pure_no rfl rfl (fun _ _ => rfl) (fun _ _ => rfl)) (by simp [xk_br, xk_cmp]) (by decide) (fin f2 h2)
theorem case_13 (hL : L ≤ 3072) (hi : i + 6 ≤ L) (hab : a + 204 ≤ b) (h : REL f a b) (fin : ∀ f, REL f a b → xk_LB bs L xs 881 [.ref bs, .ref a, .ref b, .int (xj (i : Nat))] [] (f, w) Q) : xk_LB bs L xs 483 [.ref bs, .ref a, .ref b, .int (xj (i : Nat))] [] (f, w) Q := by
  have A := a_by (D := 200) (w := w) (x := (yv xs i 1).toInt) (y := (yv xs i 2).toInt) (by omega) hab h (ti_lo _) (ti_hi _) (ti_lo _) (ti_hi _)
  simp only [xj_ti] at A
  refine lb_pure (show xk_lins 483 = some (.aload_n 1, 1) by decide +kernel) rfl rfl ?_
  refine lb_arg (j := 1) (show xk_lins 484 = some (.aload_n 0, 1) by decide +kernel) (show xk_lins 485 = some (.iload_n 3, 1) by decide +kernel) (show xk_lins 486 = some (.iconst 1, 1) by decide +kernel) (show xk_lins 487 = some (.iadd, 1) by decide +kernel) (show xk_lins 488 = some (.iaload, 1) by decide +kernel) (by decide) hi hL ?_
  refine lb_arg (j := 2) (show xk_lins 489 = some (.aload_n 0, 1) by decide +kernel) (show xk_lins 490 = some (.iload_n 3, 1) by decide +kernel) (show xk_lins 491 = some (.iconst 2, 1) by decide +kernel) (show xk_lins 492 = some (.iadd, 1) by decide +kernel) (show xk_lins 493 = some (.iaload, 1) by decide +kernel) (by decide) hi hL ?_
  refine lb_virt [.int (yv xs i 1), .int (yv xs i 2)] [] (show xk_lins 494 = some (.invokevirtual 69, 3) by decide +kernel) (by decide +kernel) (by decide +kernel) (show xk_mt 116 = some _ from rfl) (by simp) rfl rfl (by decide) (by decide) (by simp [xk_sum, Value.category]) (rel_a h) ?_
  refine xk_Cl_imp ?_ A
  rintro r σ ⟨v, f1, rfl, rfl, rc, k⟩
  show xk_LB bs L xs 497 [.ref bs, .ref a, .ref b, .int (xj (i : Nat))] [.int v] (f1, w) Q
  refine lb_pure (show xk_lins 497 = some (.aload_n 2, 1) by decide +kernel) rfl rfl ?_
  refine lb_arg (j := 1) (show xk_lins 498 = some (.aload_n 0, 1) by decide +kernel) (show xk_lins 499 = some (.iload_n 3, 1) by decide +kernel) (show xk_lins 500 = some (.iconst 1, 1) by decide +kernel) (show xk_lins 501 = some (.iadd, 1) by decide +kernel) (show xk_lins 502 = some (.iaload, 1) by decide +kernel) (by decide) hi hL ?_
  refine lb_arg (j := 2) (show xk_lins 503 = some (.aload_n 0, 1) by decide +kernel) (show xk_lins 504 = some (.iload_n 3, 1) by decide +kernel) (show xk_lins 505 = some (.iconst 2, 1) by decide +kernel) (show xk_lins 506 = some (.iadd, 1) by decide +kernel) (show xk_lins 507 = some (.iaload, 1) by decide +kernel) (by decide) hi hL ?_
  refine lb_virt [.int (yv xs i 1), .int (yv xs i 2)] [.int v] (show xk_lins 508 = some (.invokevirtual 72, 3) by decide +kernel) (by decide +kernel) (by decide +kernel) (show xk_mt 220 = some _ from rfl) (by simp) rfl rfl (by decide) (by decide) (by simp [xk_sum, Value.category]) rc ?_
  refine xk_Cl_imp ?_ k
  rintro r2 σ2 ⟨f2, rfl, rfl, h2⟩
  show xk_LB bs L xs 511 [.ref bs, .ref a, .ref b, .int (xj (i : Nat))] [.int v, .int v] (f2, w) Q
  exact lb_go (st' := []) (tgt := 881) (off := 370) (show xk_lins 511 = some (.if_icmp .eq 370, 3) by decide +kernel) rfl (xk_pure_no rfl rfl (fun _ _ => rfl) (fun _ _ => rfl)) (by simp [xk_br, xk_cmp]) (by decide) (fin f2 h2)
theorem case_14 (hL : L ≤ 3072) (hi : i + 6 ≤ L) (hab : a + 204 ≤ b) (h : REL f a b) (fin : ∀ f, REL f a b → xk_LB bs L xs 881 [.ref bs, .ref a, .ref b, .int (xj (i : Nat))] [] (f, w) Q) : xk_LB bs L xs 516 [.ref bs, .ref a, .ref b, .int (xj (i : Nat))] [] (f, w) Q := by
  have A := a_waits (D := 200) (w := w) (x := (yv xs i 1).toInt) (y := (yv xs i 2).toInt) (by omega) hab h (ti_lo _) (ti_hi _) (ti_lo _) (ti_hi _)
  simp only [xj_ti] at A
  refine lb_pure (show xk_lins 516 = some (.aload_n 1, 1) by decide +kernel) rfl rfl ?_
  refine lb_arg (j := 1) (show xk_lins 517 = some (.aload_n 0, 1) by decide +kernel) (show xk_lins 518 = some (.iload_n 3, 1) by decide +kernel) (show xk_lins 519 = some (.iconst 1, 1) by decide +kernel) (show xk_lins 520 = some (.iadd, 1) by decide +kernel) (show xk_lins 521 = some (.iaload, 1) by decide +kernel) (by decide) hi hL ?_
  refine lb_arg (j := 2) (show xk_lins 522 = some (.aload_n 0, 1) by decide +kernel) (show xk_lins 523 = some (.iload_n 3, 1) by decide +kernel) (show xk_lins 524 = some (.iconst 2, 1) by decide +kernel) (show xk_lins 525 = some (.iadd, 1) by decide +kernel) (show xk_lins 526 = some (.iaload, 1) by decide +kernel) (by decide) hi hL ?_
  refine lb_virt [.int (yv xs i 1), .int (yv xs i 2)] [] (show xk_lins 527 = some (.invokevirtual 73, 3) by decide +kernel) (by decide +kernel) (by decide +kernel) (show xk_mt 117 = some _ from rfl) (by simp) rfl rfl (by decide) (by decide) (by simp [xk_sum, Value.category]) (rel_a h) ?_
  refine xk_Cl_imp ?_ A
  rintro r σ ⟨v, f1, rfl, rfl, rc, k⟩
  show xk_LB bs L xs 530 [.ref bs, .ref a, .ref b, .int (xj (i : Nat))] [.int v] (f1, w) Q
  refine lb_pure (show xk_lins 530 = some (.aload_n 2, 1) by decide +kernel) rfl rfl ?_
  refine lb_arg (j := 1) (show xk_lins 531 = some (.aload_n 0, 1) by decide +kernel) (show xk_lins 532 = some (.iload_n 3, 1) by decide +kernel) (show xk_lins 533 = some (.iconst 1, 1) by decide +kernel) (show xk_lins 534 = some (.iadd, 1) by decide +kernel) (show xk_lins 535 = some (.iaload, 1) by decide +kernel) (by decide) hi hL ?_
  refine lb_arg (j := 2) (show xk_lins 536 = some (.aload_n 0, 1) by decide +kernel) (show xk_lins 537 = some (.iload_n 3, 1) by decide +kernel) (show xk_lins 538 = some (.iconst 2, 1) by decide +kernel) (show xk_lins 539 = some (.iadd, 1) by decide +kernel) (show xk_lins 540 = some (.iaload, 1) by decide +kernel) (by decide) hi hL ?_
  refine lb_virt [.int (yv xs i 1), .int (yv xs i 2)] [.int v] (show xk_lins 541 = some (.invokevirtual 76, 3) by decide +kernel) (by decide +kernel) (by decide +kernel) (show xk_mt 221 = some _ from rfl) (by simp) rfl rfl (by decide) (by decide) (by simp [xk_sum, Value.category]) rc ?_
  refine xk_Cl_imp ?_ k
  rintro r2 σ2 ⟨f2, rfl, rfl, h2⟩
  show xk_LB bs L xs 544 [.ref bs, .ref a, .ref b, .int (xj (i : Nat))] [.int v, .int v] (f2, w) Q
  exact lb_go (st' := []) (tgt := 881) (off := 337) (show xk_lins 544 = some (.if_icmp .eq 337, 3) by decide +kernel) rfl (xk_pure_no rfl rfl (fun _ _ => rfl) (fun _ _ => rfl)) (by simp [xk_br, xk_cmp]) (by decide) (fin f2 h2)
theorem case_15 (hL : L ≤ 3072) (hi : i + 6 ≤ L) (hab : a + 204 ≤ b) (h : REL f a b) (fin : ∀ f, REL f a b → xk_LB bs L xs 881 [.ref bs, .ref a, .ref b, .int (xj (i : Nat))] [] (f, w) Q) : xk_LB bs L xs 549 [.ref bs, .ref a, .ref b, .int (xj (i : Nat))] [] (f, w) Q := by
  have A := a_plan (D := 200) (w := w) (y := (yv xs i 1).toInt) (by omega) hab h (ti_lo _) (ti_hi _)
  simp only [xj_ti] at A
  refine lb_pure (show xk_lins 549 = some (.aload_n 1, 1) by decide +kernel) rfl rfl ?_
  refine lb_arg (j := 1) (show xk_lins 550 = some (.aload_n 0, 1) by decide +kernel) (show xk_lins 551 = some (.iload_n 3, 1) by decide +kernel) (show xk_lins 552 = some (.iconst 1, 1) by decide +kernel) (show xk_lins 553 = some (.iadd, 1) by decide +kernel) (show xk_lins 554 = some (.iaload, 1) by decide +kernel) (by decide) hi hL ?_
  refine lb_virt [.int (yv xs i 1)] [] (show xk_lins 555 = some (.invokevirtual 77, 3) by decide +kernel) (by decide +kernel) (by decide +kernel) (show xk_mt 120 = some _ from rfl) (by simp) rfl rfl (by decide) (by decide) (by simp [xk_sum, Value.category]) (rel_a h) ?_
  refine xk_Cl_imp ?_ A
  rintro r σ ⟨v, f1, rfl, rfl, rc, k⟩
  show xk_LB bs L xs 558 [.ref bs, .ref a, .ref b, .int (xj (i : Nat))] [.int v] (f1, w) Q
  refine lb_pure (show xk_lins 558 = some (.aload_n 2, 1) by decide +kernel) rfl rfl ?_
  refine lb_arg (j := 1) (show xk_lins 559 = some (.aload_n 0, 1) by decide +kernel) (show xk_lins 560 = some (.iload_n 3, 1) by decide +kernel) (show xk_lins 561 = some (.iconst 1, 1) by decide +kernel) (show xk_lins 562 = some (.iadd, 1) by decide +kernel) (show xk_lins 563 = some (.iaload, 1) by decide +kernel) (by decide) hi hL ?_
  refine lb_virt [.int (yv xs i 1)] [.int v] (show xk_lins 564 = some (.invokevirtual 80, 3) by decide +kernel) (by decide +kernel) (by decide +kernel) (show xk_mt 228 = some _ from rfl) (by simp) rfl rfl (by decide) (by decide) (by simp [xk_sum, Value.category]) rc ?_
  refine xk_Cl_imp ?_ k
  rintro r2 σ2 ⟨f2, rfl, rfl, h2⟩
  show xk_LB bs L xs 567 [.ref bs, .ref a, .ref b, .int (xj (i : Nat))] [.int v, .int v] (f2, w) Q
  exact lb_go (st' := []) (tgt := 881) (off := 314) (show xk_lins 567 = some (.if_icmp .eq 314, 3) by decide +kernel) rfl (xk_pure_no rfl rfl (fun _ _ => rfl) (fun _ _ => rfl)) (by simp [xk_br, xk_cmp]) (by decide) (fin f2 h2)
theorem case_16 (hL : L ≤ 3072) (hi : i + 6 ≤ L) (hab : a + 204 ≤ b) (h : REL f a b) (fin : ∀ f, REL f a b → xk_LB bs L xs 881 [.ref bs, .ref a, .ref b, .int (xj (i : Nat))] [] (f, w) Q) : xk_LB bs L xs 572 [.ref bs, .ref a, .ref b, .int (xj (i : Nat))] [] (f, w) Q := by
  have A := a_rings (D := 200) (w := w) (by omega) hab h
  refine lb_pure (show xk_lins 572 = some (.aload_n 1, 1) by decide +kernel) rfl rfl ?_
  refine lb_virt [] [] (show xk_lins 573 = some (.invokevirtual 81, 3) by decide +kernel) (by decide +kernel) (by decide +kernel) (show xk_mt 121 = some _ from rfl) (by simp) rfl rfl (by decide) (by decide) (by simp [xk_sum, Value.category]) (rel_a h) ?_
  refine xk_Cl_imp ?_ A
  rintro r σ ⟨v, f1, rfl, rfl, rc, k⟩
  show xk_LB bs L xs 576 [.ref bs, .ref a, .ref b, .int (xj (i : Nat))] [.int v] (f1, w) Q
  refine lb_pure (show xk_lins 576 = some (.aload_n 2, 1) by decide +kernel) rfl rfl ?_
  refine lb_virt [] [.int v] (show xk_lins 577 = some (.invokevirtual 84, 3) by decide +kernel) (by decide +kernel) (by decide +kernel) (show xk_mt 234 = some _ from rfl) (by simp) rfl rfl (by decide) (by decide) (by simp [xk_sum, Value.category]) rc ?_
  refine xk_Cl_imp ?_ k
  rintro r2 σ2 ⟨f2, rfl, rfl, h2⟩
  show xk_LB bs L xs 580 [.ref bs, .ref a, .ref b, .int (xj (i : Nat))] [.int v, .int v] (f2, w) Q
  exact lb_go (st' := []) (tgt := 881) (off := 301) (show xk_lins 580 = some (.if_icmp .eq 301, 3) by decide +kernel) rfl (xk_pure_no rfl rfl (fun _ _ => rfl) (fun _ _ => rfl)) (by simp [xk_br, xk_cmp]) (by decide) (fin f2 h2)
theorem case_17 (hL : L ≤ 3072) (hi : i + 6 ≤ L) (hab : a + 204 ≤ b) (h : REL f a b) (fin : ∀ f, REL f a b → xk_LB bs L xs 881 [.ref bs, .ref a, .ref b, .int (xj (i : Nat))] [] (f, w) Q) : xk_LB bs L xs 585 [.ref bs, .ref a, .ref b, .int (xj (i : Nat))] [] (f, w) Q := by
  have A := a_blanks (D := 200) (w := w) (y := (yv xs i 1).toInt) (by omega) hab h (ti_lo _) (ti_hi _)
  simp only [xj_ti] at A
  refine lb_pure (show xk_lins 585 = some (.aload_n 1, 1) by decide +kernel) rfl rfl ?_
  refine lb_arg (j := 1) (show xk_lins 586 = some (.aload_n 0, 1) by decide +kernel) (show xk_lins 587 = some (.iload_n 3, 1) by decide +kernel) (show xk_lins 588 = some (.iconst 1, 1) by decide +kernel) (show xk_lins 589 = some (.iadd, 1) by decide +kernel) (show xk_lins 590 = some (.iaload, 1) by decide +kernel) (by decide) hi hL ?_
  refine lb_virt [.int (yv xs i 1)] [] (show xk_lins 591 = some (.invokevirtual 85, 3) by decide +kernel) (by decide +kernel) (by decide +kernel) (show xk_mt 122 = some _ from rfl) (by simp) rfl rfl (by decide) (by decide) (by simp [xk_sum, Value.category]) (rel_a h) ?_
  refine xk_Cl_imp ?_ A
  rintro r σ ⟨v, f1, rfl, rfl, rc, k⟩
  show xk_LB bs L xs 594 [.ref bs, .ref a, .ref b, .int (xj (i : Nat))] [.int v] (f1, w) Q
  refine lb_pure (show xk_lins 594 = some (.aload_n 2, 1) by decide +kernel) rfl rfl ?_
  refine lb_arg (j := 1) (show xk_lins 595 = some (.aload_n 0, 1) by decide +kernel) (show xk_lins 596 = some (.iload_n 3, 1) by decide +kernel) (show xk_lins 597 = some (.iconst 1, 1) by decide +kernel) (show xk_lins 598 = some (.iadd, 1) by decide +kernel) (show xk_lins 599 = some (.iaload, 1) by decide +kernel) (by decide) hi hL ?_
  refine lb_virt [.int (yv xs i 1)] [.int v] (show xk_lins 600 = some (.invokevirtual 88, 3) by decide +kernel) (by decide +kernel) (by decide +kernel) (show xk_mt 235 = some _ from rfl) (by simp) rfl rfl (by decide) (by decide) (by simp [xk_sum, Value.category]) rc ?_
  refine xk_Cl_imp ?_ k
  rintro r2 σ2 ⟨f2, rfl, rfl, h2⟩
  show xk_LB bs L xs 603 [.ref bs, .ref a, .ref b, .int (xj (i : Nat))] [.int v, .int v] (f2, w) Q
  exact lb_go (st' := []) (tgt := 881) (off := 278) (show xk_lins 603 = some (.if_icmp .eq 278, 3) by decide +kernel) rfl (xk_pure_no rfl rfl (fun _ _ => rfl) (fun _ _ => rfl)) (by simp [xk_br, xk_cmp]) (by decide) (fin f2 h2)
theorem case_18 (hL : L ≤ 3072) (hi : i + 6 ≤ L) (hab : a + 204 ≤ b) (h : REL f a b) (fin : ∀ f, REL f a b → xk_LB bs L xs 881 [.ref bs, .ref a, .ref b, .int (xj (i : Nat))] [] (f, w) Q) : xk_LB bs L xs 608 [.ref bs, .ref a, .ref b, .int (xj (i : Nat))] [] (f, w) Q := by
  have A := a_second (D := 200) (w := w) (y := (yv xs i 1).toInt) (by omega) hab h (ti_lo _) (ti_hi _)
  simp only [xj_ti] at A
  refine lb_pure (show xk_lins 608 = some (.aload_n 1, 1) by decide +kernel) rfl rfl ?_
  refine lb_arg (j := 1) (show xk_lins 609 = some (.aload_n 0, 1) by decide +kernel) (show xk_lins 610 = some (.iload_n 3, 1) by decide +kernel) (show xk_lins 611 = some (.iconst 1, 1) by decide +kernel) (show xk_lins 612 = some (.iadd, 1) by decide +kernel) (show xk_lins 613 = some (.iaload, 1) by decide +kernel) (by decide) hi hL ?_
  refine lb_virt [.int (yv xs i 1)] [] (show xk_lins 614 = some (.invokevirtual 89, 3) by decide +kernel) (by decide +kernel) (by decide +kernel) (show xk_mt 124 = some _ from rfl) (by simp) rfl rfl (by decide) (by decide) (by simp [xk_sum, Value.category]) (rel_a h) ?_
  refine xk_Cl_imp ?_ A
  rintro r σ ⟨v, f1, rfl, rfl, rc, k⟩
  show xk_LB bs L xs 617 [.ref bs, .ref a, .ref b, .int (xj (i : Nat))] [.int v] (f1, w) Q
  refine lb_pure (show xk_lins 617 = some (.aload_n 2, 1) by decide +kernel) rfl rfl ?_
  refine lb_arg (j := 1) (show xk_lins 618 = some (.aload_n 0, 1) by decide +kernel) (show xk_lins 619 = some (.iload_n 3, 1) by decide +kernel) (show xk_lins 620 = some (.iconst 1, 1) by decide +kernel) (show xk_lins 621 = some (.iadd, 1) by decide +kernel) (show xk_lins 622 = some (.iaload, 1) by decide +kernel) (by decide) hi hL ?_
  refine lb_virt [.int (yv xs i 1)] [.int v] (show xk_lins 623 = some (.invokevirtual 92, 3) by decide +kernel) (by decide +kernel) (by decide +kernel) (show xk_mt 231 = some _ from rfl) (by simp) rfl rfl (by decide) (by decide) (by simp [xk_sum, Value.category]) rc ?_
  refine xk_Cl_imp ?_ k
  rintro r2 σ2 ⟨f2, rfl, rfl, h2⟩
  show xk_LB bs L xs 626 [.ref bs, .ref a, .ref b, .int (xj (i : Nat))] [.int v, .int v] (f2, w) Q
  exact lb_go (st' := []) (tgt := 881) (off := 255) (show xk_lins 626 = some (.if_icmp .eq 255, 3) by decide +kernel) rfl (xk_pure_no rfl rfl (fun _ _ => rfl) (fun _ _ => rfl)) (by simp [xk_br, xk_cmp]) (by decide) (fin f2 h2)
theorem case_19 (hL : L ≤ 3072) (hi : i + 6 ≤ L) (hab : a + 204 ≤ b) (h : REL f a b) (fin : ∀ f, REL f a b → xk_LB bs L xs 881 [.ref bs, .ref a, .ref b, .int (xj (i : Nat))] [] (f, w) Q) : xk_LB bs L xs 631 [.ref bs, .ref a, .ref b, .int (xj (i : Nat))] [] (f, w) Q := by
  have A := a_keep (D := 200) (w := w) (y := (yv xs i 1).toInt) (by omega) hab h (ti_lo _) (ti_hi _)
  simp only [xj_ti] at A
  refine lb_pure (show xk_lins 631 = some (.aload_n 1, 1) by decide +kernel) rfl rfl ?_
  refine lb_arg (j := 1) (show xk_lins 632 = some (.aload_n 0, 1) by decide +kernel) (show xk_lins 633 = some (.iload_n 3, 1) by decide +kernel) (show xk_lins 634 = some (.iconst 1, 1) by decide +kernel) (show xk_lins 635 = some (.iadd, 1) by decide +kernel) (show xk_lins 636 = some (.iaload, 1) by decide +kernel) (by decide) hi hL ?_
  refine lb_virt [.int (yv xs i 1)] [] (show xk_lins 637 = some (.invokevirtual 93, 3) by decide +kernel) (by decide +kernel) (by decide +kernel) (show xk_mt 125 = some _ from rfl) (by simp) rfl rfl (by decide) (by decide) (by simp [xk_sum, Value.category]) (rel_a h) ?_
  refine xk_Cl_imp ?_ A
  rintro r σ ⟨v, f1, rfl, rfl, rc, k⟩
  show xk_LB bs L xs 640 [.ref bs, .ref a, .ref b, .int (xj (i : Nat))] [.int v] (f1, w) Q
  refine lb_pure (show xk_lins 640 = some (.aload_n 2, 1) by decide +kernel) rfl rfl ?_
  refine lb_arg (j := 1) (show xk_lins 641 = some (.aload_n 0, 1) by decide +kernel) (show xk_lins 642 = some (.iload_n 3, 1) by decide +kernel) (show xk_lins 643 = some (.iconst 1, 1) by decide +kernel) (show xk_lins 644 = some (.iadd, 1) by decide +kernel) (show xk_lins 645 = some (.iaload, 1) by decide +kernel) (by decide) hi hL ?_
  refine lb_virt [.int (yv xs i 1)] [.int v] (show xk_lins 646 = some (.invokevirtual 96, 3) by decide +kernel) (by decide +kernel) (by decide +kernel) (show xk_mt 229 = some _ from rfl) (by simp) rfl rfl (by decide) (by decide) (by simp [xk_sum, Value.category]) rc ?_
  refine xk_Cl_imp ?_ k
  rintro r2 σ2 ⟨f2, rfl, rfl, h2⟩
  show xk_LB bs L xs 649 [.ref bs, .ref a, .ref b, .int (xj (i : Nat))] [.int v, .int v] (f2, w) Q
  exact lb_go (st' := []) (tgt := 881) (off := 232) (show xk_lins 649 = some (.if_icmp .eq 232, 3) by decide +kernel) rfl (xk_pure_no rfl rfl (fun _ _ => rfl) (fun _ _ => rfl)) (by simp [xk_br, xk_cmp]) (by decide) (fin f2 h2)
theorem case_20 (hL : L ≤ 3072) (hi : i + 6 ≤ L) (hab : a + 204 ≤ b) (h : REL f a b) (fin : ∀ f, REL f a b → xk_LB bs L xs 881 [.ref bs, .ref a, .ref b, .int (xj (i : Nat))] [] (f, w) Q) : xk_LB bs L xs 654 [.ref bs, .ref a, .ref b, .int (xj (i : Nat))] [] (f, w) Q := by
  have A := a_late (D := 200) (w := w) (by omega) hab h
  refine lb_pure (show xk_lins 654 = some (.aload_n 1, 1) by decide +kernel) rfl rfl ?_
  refine lb_virt [] [] (show xk_lins 655 = some (.invokevirtual 97, 3) by decide +kernel) (by decide +kernel) (by decide +kernel) (show xk_mt 126 = some _ from rfl) (by simp) rfl rfl (by decide) (by decide) (by simp [xk_sum, Value.category]) (rel_a h) ?_
  refine xk_Cl_imp ?_ A
  rintro r σ ⟨v, f1, rfl, rfl, rc, k⟩
  show xk_LB bs L xs 658 [.ref bs, .ref a, .ref b, .int (xj (i : Nat))] [.int v] (f1, w) Q
  refine lb_pure (show xk_lins 658 = some (.aload_n 2, 1) by decide +kernel) rfl rfl ?_
  refine lb_virt [] [.int v] (show xk_lins 659 = some (.invokevirtual 100, 3) by decide +kernel) (by decide +kernel) (by decide +kernel) (show xk_mt 230 = some _ from rfl) (by simp) rfl rfl (by decide) (by decide) (by simp [xk_sum, Value.category]) rc ?_
  refine xk_Cl_imp ?_ k
  rintro r2 σ2 ⟨f2, rfl, rfl, h2⟩
  show xk_LB bs L xs 662 [.ref bs, .ref a, .ref b, .int (xj (i : Nat))] [.int v, .int v] (f2, w) Q
  exact lb_go (st' := []) (tgt := 881) (off := 219) (show xk_lins 662 = some (.if_icmp .eq 219, 3) by decide +kernel) rfl (xk_pure_no rfl rfl (fun _ _ => rfl) (fun _ _ => rfl)) (by simp [xk_br, xk_cmp]) (by decide) (fin f2 h2)
theorem case_21 (hL : L ≤ 3072) (hi : i + 6 ≤ L) (hab : a + 204 ≤ b) (h : REL f a b) (fin : ∀ f, REL f a b → xk_LB bs L xs 881 [.ref bs, .ref a, .ref b, .int (xj (i : Nat))] [] (f, w) Q) : xk_LB bs L xs 667 [.ref bs, .ref a, .ref b, .int (xj (i : Nat))] [] (f, w) Q := by
  have A := a_log (D := 200) (w := w) (z := (yv xs i 1).toInt) (x := (yv xs i 2).toInt) (y := (yv xs i 3).toInt) (by omega) hab h (ti_lo _) (ti_hi _) (ti_lo _) (ti_hi _) (ti_lo _) (ti_hi _)
  simp only [xj_ti] at A
  refine lb_pure (show xk_lins 667 = some (.aload_n 1, 1) by decide +kernel) rfl rfl ?_
  refine lb_arg (j := 1) (show xk_lins 668 = some (.aload_n 0, 1) by decide +kernel) (show xk_lins 669 = some (.iload_n 3, 1) by decide +kernel) (show xk_lins 670 = some (.iconst 1, 1) by decide +kernel) (show xk_lins 671 = some (.iadd, 1) by decide +kernel) (show xk_lins 672 = some (.iaload, 1) by decide +kernel) (by decide) hi hL ?_
  refine lb_arg (j := 2) (show xk_lins 673 = some (.aload_n 0, 1) by decide +kernel) (show xk_lins 674 = some (.iload_n 3, 1) by decide +kernel) (show xk_lins 675 = some (.iconst 2, 1) by decide +kernel) (show xk_lins 676 = some (.iadd, 1) by decide +kernel) (show xk_lins 677 = some (.iaload, 1) by decide +kernel) (by decide) hi hL ?_
  refine lb_arg (j := 3) (show xk_lins 678 = some (.aload_n 0, 1) by decide +kernel) (show xk_lins 679 = some (.iload_n 3, 1) by decide +kernel) (show xk_lins 680 = some (.iconst 3, 1) by decide +kernel) (show xk_lins 681 = some (.iadd, 1) by decide +kernel) (show xk_lins 682 = some (.iaload, 1) by decide +kernel) (by decide) hi hL ?_
  refine lb_virt [.int (yv xs i 1), .int (yv xs i 2), .int (yv xs i 3)] [] (show xk_lins 683 = some (.invokevirtual 101, 3) by decide +kernel) (by decide +kernel) (by decide +kernel) (show xk_mt 127 = some _ from rfl) (by simp) rfl rfl (by decide) (by decide) (by simp [xk_sum, Value.category]) (rel_a h) ?_
  refine xk_Cl_imp ?_ A
  rintro r σ ⟨v, f1, rfl, rfl, rc, k⟩
  show xk_LB bs L xs 686 [.ref bs, .ref a, .ref b, .int (xj (i : Nat))] [.int v] (f1, w) Q
  refine lb_pure (show xk_lins 686 = some (.aload_n 2, 1) by decide +kernel) rfl rfl ?_
  refine lb_arg (j := 1) (show xk_lins 687 = some (.aload_n 0, 1) by decide +kernel) (show xk_lins 688 = some (.iload_n 3, 1) by decide +kernel) (show xk_lins 689 = some (.iconst 1, 1) by decide +kernel) (show xk_lins 690 = some (.iadd, 1) by decide +kernel) (show xk_lins 691 = some (.iaload, 1) by decide +kernel) (by decide) hi hL ?_
  refine lb_arg (j := 2) (show xk_lins 692 = some (.aload_n 0, 1) by decide +kernel) (show xk_lins 693 = some (.iload_n 3, 1) by decide +kernel) (show xk_lins 694 = some (.iconst 2, 1) by decide +kernel) (show xk_lins 695 = some (.iadd, 1) by decide +kernel) (show xk_lins 696 = some (.iaload, 1) by decide +kernel) (by decide) hi hL ?_
  refine lb_arg (j := 3) (show xk_lins 697 = some (.aload_n 0, 1) by decide +kernel) (show xk_lins 698 = some (.iload_n 3, 1) by decide +kernel) (show xk_lins 699 = some (.iconst 3, 1) by decide +kernel) (show xk_lins 700 = some (.iadd, 1) by decide +kernel) (show xk_lins 701 = some (.iaload, 1) by decide +kernel) (by decide) hi hL ?_
  refine lb_virt [.int (yv xs i 1), .int (yv xs i 2), .int (yv xs i 3)] [.int v] (show xk_lins 702 = some (.invokevirtual 105, 3) by decide +kernel) (by decide +kernel) (by decide +kernel) (show xk_mt 236 = some _ from rfl) (by simp) rfl rfl (by decide) (by decide) (by simp [xk_sum, Value.category]) rc ?_
  refine xk_Cl_imp ?_ k
  rintro r2 σ2 ⟨f2, rfl, rfl, h2⟩
  show xk_LB bs L xs 705 [.ref bs, .ref a, .ref b, .int (xj (i : Nat))] [.int v, .int v] (f2, w) Q
  exact lb_go (st' := []) (tgt := 881) (off := 176) (show xk_lins 705 = some (.if_icmp .eq 176, 3) by decide +kernel) rfl (xk_pure_no rfl rfl (fun _ _ => rfl) (fun _ _ => rfl)) (by simp [xk_br, xk_cmp]) (by decide) (fin f2 h2)
theorem case_22 (hL : L ≤ 3072) (hi : i + 6 ≤ L) (hab : a + 204 ≤ b) (h : REL f a b) (fin : ∀ f, REL f a b → xk_LB bs L xs 881 [.ref bs, .ref a, .ref b, .int (xj (i : Nat))] [] (f, w) Q) : xk_LB bs L xs 710 [.ref bs, .ref a, .ref b, .int (xj (i : Nat))] [] (f, w) Q := by
  have A := a_orders (D := 200) (w := w) (y := (yv xs i 1).toInt) (by omega) hab h (ti_lo _) (ti_hi _)
  simp only [xj_ti] at A
  refine lb_pure (show xk_lins 710 = some (.aload_n 1, 1) by decide +kernel) rfl rfl ?_
  refine lb_arg (j := 1) (show xk_lins 711 = some (.aload_n 0, 1) by decide +kernel) (show xk_lins 712 = some (.iload_n 3, 1) by decide +kernel) (show xk_lins 713 = some (.iconst 1, 1) by decide +kernel) (show xk_lins 714 = some (.iadd, 1) by decide +kernel) (show xk_lins 715 = some (.iaload, 1) by decide +kernel) (by decide) hi hL ?_
  refine lb_virt [.int (yv xs i 1)] [] (show xk_lins 716 = some (.invokevirtual 106, 3) by decide +kernel) (by decide +kernel) (by decide +kernel) (show xk_mt 128 = some _ from rfl) (by simp) rfl rfl (by decide) (by decide) (by simp [xk_sum, Value.category]) (rel_a h) ?_
  refine xk_Cl_imp ?_ A
  rintro r σ ⟨v, f1, rfl, rfl, rc, k⟩
  show xk_LB bs L xs 719 [.ref bs, .ref a, .ref b, .int (xj (i : Nat))] [.int v] (f1, w) Q
  refine lb_pure (show xk_lins 719 = some (.aload_n 2, 1) by decide +kernel) rfl rfl ?_
  refine lb_arg (j := 1) (show xk_lins 720 = some (.aload_n 0, 1) by decide +kernel) (show xk_lins 721 = some (.iload_n 3, 1) by decide +kernel) (show xk_lins 722 = some (.iconst 1, 1) by decide +kernel) (show xk_lins 723 = some (.iadd, 1) by decide +kernel) (show xk_lins 724 = some (.iaload, 1) by decide +kernel) (by decide) hi hL ?_
  refine lb_virt [.int (yv xs i 1)] [.int v] (show xk_lins 725 = some (.invokevirtual 109, 3) by decide +kernel) (by decide +kernel) (by decide +kernel) (show xk_mt 243 = some _ from rfl) (by simp) rfl rfl (by decide) (by decide) (by simp [xk_sum, Value.category]) rc ?_
  refine xk_Cl_imp ?_ k
  rintro r2 σ2 ⟨f2, rfl, rfl, h2⟩
  show xk_LB bs L xs 728 [.ref bs, .ref a, .ref b, .int (xj (i : Nat))] [.int v, .int v] (f2, w) Q
  exact lb_go (st' := []) (tgt := 881) (off := 153) (show xk_lins 728 = some (.if_icmp .eq 153, 3) by decide +kernel) rfl (xk_pure_no rfl rfl (fun _ _ => rfl) (fun _ _ => rfl)) (by simp [xk_br, xk_cmp]) (by decide) (fin f2 h2)
theorem case_23 (hL : L ≤ 3072) (hi : i + 6 ≤ L) (hab : a + 204 ≤ b) (h : REL f a b) (fin : ∀ f, REL f a b → xk_LB bs L xs 881 [.ref bs, .ref a, .ref b, .int (xj (i : Nat))] [] (f, w) Q) : xk_LB bs L xs 733 [.ref bs, .ref a, .ref b, .int (xj (i : Nat))] [] (f, w) Q := by
  have A := a_look (D := 200) (w := w) (y := (yv xs i 1).toInt) (by omega) hab h (ti_lo _) (ti_hi _)
  simp only [xj_ti] at A
  refine lb_pure (show xk_lins 733 = some (.aload_n 1, 1) by decide +kernel) rfl rfl ?_
  refine lb_arg (j := 1) (show xk_lins 734 = some (.aload_n 0, 1) by decide +kernel) (show xk_lins 735 = some (.iload_n 3, 1) by decide +kernel) (show xk_lins 736 = some (.iconst 1, 1) by decide +kernel) (show xk_lins 737 = some (.iadd, 1) by decide +kernel) (show xk_lins 738 = some (.iaload, 1) by decide +kernel) (by decide) hi hL ?_
  refine lb_virt [.int (yv xs i 1)] [] (show xk_lins 739 = some (.invokevirtual 110, 3) by decide +kernel) (by decide +kernel) (by decide +kernel) (show xk_mt 129 = some _ from rfl) (by simp) rfl rfl (by decide) (by decide) (by simp [xk_sum, Value.category]) (rel_a h) ?_
  refine xk_Cl_imp ?_ A
  rintro r σ ⟨v, f1, rfl, rfl, rc, k⟩
  show xk_LB bs L xs 742 [.ref bs, .ref a, .ref b, .int (xj (i : Nat))] [.int v] (f1, w) Q
  refine lb_pure (show xk_lins 742 = some (.aload_n 2, 1) by decide +kernel) rfl rfl ?_
  refine lb_arg (j := 1) (show xk_lins 743 = some (.aload_n 0, 1) by decide +kernel) (show xk_lins 744 = some (.iload_n 3, 1) by decide +kernel) (show xk_lins 745 = some (.iconst 1, 1) by decide +kernel) (show xk_lins 746 = some (.iadd, 1) by decide +kernel) (show xk_lins 747 = some (.iaload, 1) by decide +kernel) (by decide) hi hL ?_
  refine lb_virt [.int (yv xs i 1)] [.int v] (show xk_lins 748 = some (.invokevirtual 113, 3) by decide +kernel) (by decide +kernel) (by decide +kernel) (show xk_mt 245 = some _ from rfl) (by simp) rfl rfl (by decide) (by decide) (by simp [xk_sum, Value.category]) rc ?_
  refine xk_Cl_imp ?_ k
  rintro r2 σ2 ⟨f2, rfl, rfl, h2⟩
  show xk_LB bs L xs 751 [.ref bs, .ref a, .ref b, .int (xj (i : Nat))] [.int v, .int v] (f2, w) Q
  exact lb_go (st' := []) (tgt := 881) (off := 130) (show xk_lins 751 = some (.if_icmp .eq 130, 3) by decide +kernel) rfl (xk_pure_no rfl rfl (fun _ _ => rfl) (fun _ _ => rfl)) (by simp [xk_br, xk_cmp]) (by decide) (fin f2 h2)
theorem case_24 (hL : L ≤ 3072) (hi : i + 6 ≤ L) (hab : a + 204 ≤ b) (h : REL f a b) (fin : ∀ f, REL f a b → xk_LB bs L xs 881 [.ref bs, .ref a, .ref b, .int (xj (i : Nat))] [] (f, w) Q) : xk_LB bs L xs 756 [.ref bs, .ref a, .ref b, .int (xj (i : Nat))] [] (f, w) Q := by
  have A := a_seed (D := 200) (w := w) (x := (yv xs i 1).toInt) (by omega) hab h (ti_lo _) (ti_hi _)
  simp only [xj_ti] at A
  refine lb_pure (show xk_lins 756 = some (.aload_n 1, 1) by decide +kernel) rfl rfl ?_
  refine lb_arg (j := 1) (show xk_lins 757 = some (.aload_n 0, 1) by decide +kernel) (show xk_lins 758 = some (.iload_n 3, 1) by decide +kernel) (show xk_lins 759 = some (.iconst 1, 1) by decide +kernel) (show xk_lins 760 = some (.iadd, 1) by decide +kernel) (show xk_lins 761 = some (.iaload, 1) by decide +kernel) (by decide) hi hL ?_
  refine lb_virt [.int (yv xs i 1)] [] (show xk_lins 762 = some (.invokevirtual 114, 3) by decide +kernel) (by decide +kernel) (by decide +kernel) (show xk_mt 130 = some _ from rfl) (by simp) rfl rfl (by decide) (by decide) (by simp [xk_sum, Value.category]) (rel_a h) ?_
  refine xk_Cl_imp ?_ A
  rintro r σ ⟨v, f1, rfl, rfl, rc, k⟩
  show xk_LB bs L xs 765 [.ref bs, .ref a, .ref b, .int (xj (i : Nat))] [.int v] (f1, w) Q
  refine lb_pure (show xk_lins 765 = some (.aload_n 2, 1) by decide +kernel) rfl rfl ?_
  refine lb_arg (j := 1) (show xk_lins 766 = some (.aload_n 0, 1) by decide +kernel) (show xk_lins 767 = some (.iload_n 3, 1) by decide +kernel) (show xk_lins 768 = some (.iconst 1, 1) by decide +kernel) (show xk_lins 769 = some (.iadd, 1) by decide +kernel) (show xk_lins 770 = some (.iaload, 1) by decide +kernel) (by decide) hi hL ?_
  refine lb_virt [.int (yv xs i 1)] [.int v] (show xk_lins 771 = some (.invokevirtual 117, 3) by decide +kernel) (by decide +kernel) (by decide +kernel) (show xk_mt 246 = some _ from rfl) (by simp) rfl rfl (by decide) (by decide) (by simp [xk_sum, Value.category]) rc ?_
  refine xk_Cl_imp ?_ k
  rintro r2 σ2 ⟨f2, rfl, rfl, h2⟩
  show xk_LB bs L xs 774 [.ref bs, .ref a, .ref b, .int (xj (i : Nat))] [.int v, .int v] (f2, w) Q
  exact lb_go (st' := []) (tgt := 881) (off := 107) (show xk_lins 774 = some (.if_icmp .eq 107, 3) by decide +kernel) rfl (xk_pure_no rfl rfl (fun _ _ => rfl) (fun _ _ => rfl)) (by simp [xk_br, xk_cmp]) (by decide) (fin f2 h2)
theorem case_25 (hL : L ≤ 3072) (hi : i + 6 ≤ L) (hab : a + 204 ≤ b) (h : REL f a b) (fin : ∀ f, REL f a b → xk_LB bs L xs 881 [.ref bs, .ref a, .ref b, .int (xj (i : Nat))] [] (f, w) Q) : xk_LB bs L xs 779 [.ref bs, .ref a, .ref b, .int (xj (i : Nat))] [] (f, w) Q := by
  have A := a_days (D := 200) (w := w) (x := (yv xs i 1).toInt) (y := (yv xs i 2).toInt) (by omega) hab h (ti_lo _) (ti_hi _) (ti_lo _) (ti_hi _)
  simp only [xj_ti] at A
  refine lb_pure (show xk_lins 779 = some (.aload_n 1, 1) by decide +kernel) rfl rfl ?_
  refine lb_arg (j := 1) (show xk_lins 780 = some (.aload_n 0, 1) by decide +kernel) (show xk_lins 781 = some (.iload_n 3, 1) by decide +kernel) (show xk_lins 782 = some (.iconst 1, 1) by decide +kernel) (show xk_lins 783 = some (.iadd, 1) by decide +kernel) (show xk_lins 784 = some (.iaload, 1) by decide +kernel) (by decide) hi hL ?_
  refine lb_arg (j := 2) (show xk_lins 785 = some (.aload_n 0, 1) by decide +kernel) (show xk_lins 786 = some (.iload_n 3, 1) by decide +kernel) (show xk_lins 787 = some (.iconst 2, 1) by decide +kernel) (show xk_lins 788 = some (.iadd, 1) by decide +kernel) (show xk_lins 789 = some (.iaload, 1) by decide +kernel) (by decide) hi hL ?_
  refine lb_virt [.int (yv xs i 1), .int (yv xs i 2)] [] (show xk_lins 790 = some (.invokevirtual 118, 3) by decide +kernel) (by decide +kernel) (by decide +kernel) (show xk_mt 131 = some _ from rfl) (by simp) rfl rfl (by decide) (by decide) (by simp [xk_sum, Value.category]) (rel_a h) ?_
  refine xk_Cl_imp ?_ A
  rintro r σ ⟨v, f1, rfl, rfl, rc, k⟩
  show xk_LB bs L xs 793 [.ref bs, .ref a, .ref b, .int (xj (i : Nat))] [.int v] (f1, w) Q
  refine lb_pure (show xk_lins 793 = some (.aload_n 2, 1) by decide +kernel) rfl rfl ?_
  refine lb_arg (j := 1) (show xk_lins 794 = some (.aload_n 0, 1) by decide +kernel) (show xk_lins 795 = some (.iload_n 3, 1) by decide +kernel) (show xk_lins 796 = some (.iconst 1, 1) by decide +kernel) (show xk_lins 797 = some (.iadd, 1) by decide +kernel) (show xk_lins 798 = some (.iaload, 1) by decide +kernel) (by decide) hi hL ?_
  refine lb_arg (j := 2) (show xk_lins 799 = some (.aload_n 0, 1) by decide +kernel) (show xk_lins 800 = some (.iload_n 3, 1) by decide +kernel) (show xk_lins 801 = some (.iconst 2, 1) by decide +kernel) (show xk_lins 802 = some (.iadd, 1) by decide +kernel) (show xk_lins 803 = some (.iaload, 1) by decide +kernel) (by decide) hi hL ?_
  refine lb_virt [.int (yv xs i 1), .int (yv xs i 2)] [.int v] (show xk_lins 804 = some (.invokevirtual 121, 3) by decide +kernel) (by decide +kernel) (by decide +kernel) (show xk_mt 249 = some _ from rfl) (by simp) rfl rfl (by decide) (by decide) (by simp [xk_sum, Value.category]) rc ?_
  refine xk_Cl_imp ?_ k
  rintro r2 σ2 ⟨f2, rfl, rfl, h2⟩
  show xk_LB bs L xs 807 [.ref bs, .ref a, .ref b, .int (xj (i : Nat))] [.int v, .int v] (f2, w) Q
  exact lb_go (st' := []) (tgt := 881) (off := 74) (show xk_lins 807 = some (.if_icmp .eq 74, 3) by decide +kernel) rfl (xk_pure_no rfl rfl (fun _ _ => rfl) (fun _ _ => rfl)) (by simp [xk_br, xk_cmp]) (by decide) (fin f2 h2)
theorem case_26 (hL : L ≤ 3072) (hi : i + 6 ≤ L) (hab : a + 204 ≤ b) (h : REL f a b) (fin : ∀ f, REL f a b → xk_LB bs L xs 881 [.ref bs, .ref a, .ref b, .int (xj (i : Nat))] [] (f, w) Q) : xk_LB bs L xs 812 [.ref bs, .ref a, .ref b, .int (xj (i : Nat))] [] (f, w) Q := by
  have A := a_count (D := 200) (w := w) (y := (yv xs i 1).toInt) (by omega) hab h (ti_lo _) (ti_hi _)
  simp only [xj_ti] at A
  refine lb_pure (show xk_lins 812 = some (.aload_n 1, 1) by decide +kernel) rfl rfl ?_
  refine lb_arg (j := 1) (show xk_lins 813 = some (.aload_n 0, 1) by decide +kernel) (show xk_lins 814 = some (.iload_n 3, 1) by decide +kernel) (show xk_lins 815 = some (.iconst 1, 1) by decide +kernel) (show xk_lins 816 = some (.iadd, 1) by decide +kernel) (show xk_lins 817 = some (.iaload, 1) by decide +kernel) (by decide) hi hL ?_
  refine lb_virt [.int (yv xs i 1)] [] (show xk_lins 818 = some (.invokevirtual 122, 3) by decide +kernel) (by decide +kernel) (by decide +kernel) (show xk_mt 106 = some _ from rfl) (by simp) rfl rfl (by decide) (by decide) (by simp [xk_sum, Value.category]) (rel_a h) ?_
  refine xk_Cl_imp ?_ A
  rintro r σ ⟨v, f1, rfl, rfl, rc, k⟩
  show xk_LB bs L xs 821 [.ref bs, .ref a, .ref b, .int (xj (i : Nat))] [.int v] (f1, w) Q
  refine lb_pure (show xk_lins 821 = some (.aload_n 2, 1) by decide +kernel) rfl rfl ?_
  refine lb_arg (j := 1) (show xk_lins 822 = some (.aload_n 0, 1) by decide +kernel) (show xk_lins 823 = some (.iload_n 3, 1) by decide +kernel) (show xk_lins 824 = some (.iconst 1, 1) by decide +kernel) (show xk_lins 825 = some (.iadd, 1) by decide +kernel) (show xk_lins 826 = some (.iaload, 1) by decide +kernel) (by decide) hi hL ?_
  refine lb_virt [.int (yv xs i 1)] [.int v] (show xk_lins 827 = some (.invokevirtual 125, 3) by decide +kernel) (by decide +kernel) (by decide +kernel) (show xk_mt 250 = some _ from rfl) (by simp) rfl rfl (by decide) (by decide) (by simp [xk_sum, Value.category]) rc ?_
  refine xk_Cl_imp ?_ k
  rintro r2 σ2 ⟨f2, rfl, rfl, h2⟩
  show xk_LB bs L xs 830 [.ref bs, .ref a, .ref b, .int (xj (i : Nat))] [.int v, .int v] (f2, w) Q
  exact lb_go (st' := []) (tgt := 881) (off := 51) (show xk_lins 830 = some (.if_icmp .eq 51, 3) by decide +kernel) rfl (xk_pure_no rfl rfl (fun _ _ => rfl) (fun _ _ => rfl)) (by simp [xk_br, xk_cmp]) (by decide) (fin f2 h2)
theorem case_27 (hL : L ≤ 3072) (hi : i + 6 ≤ L) (hab : a + 204 ≤ b) (h : REL f a b) (fin : ∀ f, REL f a b → xk_LB bs L xs 881 [.ref bs, .ref a, .ref b, .int (xj (i : Nat))] [] (f, w) Q) : xk_LB bs L xs 835 [.ref bs, .ref a, .ref b, .int (xj (i : Nat))] [] (f, w) Q := by
  have A := a_image (D := 200) (w := w) (x := (yv xs i 1).toInt) (by omega) hab h (ti_lo _) (ti_hi _)
  simp only [xj_ti] at A
  refine lb_pure (show xk_lins 835 = some (.aload_n 1, 1) by decide +kernel) rfl rfl ?_
  refine lb_arg (j := 1) (show xk_lins 836 = some (.aload_n 0, 1) by decide +kernel) (show xk_lins 837 = some (.iload_n 3, 1) by decide +kernel) (show xk_lins 838 = some (.iconst 1, 1) by decide +kernel) (show xk_lins 839 = some (.iadd, 1) by decide +kernel) (show xk_lins 840 = some (.iaload, 1) by decide +kernel) (by decide) hi hL ?_
  refine lb_virt [.int (yv xs i 1)] [] (show xk_lins 841 = some (.invokevirtual 126, 3) by decide +kernel) (by decide +kernel) (by decide +kernel) (show xk_mt 133 = some _ from rfl) (by simp) rfl rfl (by decide) (by decide) (by simp [xk_sum, Value.category]) (rel_a h) ?_
  refine xk_Cl_imp ?_ A
  rintro r σ ⟨v, f1, rfl, rfl, rc, k⟩
  show xk_LB bs L xs 844 [.ref bs, .ref a, .ref b, .int (xj (i : Nat))] [.int v] (f1, w) Q
  refine lb_pure (show xk_lins 844 = some (.aload_n 2, 1) by decide +kernel) rfl rfl ?_
  refine lb_arg (j := 1) (show xk_lins 845 = some (.aload_n 0, 1) by decide +kernel) (show xk_lins 846 = some (.iload_n 3, 1) by decide +kernel) (show xk_lins 847 = some (.iconst 1, 1) by decide +kernel) (show xk_lins 848 = some (.iadd, 1) by decide +kernel) (show xk_lins 849 = some (.iaload, 1) by decide +kernel) (by decide) hi hL ?_
  refine lb_virt [.int (yv xs i 1)] [.int v] (show xk_lins 850 = some (.invokevirtual 129, 3) by decide +kernel) (by decide +kernel) (by decide +kernel) (show xk_mt 251 = some _ from rfl) (by simp) rfl rfl (by decide) (by decide) (by simp [xk_sum, Value.category]) rc ?_
  refine xk_Cl_imp ?_ k
  rintro r2 σ2 ⟨f2, rfl, rfl, h2⟩
  show xk_LB bs L xs 853 [.ref bs, .ref a, .ref b, .int (xj (i : Nat))] [.int v, .int v] (f2, w) Q
  exact lb_go (st' := []) (tgt := 881) (off := 28) (show xk_lins 853 = some (.if_icmp .eq 28, 3) by decide +kernel) rfl (xk_pure_no rfl rfl (fun _ _ => rfl) (fun _ _ => rfl)) (by simp [xk_br, xk_cmp]) (by decide) (fin f2 h2)
theorem case_28 (hL : L ≤ 3072) (hi : i + 6 ≤ L) (hab : a + 204 ≤ b) (h : REL f a b) (fin : ∀ f, REL f a b → xk_LB bs L xs 881 [.ref bs, .ref a, .ref b, .int (xj (i : Nat))] [] (f, w) Q) : xk_LB bs L xs 858 [.ref bs, .ref a, .ref b, .int (xj (i : Nat))] [] (f, w) Q := by
  have A := a_back (D := 200) (w := w) (x := (yv xs i 1).toInt) (by omega) hab h (ti_lo _) (ti_hi _)
  simp only [xj_ti] at A
  refine lb_pure (show xk_lins 858 = some (.aload_n 1, 1) by decide +kernel) rfl rfl ?_
  refine lb_arg (j := 1) (show xk_lins 859 = some (.aload_n 0, 1) by decide +kernel) (show xk_lins 860 = some (.iload_n 3, 1) by decide +kernel) (show xk_lins 861 = some (.iconst 1, 1) by decide +kernel) (show xk_lins 862 = some (.iadd, 1) by decide +kernel) (show xk_lins 863 = some (.iaload, 1) by decide +kernel) (by decide) hi hL ?_
  refine lb_virt [.int (yv xs i 1)] [] (show xk_lins 864 = some (.invokevirtual 130, 3) by decide +kernel) (by decide +kernel) (by decide +kernel) (show xk_mt 134 = some _ from rfl) (by simp) rfl rfl (by decide) (by decide) (by simp [xk_sum, Value.category]) (rel_a h) ?_
  refine xk_Cl_imp ?_ A
  rintro r σ ⟨v, f1, rfl, rfl, rc, k⟩
  show xk_LB bs L xs 867 [.ref bs, .ref a, .ref b, .int (xj (i : Nat))] [.int v] (f1, w) Q
  refine lb_pure (show xk_lins 867 = some (.aload_n 2, 1) by decide +kernel) rfl rfl ?_
  refine lb_arg (j := 1) (show xk_lins 868 = some (.aload_n 0, 1) by decide +kernel) (show xk_lins 869 = some (.iload_n 3, 1) by decide +kernel) (show xk_lins 870 = some (.iconst 1, 1) by decide +kernel) (show xk_lins 871 = some (.iadd, 1) by decide +kernel) (show xk_lins 872 = some (.iaload, 1) by decide +kernel) (by decide) hi hL ?_
  refine lb_virt [.int (yv xs i 1)] [.int v] (show xk_lins 873 = some (.invokevirtual 133, 3) by decide +kernel) (by decide +kernel) (by decide +kernel) (show xk_mt 252 = some _ from rfl) (by simp) rfl rfl (by decide) (by decide) (by simp [xk_sum, Value.category]) rc ?_
  refine xk_Cl_imp ?_ k
  rintro r2 σ2 ⟨f2, rfl, rfl, h2⟩
  show xk_LB bs L xs 876 [.ref bs, .ref a, .ref b, .int (xj (i : Nat))] [.int v, .int v] (f2, w) Q
  exact lb_go (st' := []) (tgt := 881) (off := 5) (show xk_lins 876 = some (.if_icmp .eq 5, 3) by decide +kernel) rfl (xk_pure_no rfl rfl (fun _ _ => rfl) (fun _ _ => rfl)) (by simp [xk_br, xk_cmp]) (by decide) (fin f2 h2)
theorem law_switch (hL : L ≤ 3072) (hi : i + 6 ≤ L) (hab : a + 204 ≤ b) (h : REL f a b) (fin : ∀ f, REL f a b → xk_LB bs L xs 881 [.ref bs, .ref a, .ref b, .int (xj (i : Nat))] [] (f, w) Q) : xk_LB bs L xs 33 [.ref bs, .ref a, .ref b, .int (xj (i : Nat))] [.int x] (f, w) Q := by
  by_cases h0 : x = xj 0
  · subst h0
    exact lb_go (st' := []) (tgt := 164) (off := 131) (show xk_lins 33 = some (.tableswitch 848 0 28 #[131, 194, 217, 230, 243, 276, 309, 332, 355, 378, 391, 404, 417, 450, 483, 516, 539, 552, 575, 598, 621, 634, 677, 700, 723, 746, 779, 802, 825], 131) by decide +kernel) rfl (xk_pure_no rfl rfl (fun _ _ => rfl) (fun _ _ => rfl)) (by simp [xk_br, show (xj 0).toInt = 0 from by decide]) (by decide) (case_0 hL hi hab h fin)
  have g0 : ¬ x.toInt = 0 := fun q => h0 (by rw [← Int32.toInt_inj, q]; decide)
  by_cases h1 : x = xj 1
  · subst h1
    exact lb_go (st' := []) (tgt := 227) (off := 194) (show xk_lins 33 = some (.tableswitch 848 0 28 #[131, 194, 217, 230, 243, 276, 309, 332, 355, 378, 391, 404, 417, 450, 483, 516, 539, 552, 575, 598, 621, 634, 677, 700, 723, 746, 779, 802, 825], 131) by decide +kernel) rfl (xk_pure_no rfl rfl (fun _ _ => rfl) (fun _ _ => rfl)) (by simp [xk_br, show (xj 1).toInt = 1 from by decide]) (by decide) (case_1 hL hi hab h fin)
  have g1 : ¬ x.toInt = 1 := fun q => h1 (by rw [← Int32.toInt_inj, q]; decide)
  by_cases h2 : x = xj 2
  · subst h2
    exact lb_go (st' := []) (tgt := 250) (off := 217) (show xk_lins 33 = some (.tableswitch 848 0 28 #[131, 194, 217, 230, 243, 276, 309, 332, 355, 378, 391, 404, 417, 450, 483, 516, 539, 552, 575, 598, 621, 634, 677, 700, 723, 746, 779, 802, 825], 131) by decide +kernel) rfl (xk_pure_no rfl rfl (fun _ _ => rfl) (fun _ _ => rfl)) (by simp [xk_br, show (xj 2).toInt = 2 from by decide]) (by decide) (case_2 hL hi hab h fin)
  have g2 : ¬ x.toInt = 2 := fun q => h2 (by rw [← Int32.toInt_inj, q]; decide)
  by_cases h3 : x = xj 3
  · subst h3
    exact lb_go (st' := []) (tgt := 263) (off := 230) (show xk_lins 33 = some (.tableswitch 848 0 28 #[131, 194, 217, 230, 243, 276, 309, 332, 355, 378, 391, 404, 417, 450, 483, 516, 539, 552, 575, 598, 621, 634, 677, 700, 723, 746, 779, 802, 825], 131) by decide +kernel) rfl (xk_pure_no rfl rfl (fun _ _ => rfl) (fun _ _ => rfl)) (by simp [xk_br, show (xj 3).toInt = 3 from by decide]) (by decide) (case_3 hL hi hab h fin)
  have g3 : ¬ x.toInt = 3 := fun q => h3 (by rw [← Int32.toInt_inj, q]; decide)
  by_cases h4 : x = xj 4
  · subst h4
    exact lb_go (st' := []) (tgt := 276) (off := 243) (show xk_lins 33 = some (.tableswitch 848 0 28 #[131, 194, 217, 230, 243, 276, 309, 332, 355, 378, 391, 404, 417, 450, 483, 516, 539, 552, 575, 598, 621, 634, 677, 700, 723, 746, 779, 802, 825], 131) by decide +kernel) rfl (xk_pure_no rfl rfl (fun _ _ => rfl) (fun _ _ => rfl)) (by simp [xk_br, show (xj 4).toInt = 4 from by decide]) (by decide) (case_4 hL hi hab h fin)
  have g4 : ¬ x.toInt = 4 := fun q => h4 (by rw [← Int32.toInt_inj, q]; decide)
  by_cases h5 : x = xj 5
  · subst h5
    exact lb_go (st' := []) (tgt := 309) (off := 276) (show xk_lins 33 = some (.tableswitch 848 0 28 #[131, 194, 217, 230, 243, 276, 309, 332, 355, 378, 391, 404, 417, 450, 483, 516, 539, 552, 575, 598, 621, 634, 677, 700, 723, 746, 779, 802, 825], 131) by decide +kernel) rfl (xk_pure_no rfl rfl (fun _ _ => rfl) (fun _ _ => rfl)) (by simp [xk_br, show (xj 5).toInt = 5 from by decide]) (by decide) (case_5 hL hi hab h fin)
  have g5 : ¬ x.toInt = 5 := fun q => h5 (by rw [← Int32.toInt_inj, q]; decide)
  by_cases h6 : x = xj 6
  · subst h6
    exact lb_go (st' := []) (tgt := 342) (off := 309) (show xk_lins 33 = some (.tableswitch 848 0 28 #[131, 194, 217, 230, 243, 276, 309, 332, 355, 378, 391, 404, 417, 450, 483, 516, 539, 552, 575, 598, 621, 634, 677, 700, 723, 746, 779, 802, 825], 131) by decide +kernel) rfl (xk_pure_no rfl rfl (fun _ _ => rfl) (fun _ _ => rfl)) (by simp [xk_br, show (xj 6).toInt = 6 from by decide]) (by decide) (case_6 hL hi hab h fin)
  have g6 : ¬ x.toInt = 6 := fun q => h6 (by rw [← Int32.toInt_inj, q]; decide)
  by_cases h7 : x = xj 7
  · subst h7
    exact lb_go (st' := []) (tgt := 365) (off := 332) (show xk_lins 33 = some (.tableswitch 848 0 28 #[131, 194, 217, 230, 243, 276, 309, 332, 355, 378, 391, 404, 417, 450, 483, 516, 539, 552, 575, 598, 621, 634, 677, 700, 723, 746, 779, 802, 825], 131) by decide +kernel) rfl (xk_pure_no rfl rfl (fun _ _ => rfl) (fun _ _ => rfl)) (by simp [xk_br, show (xj 7).toInt = 7 from by decide]) (by decide) (case_7 hL hi hab h fin)
  have g7 : ¬ x.toInt = 7 := fun q => h7 (by rw [← Int32.toInt_inj, q]; decide)
  by_cases h8 : x = xj 8
  · subst h8
    exact lb_go (st' := []) (tgt := 388) (off := 355) (show xk_lins 33 = some (.tableswitch 848 0 28 #[131, 194, 217, 230, 243, 276, 309, 332, 355, 378, 391, 404, 417, 450, 483, 516, 539, 552, 575, 598, 621, 634, 677, 700, 723, 746, 779, 802, 825], 131) by decide +kernel) rfl (xk_pure_no rfl rfl (fun _ _ => rfl) (fun _ _ => rfl)) (by simp [xk_br, show (xj 8).toInt = 8 from by decide]) (by decide) (case_8 hL hi hab h fin)
  have g8 : ¬ x.toInt = 8 := fun q => h8 (by rw [← Int32.toInt_inj, q]; decide)
  by_cases h9 : x = xj 9
  · subst h9
    exact lb_go (st' := []) (tgt := 411) (off := 378) (show xk_lins 33 = some (.tableswitch 848 0 28 #[131, 194, 217, 230, 243, 276, 309, 332, 355, 378, 391, 404, 417, 450, 483, 516, 539, 552, 575, 598, 621, 634, 677, 700, 723, 746, 779, 802, 825], 131) by decide +kernel) rfl (xk_pure_no rfl rfl (fun _ _ => rfl) (fun _ _ => rfl)) (by simp [xk_br, show (xj 9).toInt = 9 from by decide]) (by decide) (case_9 hL hi hab h fin)
  have g9 : ¬ x.toInt = 9 := fun q => h9 (by rw [← Int32.toInt_inj, q]; decide)
  by_cases h10 : x = xj 10
  · subst h10
    exact lb_go (st' := []) (tgt := 424) (off := 391) (show xk_lins 33 = some (.tableswitch 848 0 28 #[131, 194, 217, 230, 243, 276, 309, 332, 355, 378, 391, 404, 417, 450, 483, 516, 539, 552, 575, 598, 621, 634, 677, 700, 723, 746, 779, 802, 825], 131) by decide +kernel) rfl (xk_pure_no rfl rfl (fun _ _ => rfl) (fun _ _ => rfl)) (by simp [xk_br, show (xj 10).toInt = 10 from by decide]) (by decide) (case_10 hL hi hab h fin)
  have g10 : ¬ x.toInt = 10 := fun q => h10 (by rw [← Int32.toInt_inj, q]; decide)
  by_cases h11 : x = xj 11
  · subst h11
    exact lb_go (st' := []) (tgt := 437) (off := 404) (show xk_lins 33 = some (.tableswitch 848 0 28 #[131, 194, 217, 230, 243, 276, 309, 332, 355, 378, 391, 404, 417, 450, 483, 516, 539, 552, 575, 598, 621, 634, 677, 700, 723, 746, 779, 802, 825], 131) by decide +kernel) rfl (xk_pure_no rfl rfl (fun _ _ => rfl) (fun _ _ => rfl)) (by simp [xk_br, show (xj 11).toInt = 11 from by decide]) (by decide) (case_11 hL hi hab h fin)
  have g11 : ¬ x.toInt = 11 := fun q => h11 (by rw [← Int32.toInt_inj, q]; decide)
  by_cases h12 : x = xj 12
  · subst h12
    exact lb_go (st' := []) (tgt := 450) (off := 417) (show xk_lins 33 = some (.tableswitch 848 0 28 #[131, 194, 217, 230, 243, 276, 309, 332, 355, 378, 391, 404, 417, 450, 483, 516, 539, 552, 575, 598, 621, 634, 677, 700, 723, 746, 779, 802, 825], 131) by decide +kernel) rfl (xk_pure_no rfl rfl (fun _ _ => rfl) (fun _ _ => rfl)) (by simp [xk_br, show (xj 12).toInt = 12 from by decide]) (by decide) (case_12 hL hi hab h fin)
  have g12 : ¬ x.toInt = 12 := fun q => h12 (by rw [← Int32.toInt_inj, q]; decide)
  by_cases h13 : x = xj 13
  · subst h13
    exact lb_go (st' := []) (tgt := 483) (off := 450) (show xk_lins 33 = some (.tableswitch 848 0 28 #[131, 194, 217, 230, 243, 276, 309, 332, 355, 378, 391, 404, 417, 450, 483, 516, 539, 552, 575, 598, 621, 634, 677, 700, 723, 746, 779, 802, 825], 131) by decide +kernel) rfl (xk_pure_no rfl rfl (fun _ _ => rfl) (fun _ _ => rfl)) (by simp [xk_br, show (xj 13).toInt = 13 from by decide]) (by decide) (case_13 hL hi hab h fin)
  have g13 : ¬ x.toInt = 13 := fun q => h13 (by rw [← Int32.toInt_inj, q]; decide)
  by_cases h14 : x = xj 14
  · subst h14
    exact lb_go (st' := []) (tgt := 516) (off := 483) (show xk_lins 33 = some (.tableswitch 848 0 28 #[131, 194, 217, 230, 243, 276, 309, 332, 355, 378, 391, 404, 417, 450, 483, 516, 539, 552, 575, 598, 621, 634, 677, 700, 723, 746, 779, 802, 825], 131) by decide +kernel) rfl (xk_pure_no rfl rfl (fun _ _ => rfl) (fun _ _ => rfl)) (by simp [xk_br, show (xj 14).toInt = 14 from by decide]) (by decide) (case_14 hL hi hab h fin)
  have g14 : ¬ x.toInt = 14 := fun q => h14 (by rw [← Int32.toInt_inj, q]; decide)
  by_cases h15 : x = xj 15
  · subst h15
    exact lb_go (st' := []) (tgt := 549) (off := 516) (show xk_lins 33 = some (.tableswitch 848 0 28 #[131, 194, 217, 230, 243, 276, 309, 332, 355, 378, 391, 404, 417, 450, 483, 516, 539, 552, 575, 598, 621, 634, 677, 700, 723, 746, 779, 802, 825], 131) by decide +kernel) rfl (xk_pure_no rfl rfl (fun _ _ => rfl) (fun _ _ => rfl)) (by simp [xk_br, show (xj 15).toInt = 15 from by decide]) (by decide) (case_15 hL hi hab h fin)
  have g15 : ¬ x.toInt = 15 := fun q => h15 (by rw [← Int32.toInt_inj, q]; decide)
  by_cases h16 : x = xj 16
  · subst h16
    exact lb_go (st' := []) (tgt := 572) (off := 539) (show xk_lins 33 = some (.tableswitch 848 0 28 #[131, 194, 217, 230, 243, 276, 309, 332, 355, 378, 391, 404, 417, 450, 483, 516, 539, 552, 575, 598, 621, 634, 677, 700, 723, 746, 779, 802, 825], 131) by decide +kernel) rfl (xk_pure_no rfl rfl (fun _ _ => rfl) (fun _ _ => rfl)) (by simp [xk_br, show (xj 16).toInt = 16 from by decide]) (by decide) (case_16 hL hi hab h fin)
  have g16 : ¬ x.toInt = 16 := fun q => h16 (by rw [← Int32.toInt_inj, q]; decide)
  by_cases h17 : x = xj 17
  · subst h17
    exact lb_go (st' := []) (tgt := 585) (off := 552) (show xk_lins 33 = some (.tableswitch 848 0 28 #[131, 194, 217, 230, 243, 276, 309, 332, 355, 378, 391, 404, 417, 450, 483, 516, 539, 552, 575, 598, 621, 634, 677, 700, 723, 746, 779, 802, 825], 131) by decide +kernel) rfl (xk_pure_no rfl rfl (fun _ _ => rfl) (fun _ _ => rfl)) (by simp [xk_br, show (xj 17).toInt = 17 from by decide]) (by decide) (case_17 hL hi hab h fin)
  have g17 : ¬ x.toInt = 17 := fun q => h17 (by rw [← Int32.toInt_inj, q]; decide)
  by_cases h18 : x = xj 18
  · subst h18
    exact lb_go (st' := []) (tgt := 608) (off := 575) (show xk_lins 33 = some (.tableswitch 848 0 28 #[131, 194, 217, 230, 243, 276, 309, 332, 355, 378, 391, 404, 417, 450, 483, 516, 539, 552, 575, 598, 621, 634, 677, 700, 723, 746, 779, 802, 825], 131) by decide +kernel) rfl (xk_pure_no rfl rfl (fun _ _ => rfl) (fun _ _ => rfl)) (by simp [xk_br, show (xj 18).toInt = 18 from by decide]) (by decide) (case_18 hL hi hab h fin)
  have g18 : ¬ x.toInt = 18 := fun q => h18 (by rw [← Int32.toInt_inj, q]; decide)
  by_cases h19 : x = xj 19
  · subst h19
    exact lb_go (st' := []) (tgt := 631) (off := 598) (show xk_lins 33 = some (.tableswitch 848 0 28 #[131, 194, 217, 230, 243, 276, 309, 332, 355, 378, 391, 404, 417, 450, 483, 516, 539, 552, 575, 598, 621, 634, 677, 700, 723, 746, 779, 802, 825], 131) by decide +kernel) rfl (xk_pure_no rfl rfl (fun _ _ => rfl) (fun _ _ => rfl)) (by simp [xk_br, show (xj 19).toInt = 19 from by decide]) (by decide) (case_19 hL hi hab h fin)
  have g19 : ¬ x.toInt = 19 := fun q => h19 (by rw [← Int32.toInt_inj, q]; decide)
  by_cases h20 : x = xj 20
  · subst h20
    exact lb_go (st' := []) (tgt := 654) (off := 621) (show xk_lins 33 = some (.tableswitch 848 0 28 #[131, 194, 217, 230, 243, 276, 309, 332, 355, 378, 391, 404, 417, 450, 483, 516, 539, 552, 575, 598, 621, 634, 677, 700, 723, 746, 779, 802, 825], 131) by decide +kernel) rfl (xk_pure_no rfl rfl (fun _ _ => rfl) (fun _ _ => rfl)) (by simp [xk_br, show (xj 20).toInt = 20 from by decide]) (by decide) (case_20 hL hi hab h fin)
  have g20 : ¬ x.toInt = 20 := fun q => h20 (by rw [← Int32.toInt_inj, q]; decide)
  by_cases h21 : x = xj 21
  · subst h21
    exact lb_go (st' := []) (tgt := 667) (off := 634) (show xk_lins 33 = some (.tableswitch 848 0 28 #[131, 194, 217, 230, 243, 276, 309, 332, 355, 378, 391, 404, 417, 450, 483, 516, 539, 552, 575, 598, 621, 634, 677, 700, 723, 746, 779, 802, 825], 131) by decide +kernel) rfl (xk_pure_no rfl rfl (fun _ _ => rfl) (fun _ _ => rfl)) (by simp [xk_br, show (xj 21).toInt = 21 from by decide]) (by decide) (case_21 hL hi hab h fin)
  have g21 : ¬ x.toInt = 21 := fun q => h21 (by rw [← Int32.toInt_inj, q]; decide)
  by_cases h22 : x = xj 22
  · subst h22
    exact lb_go (st' := []) (tgt := 710) (off := 677) (show xk_lins 33 = some (.tableswitch 848 0 28 #[131, 194, 217, 230, 243, 276, 309, 332, 355, 378, 391, 404, 417, 450, 483, 516, 539, 552, 575, 598, 621, 634, 677, 700, 723, 746, 779, 802, 825], 131) by decide +kernel) rfl (xk_pure_no rfl rfl (fun _ _ => rfl) (fun _ _ => rfl)) (by simp [xk_br, show (xj 22).toInt = 22 from by decide]) (by decide) (case_22 hL hi hab h fin)
  have g22 : ¬ x.toInt = 22 := fun q => h22 (by rw [← Int32.toInt_inj, q]; decide)
  by_cases h23 : x = xj 23
  · subst h23
    exact lb_go (st' := []) (tgt := 733) (off := 700) (show xk_lins 33 = some (.tableswitch 848 0 28 #[131, 194, 217, 230, 243, 276, 309, 332, 355, 378, 391, 404, 417, 450, 483, 516, 539, 552, 575, 598, 621, 634, 677, 700, 723, 746, 779, 802, 825], 131) by decide +kernel) rfl (xk_pure_no rfl rfl (fun _ _ => rfl) (fun _ _ => rfl)) (by simp [xk_br, show (xj 23).toInt = 23 from by decide]) (by decide) (case_23 hL hi hab h fin)
  have g23 : ¬ x.toInt = 23 := fun q => h23 (by rw [← Int32.toInt_inj, q]; decide)
  by_cases h24 : x = xj 24
  · subst h24
    exact lb_go (st' := []) (tgt := 756) (off := 723) (show xk_lins 33 = some (.tableswitch 848 0 28 #[131, 194, 217, 230, 243, 276, 309, 332, 355, 378, 391, 404, 417, 450, 483, 516, 539, 552, 575, 598, 621, 634, 677, 700, 723, 746, 779, 802, 825], 131) by decide +kernel) rfl (xk_pure_no rfl rfl (fun _ _ => rfl) (fun _ _ => rfl)) (by simp [xk_br, show (xj 24).toInt = 24 from by decide]) (by decide) (case_24 hL hi hab h fin)
  have g24 : ¬ x.toInt = 24 := fun q => h24 (by rw [← Int32.toInt_inj, q]; decide)
  by_cases h25 : x = xj 25
  · subst h25
    exact lb_go (st' := []) (tgt := 779) (off := 746) (show xk_lins 33 = some (.tableswitch 848 0 28 #[131, 194, 217, 230, 243, 276, 309, 332, 355, 378, 391, 404, 417, 450, 483, 516, 539, 552, 575, 598, 621, 634, 677, 700, 723, 746, 779, 802, 825], 131) by decide +kernel) rfl (xk_pure_no rfl rfl (fun _ _ => rfl) (fun _ _ => rfl)) (by simp [xk_br, show (xj 25).toInt = 25 from by decide]) (by decide) (case_25 hL hi hab h fin)
  have g25 : ¬ x.toInt = 25 := fun q => h25 (by rw [← Int32.toInt_inj, q]; decide)
  by_cases h26 : x = xj 26
  · subst h26
    exact lb_go (st' := []) (tgt := 812) (off := 779) (show xk_lins 33 = some (.tableswitch 848 0 28 #[131, 194, 217, 230, 243, 276, 309, 332, 355, 378, 391, 404, 417, 450, 483, 516, 539, 552, 575, 598, 621, 634, 677, 700, 723, 746, 779, 802, 825], 131) by decide +kernel) rfl (xk_pure_no rfl rfl (fun _ _ => rfl) (fun _ _ => rfl)) (by simp [xk_br, show (xj 26).toInt = 26 from by decide]) (by decide) (case_26 hL hi hab h fin)
  have g26 : ¬ x.toInt = 26 := fun q => h26 (by rw [← Int32.toInt_inj, q]; decide)
  by_cases h27 : x = xj 27
  · subst h27
    exact lb_go (st' := []) (tgt := 835) (off := 802) (show xk_lins 33 = some (.tableswitch 848 0 28 #[131, 194, 217, 230, 243, 276, 309, 332, 355, 378, 391, 404, 417, 450, 483, 516, 539, 552, 575, 598, 621, 634, 677, 700, 723, 746, 779, 802, 825], 131) by decide +kernel) rfl (xk_pure_no rfl rfl (fun _ _ => rfl) (fun _ _ => rfl)) (by simp [xk_br, show (xj 27).toInt = 27 from by decide]) (by decide) (case_27 hL hi hab h fin)
  have g27 : ¬ x.toInt = 27 := fun q => h27 (by rw [← Int32.toInt_inj, q]; decide)
  by_cases h28 : x = xj 28
  · subst h28
    exact lb_go (st' := []) (tgt := 858) (off := 825) (show xk_lins 33 = some (.tableswitch 848 0 28 #[131, 194, 217, 230, 243, 276, 309, 332, 355, 378, 391, 404, 417, 450, 483, 516, 539, 552, 575, 598, 621, 634, 677, 700, 723, 746, 779, 802, 825], 131) by decide +kernel) rfl (xk_pure_no rfl rfl (fun _ _ => rfl) (fun _ _ => rfl)) (by simp [xk_br, show (xj 28).toInt = 28 from by decide]) (by decide) (case_28 hL hi hab h fin)
  have g28 : ¬ x.toInt = 28 := fun q => h28 (by rw [← Int32.toInt_inj, q]; decide)
  exact lb_go (st' := []) (tgt := 881) (off := 848) (show xk_lins 33 = some (.tableswitch 848 0 28 #[131, 194, 217, 230, 243, 276, 309, 332, 355, 378, 391, 404, 417, 450, 483, 516, 539, 552, 575, 598, 621, 634, 677, 700, 723, 746, 779, 802, 825], 131) by decide +kernel) rfl (xk_pure_no rfl rfl (fun _ _ => rfl) (fun _ _ => rfl)) (by unfold xk_br; exact if_pos (by omega)) (by decide) (fin f h)
theorem law_loop (hL : L ≤ 3072) (hab : a + 204 ≤ b) : ∀ (m i : Nat) (f : Nat → xk_C), L ≤ i + m → i ≤ 4000 → REL f a b → xk_LB bs L xs 18 [.ref bs, .ref a, .ref b, .int (xj (i : Nat))] [] (f, w) (fun σ => σ.2 = w) := by
  intro m
  induction m using Nat.strongRecOn with
  | _ m ih =>
    intro i f hm hi4 h
    refine lb_pure (show xk_lins 18 = some (.iload_n 3, 1) by decide +kernel) rfl rfl (lb_pure (show xk_lins 19 = some (.aload_n 0, 1) by decide +kernel) rfl rfl (lb_ext (st' := .int (Int32.ofNat L) :: .int (xj (i : Nat)) :: []) (show xk_lins 20 = some (.arraylength, 1) by decide +kernel) ?_ ?_))
    · unfold xk_lext; exact if_pos ⟨rfl, rfl⟩
    rw [xj_ofNat]
    refine lb_pure (ρ' := [.ref bs, .ref a, .ref b, .int (xj (i : Nat))]) (st' := .int (xj 6) :: .int (xj (L : Nat)) :: .int (xj (i : Nat)) :: []) (show xk_lins 21 = some (.bipush 6, 2) by decide +kernel) rfl rfl (lb_pure (ρ' := [.ref bs, .ref a, .ref b, .int (xj (i : Nat))]) (st' := .int (xj (L : Nat) - xj 6) :: .int (xj (i : Nat)) :: []) (show xk_lins 23 = some (.isub, 1) by decide +kernel) rfl rfl ?_)
    rw [xj_sub]
    by_cases c : i + 6 ≤ L
    · have hgt : ¬ (xj ((L : Nat) - 6 : Int) < xj (i : Nat)) := by rw [xj_lt (by omega) (by omega) (by omega) (by omega)]; omega
      refine lb_no (st' := []) (off := 863) (show xk_lins 24 = some (.if_icmp .gt 863, 3) by decide +kernel) rfl (xk_pure_no rfl rfl (fun _ _ => rfl) (fun _ _ => rfl)) (by simp [xk_br, xk_cmp, hgt]) ?_
      refine lb_pure (show xk_lins 27 = some (.aload_n 0, 1) by decide +kernel) rfl rfl (lb_pure (show xk_lins 28 = some (.iload_n 3, 1) by decide +kernel) rfl rfl (lb_ext (st' := .int (xs i) :: []) (show xk_lins 29 = some (.iaload, 1) by decide +kernel) ?_ ?_))
      · have hin := (xj_in (z := (i : Nat)) (n := L) (by omega) (by omega) (by omega)).mpr trivial
        have e : (xj (i : Nat)).toNatClampNeg = i := by rw [xj_nat (by omega) (by omega), Int.toNat_natCast]
        unfold xk_lext
        rw [e] at hin
        simp only [e]
        exact if_pos ⟨trivial, trivial, hin⟩
      refine lb_pure (ρ' := [.ref bs, .ref a, .ref b, .int (xj (i : Nat))]) (st' := .int (xj 31) :: .int (xs i) :: []) (show xk_lins 30 = some (.bipush 31, 2) by decide +kernel) rfl rfl (lb_pure (ρ' := [.ref bs, .ref a, .ref b, .int (xj (i : Nat))]) (st' := .int (xs i &&& xj 31) :: []) (show xk_lins 32 = some (.iand, 1) by decide +kernel) rfl rfl ?_)
      refine law_switch hL c hab h (fun f2 h2 => ?_)
      refine lb_pure (ρ' := [.ref bs, .ref a, .ref b, .int (xj (i : Nat) + xj 6)]) (st' := []) (show xk_lins 881 = some (.iinc 3 6, 3) by decide +kernel) rfl rfl ?_
      rw [xj_add]
      have e6 : ((i : Nat) : Int) + 6 = ((i + 6 : Nat) : Int) := by omega
      rw [e6]
      exact lb_go (st' := []) (tgt := 18) (off := -866) (show xk_lins 884 = some (.goto (-866), 3) by decide +kernel) rfl (xk_pure_no rfl rfl (fun _ _ => rfl) (fun _ _ => rfl)) rfl (by decide) (ih (m - 6) (by omega) (i + 6) f2 (by omega) (by omega) h2)
    · have hgt : xj ((L : Nat) - 6 : Int) < xj (i : Nat) := by rw [xj_lt (by omega) (by omega) (by omega) (by omega)]; omega
      refine lb_go (st' := []) (tgt := 887) (off := 863) (show xk_lins 24 = some (.if_icmp .gt 863, 3) by decide +kernel) rfl (xk_pure_no rfl rfl (fun _ _ => rfl) (fun _ _ => rfl)) (by simp [xk_br, xk_cmp, hgt]) (by decide) ?_
      exact lb_pure (ρ' := [.ref bs, .ref a, .ref b, .int (xj (i : Nat))]) (st' := .int 1 :: []) (show xk_lins 887 = some (.iconst 1, 1) by decide +kernel) rfl rfl (lb_ret (show xk_lins 888 = some (.ireturn, 1) by decide +kernel) rfl)
end XS9d02
