section XKB16
variable {d D a b : Nat} {x y : Int32} {u v : Int64} {st : List Value} {f : Nat → xk_C} {w : Nat × Nat × Nat} {K : Option Value → xk_S → Prop}
variable {l0 l1 l2 l3 l4 l5 l6 l7 l8 l9 l10 l11 l12 : Value} {i0 i1 i2 i3 i4 i5 i6 i7 i8 : Int32} {j0 j1 j2 j3 j4 j5 j6 j7 j8 : Int64} {r0 r1 r2 r3 r4 r5 r6 r7 r8 : Nat}
-- 246: OnePenModel.seed(I)I
theorem b246_0 : xk_B d 246 0 [l0, .int x, l2] st (f, w) K ↔ xk_B d 246 1 [l0, .int x, l2] (.int x :: st) (f, w) K := xk_B_pure (show xk_ins 246 0 = some (.iload_n 1, 1) by decide +kernel) rfl
theorem b246_1 : xk_B d 246 1 [l0, l1, l2] (.int x :: st) (f, w) K ↔ if xj 0 ≤ x then xk_B d 246 6 [l0, l1, l2] st (f, w) K else xk_B d 246 4 [l0, l1, l2] st (f, w) K := xk_B_br (P := xj 0 ≤ x) (show xk_ins 246 1 = some (.ifCond .ge 5, 3) by decide +kernel) (xk_pure_no rfl rfl (fun _ _ => rfl) (fun _ _ => rfl)) rfl (by decide)
theorem b246_4 : xk_B d 246 4 [l0, l1, l2] st (f, w) K ↔ xk_B d 246 5 [l0, l1, l2] (.int (xj (-1)) :: st) (f, w) K := xk_B_iconst (show xk_ins 246 4 = some (.iconst (-1), 1) by decide +kernel)
theorem b246_5 : xk_B d 246 5 [l0, l1, l2] [.int x] (f, w) K ↔ K (some (.int x)) (f, w) := xk_B_ireturn (show xk_ins 246 5 = some (.ireturn, 1) by decide +kernel) rfl rfl
theorem b246_6 : xk_B d 246 6 [.ref a, l1, l2] st (f, w) K ↔ xk_B d 246 7 [.ref a, l1, l2] (.ref a :: st) (f, w) K := xk_B_pure (show xk_ins 246 6 = some (.aload_n 0, 1) by decide +kernel) rfl
theorem b246_7 : xk_B d 246 7 [l0, l1, l2] (.ref a :: st) (f, w) K ↔ xk_GF f a 12 21 (fun z => xk_B d 246 10 [l0, l1, l2] (z :: st) (f, w) K) := xk_B_getf (show xk_ins 246 7 = some (.getfield 466, 3) by decide +kernel) (by decide +kernel)
theorem b246_10 : xk_B d 246 10 [l0, l1, l2] (.int x :: st) (f, w) K ↔ xk_B d 246 11 [l0, l1, .int x] st (f, w) K := xk_B_pure (show xk_ins 246 10 = some (.istore_n 2, 1) by decide +kernel) rfl
theorem b246_11 : xk_B d 246 11 [.ref a, l1, l2] st (f, w) K ↔ xk_B d 246 12 [.ref a, l1, l2] (.ref a :: st) (f, w) K := xk_B_pure (show xk_ins 246 11 = some (.aload_n 0, 1) by decide +kernel) rfl
theorem b246_12 : xk_B d 246 12 [l0, .int x, l2] st (f, w) K ↔ xk_B d 246 13 [l0, .int x, l2] (.int x :: st) (f, w) K := xk_B_pure (show xk_ins 246 12 = some (.iload_n 1, 1) by decide +kernel) rfl
theorem b246_13 : xk_B d 246 13 [l0, l1, l2] (.int x :: .ref a :: st) (f, w) K ↔ xk_PF f a 12 21 (.int x) (fun f => xk_B d 246 16 [l0, l1, l2] st (f, w) K) := xk_B_putf (show xk_ins 246 13 = some (.putfield 466, 3) by decide +kernel) (by decide +kernel) rfl rfl (by decide +kernel)
theorem b246_16 : xk_B d 246 16 [l0, l1, .int x] st (f, w) K ↔ xk_B d 246 17 [l0, l1, .int x] (.int x :: st) (f, w) K := xk_B_pure (show xk_ins 246 16 = some (.iload_n 2, 1) by decide +kernel) rfl
theorem b246_17 : xk_B d 246 17 [l0, l1, l2] [.int x] (f, w) K ↔ K (some (.int x)) (f, w) := xk_B_ireturn (show xk_ins 246 17 = some (.ireturn, 1) by decide +kernel) rfl rfl
theorem e246 (hD : 1 ≤ D) : xk_Cl D 246 [.ref r0, .int i1] (f, w) K ↔ xk_B (D - 1) 246 0 [.ref r0, .int i1, xk_dd] [] (f, w) K := xk_Cl_in hD (by decide) (by simp [xk_ent, Value.category, show xk_nL 246 = 3 from rfl]) (by simp [xk_env, xk_ent, Value.category, show xk_nL 246 = 3 from rfl, List.replicate])
-- 247: OnePenModel.draw(I)I
theorem b247_0 : xk_B d 247 0 [.ref a, l1] st (f, w) K ↔ xk_B d 247 1 [.ref a, l1] (.ref a :: st) (f, w) K := xk_B_pure (show xk_ins 247 0 = some (.aload_n 0, 1) by decide +kernel) rfl
theorem b247_1 : xk_B d 247 1 [.ref a, l1] st (f, w) K ↔ xk_B d 247 2 [.ref a, l1] (.ref a :: st) (f, w) K := xk_B_pure (show xk_ins 247 1 = some (.aload_n 0, 1) by decide +kernel) rfl
theorem b247_2 : xk_B d 247 2 [l0, l1] (.ref a :: st) (f, w) K ↔ xk_GF f a 12 43 (fun z => xk_B d 247 5 [l0, l1] (z :: st) (f, w) K) := xk_B_getf (show xk_ins 247 2 = some (.getfield 469, 3) by decide +kernel) (by decide +kernel)
theorem b247_5 : xk_B d 247 5 [l0, l1] st (f, w) K ↔ xk_B d 247 8 [l0, l1] (.long 1103515245 :: st) (f, w) K := xk_B_ldc2 (show xk_ins 247 5 = some (.ldc2_w 473, 3) by decide +kernel) (by decide +kernel)
theorem b247_8 : xk_B d 247 8 [l0, l1] (.long v :: .long u :: st) (f, w) K ↔ xk_B d 247 9 [l0, l1] (.long (u * v) :: st) (f, w) K := xk_B_pure (show xk_ins 247 8 = some (.lmul, 1) by decide +kernel) rfl
theorem b247_9 : xk_B d 247 9 [l0, l1] st (f, w) K ↔ xk_B d 247 12 [l0, l1] (.long 12345 :: st) (f, w) K := xk_B_ldc2 (show xk_ins 247 9 = some (.ldc2_w 475, 3) by decide +kernel) (by decide +kernel)
theorem b247_12 : xk_B d 247 12 [l0, l1] (.long v :: .long u :: st) (f, w) K ↔ xk_B d 247 13 [l0, l1] (.long (u + v) :: st) (f, w) K := xk_B_pure (show xk_ins 247 12 = some (.ladd, 1) by decide +kernel) rfl
theorem b247_13 : xk_B d 247 13 [l0, l1] st (f, w) K ↔ xk_B d 247 16 [l0, l1] (.long 2147483648 :: st) (f, w) K := xk_B_ldc2 (show xk_ins 247 13 = some (.ldc2_w 477, 3) by decide +kernel) (by decide +kernel)
theorem b247_16 (hy : ¬ v = 0) : xk_B d 247 16 [l0, l1] (.long v :: .long u :: st) (f, w) K ↔ xk_B d 247 17 [l0, l1] (.long (u - u / v * v) :: st) (f, w) K := xk_B_pure (show xk_ins 247 16 = some (.lrem, 1) by decide +kernel) (by simp [xk_pure, xk_push, xk_sto, xk_ari, xk_binL, hy])
theorem b247_17 : xk_B d 247 17 [l0, l1] (.long u :: .ref a :: st) (f, w) K ↔ xk_PF f a 12 43 (.long u) (fun f => xk_B d 247 20 [l0, l1] st (f, w) K) := xk_B_putf (show xk_ins 247 17 = some (.putfield 469, 3) by decide +kernel) (by decide +kernel) rfl rfl (by decide +kernel)
theorem b247_20 : xk_B d 247 20 [.ref a, l1] st (f, w) K ↔ xk_B d 247 21 [.ref a, l1] (.ref a :: st) (f, w) K := xk_B_pure (show xk_ins 247 20 = some (.aload_n 0, 1) by decide +kernel) rfl
theorem b247_21 : xk_B d 247 21 [l0, l1] (.ref a :: st) (f, w) K ↔ xk_GF f a 12 43 (fun z => xk_B d 247 24 [l0, l1] (z :: st) (f, w) K) := xk_B_getf (show xk_ins 247 21 = some (.getfield 469, 3) by decide +kernel) (by decide +kernel)
theorem b247_24 : xk_B d 247 24 [l0, l1] st (f, w) K ↔ xk_B d 247 27 [l0, l1] (.long 65536 :: st) (f, w) K := xk_B_ldc2 (show xk_ins 247 24 = some (.ldc2_w 479, 3) by decide +kernel) (by decide +kernel)
theorem b247_27 (hy : ¬ v = 0) : xk_B d 247 27 [l0, l1] (.long v :: .long u :: st) (f, w) K ↔ xk_B d 247 28 [l0, l1] (.long (u / v) :: st) (f, w) K := xk_B_pure (show xk_ins 247 27 = some (.ldiv, 1) by decide +kernel) (by simp [xk_pure, xk_push, xk_sto, xk_ari, xk_binL, hy])
theorem b247_28 : xk_B d 247 28 [l0, .int x] st (f, w) K ↔ xk_B d 247 29 [l0, .int x] (.int x :: st) (f, w) K := xk_B_pure (show xk_ins 247 28 = some (.iload_n 1, 1) by decide +kernel) rfl
theorem b247_29 : xk_B d 247 29 [l0, l1] (.int x :: st) (f, w) K ↔ xk_B d 247 30 [l0, l1] (.long x.toInt64 :: st) (f, w) K := xk_B_pure (show xk_ins 247 29 = some (.i2l, 1) by decide +kernel) rfl
theorem b247_30 (hy : ¬ v = 0) : xk_B d 247 30 [l0, l1] (.long v :: .long u :: st) (f, w) K ↔ xk_B d 247 31 [l0, l1] (.long (u - u / v * v) :: st) (f, w) K := xk_B_pure (show xk_ins 247 30 = some (.lrem, 1) by decide +kernel) (by simp [xk_pure, xk_push, xk_sto, xk_ari, xk_binL, hy])
theorem b247_31 : xk_B d 247 31 [l0, l1] (.long u :: st) (f, w) K ↔ xk_B d 247 32 [l0, l1] (.int u.toInt32 :: st) (f, w) K := xk_B_pure (show xk_ins 247 31 = some (.l2i, 1) by decide +kernel) rfl
theorem b247_32 : xk_B d 247 32 [l0, l1] [.int x] (f, w) K ↔ K (some (.int x)) (f, w) := xk_B_ireturn (show xk_ins 247 32 = some (.ireturn, 1) by decide +kernel) rfl rfl
theorem e247 (hD : 1 ≤ D) : xk_Cl D 247 [.ref r0, .int i1] (f, w) K ↔ xk_B (D - 1) 247 0 [.ref r0, .int i1] [] (f, w) K := xk_Cl_in hD (by decide) (by simp [xk_ent, Value.category, show xk_nL 247 = 2 from rfl]) (by simp [xk_env, xk_ent, Value.category, show xk_nL 247 = 2 from rfl, List.replicate])
-- 248: OnePenModel.drawn()I
theorem b248_0 : xk_B d 248 0 [.ref a, l1, l2, l3] st (f, w) K ↔ xk_B d 248 1 [.ref a, l1, l2, l3] (.ref a :: st) (f, w) K := xk_B_pure (show xk_ins 248 0 = some (.aload_n 0, 1) by decide +kernel) rfl
theorem b248_1 : xk_B d 248 1 [l0, l1, l2, l3] [.ref r0] (f, w) K ↔ xk_RC f r0 12 ∧ xk_Cl d 195 [.ref r0] (f, w) (fun v σ => xk_B d 248 4 [l0, l1, l2, l3] (v.toList ++ []) σ K) := xk_B_virtual [] [] (show xk_ins 248 1 = some (.invokevirtual 320, 3) by decide +kernel) (by decide +kernel) (by decide +kernel) (show xk_mt 195 = some _ from rfl) (by simp) rfl rfl (by decide) (by decide) (by simp [xk_sum, Value.category])
theorem b248_4 : xk_B d 248 4 [l0, l1, l2, l3] (.int x :: st) (f, w) K ↔ xk_B d 248 5 [l0, .int x, l2, l3] st (f, w) K := xk_B_pure (show xk_ins 248 4 = some (.istore_n 1, 1) by decide +kernel) rfl
theorem b248_5 : xk_B d 248 5 [l0, .int x, l2, l3] st (f, w) K ↔ xk_B d 248 6 [l0, .int x, l2, l3] (.int x :: st) (f, w) K := xk_B_pure (show xk_ins 248 5 = some (.iload_n 1, 1) by decide +kernel) rfl
theorem b248_6 : xk_B d 248 6 [l0, l1, l2, l3] (.int x :: st) (f, w) K ↔ if ¬ x = xj 0 then xk_B d 248 11 [l0, l1, l2, l3] st (f, w) K else xk_B d 248 9 [l0, l1, l2, l3] st (f, w) K := xk_B_br (P := ¬ x = xj 0) (show xk_ins 248 6 = some (.ifCond .ne 5, 3) by decide +kernel) (xk_pure_no rfl rfl (fun _ _ => rfl) (fun _ _ => rfl)) rfl (by decide)
theorem b248_9 : xk_B d 248 9 [l0, l1, l2, l3] st (f, w) K ↔ xk_B d 248 10 [l0, l1, l2, l3] (.int (xj (-1)) :: st) (f, w) K := xk_B_iconst (show xk_ins 248 9 = some (.iconst (-1), 1) by decide +kernel)
theorem b248_10 : xk_B d 248 10 [l0, l1, l2, l3] [.int x] (f, w) K ↔ K (some (.int x)) (f, w) := xk_B_ireturn (show xk_ins 248 10 = some (.ireturn, 1) by decide +kernel) rfl rfl
theorem b248_11 : xk_B d 248 11 [.ref a, l1, l2, l3] st (f, w) K ↔ xk_B d 248 12 [.ref a, l1, l2, l3] (.ref a :: st) (f, w) K := xk_B_pure (show xk_ins 248 11 = some (.aload_n 0, 1) by decide +kernel) rfl
theorem b248_12 : xk_B d 248 12 [l0, .int x, l2, l3] st (f, w) K ↔ xk_B d 248 13 [l0, .int x, l2, l3] (.int x :: st) (f, w) K := xk_B_pure (show xk_ins 248 12 = some (.iload_n 1, 1) by decide +kernel) rfl
theorem b248_13 : xk_B d 248 13 [l0, l1, l2, l3] [.int i1, .ref r0] (f, w) K ↔ xk_Cl d 143 [.int i1] (f, w) (fun v σ => xk_B d 248 16 [l0, l1, l2, l3] (v.toList ++ [.ref r0]) σ K) := xk_B_static (nest := false) [.int i1] [.ref r0] (show xk_ins 248 13 = some (.invokestatic 368, 3) by decide +kernel) (by decide +kernel) (show xk_mt 143 = some _ from rfl) (by simp) rfl rfl (by simp [xk_sum, Value.category]) (by decide +kernel)
theorem b248_16 : xk_B d 248 16 [l0, l1, l2, l3] [.int i1, .ref r0] (f, w) K ↔ xk_RC f r0 12 ∧ xk_Cl d 247 [.ref r0, .int i1] (f, w) (fun v σ => xk_B d 248 19 [l0, l1, l2, l3] (v.toList ++ []) σ K) := xk_B_virtual [.int i1] [] (show xk_ins 248 16 = some (.invokevirtual 481, 3) by decide +kernel) (by decide +kernel) (by decide +kernel) (show xk_mt 247 = some _ from rfl) (by simp) rfl rfl (by decide) (by decide) (by simp [xk_sum, Value.category])
theorem b248_19 : xk_B d 248 19 [l0, l1, l2, l3] (.int x :: st) (f, w) K ↔ xk_B d 248 20 [l0, l1, .int x, l3] st (f, w) K := xk_B_pure (show xk_ins 248 19 = some (.istore_n 2, 1) by decide +kernel) rfl
theorem b248_20 : xk_B d 248 20 [l0, l1, l2, l3] st (f, w) K ↔ xk_B d 248 21 [l0, l1, l2, l3] (.int (xj 0) :: st) (f, w) K := xk_B_iconst (show xk_ins 248 20 = some (.iconst 0, 1) by decide +kernel)
theorem b248_21 : xk_B d 248 21 [l0, l1, l2, l3] (.int x :: st) (f, w) K ↔ xk_B d 248 22 [l0, l1, l2, .int x] st (f, w) K := xk_B_pure (show xk_ins 248 21 = some (.istore_n 3, 1) by decide +kernel) rfl
theorem b248_22 : xk_B d 248 22 [l0, .int x, l2, l3] st (f, w) K ↔ xk_B d 248 23 [l0, .int x, l2, l3] (.int x :: st) (f, w) K := xk_B_pure (show xk_ins 248 22 = some (.iload_n 1, 1) by decide +kernel) rfl
theorem b248_23 : xk_B d 248 23 [l0, l1, l2, .int x] st (f, w) K ↔ xk_B d 248 24 [l0, l1, l2, .int x] (.int x :: st) (f, w) K := xk_B_pure (show xk_ins 248 23 = some (.iload_n 3, 1) by decide +kernel) rfl
theorem b248_24 : xk_B d 248 24 [l0, l1, l2, l3] [.int i1, .int i0] (f, w) K ↔ xk_Cl d 142 [.int i0, .int i1] (f, w) (fun v σ => xk_B d 248 27 [l0, l1, l2, l3] (v.toList ++ []) σ K) := xk_B_static (nest := false) [.int i0, .int i1] [] (show xk_ins 248 24 = some (.invokestatic 299, 3) by decide +kernel) (by decide +kernel) (show xk_mt 142 = some _ from rfl) (by simp) rfl rfl (by simp [xk_sum, Value.category]) (by decide +kernel)
theorem b248_27 : xk_B d 248 27 [l0, l1, l2, l3] (.int x :: st) (f, w) K ↔ if x = xj 0 then xk_B d 248 34 [l0, l1, l2, l3] st (f, w) K else xk_B d 248 30 [l0, l1, l2, l3] st (f, w) K := xk_B_br (P := x = xj 0) (show xk_ins 248 27 = some (.ifCond .eq 7, 3) by decide +kernel) (xk_pure_no rfl rfl (fun _ _ => rfl) (fun _ _ => rfl)) rfl (by decide)
theorem b248_30 : xk_B d 248 30 [l0, l1, .int x, l3] st (f, w) K ↔ xk_B d 248 31 [l0, l1, .int x, l3] (.int x :: st) (f, w) K := xk_B_pure (show xk_ins 248 30 = some (.iload_n 2, 1) by decide +kernel) rfl
theorem b248_31 : xk_B d 248 31 [l0, l1, l2, l3] (.int x :: st) (f, w) K ↔ if x ≤ xj 0 then xk_B d 248 56 [l0, l1, l2, l3] st (f, w) K else xk_B d 248 34 [l0, l1, l2, l3] st (f, w) K := xk_B_br (P := x ≤ xj 0) (show xk_ins 248 31 = some (.ifCond .le 25, 3) by decide +kernel) (xk_pure_no rfl rfl (fun _ _ => rfl) (fun _ _ => rfl)) rfl (by decide)
theorem b248_34 : xk_B d 248 34 [l0, l1, .int x, l3] st (f, w) K ↔ xk_B d 248 35 [l0, l1, .int x, l3] (.int x :: st) (f, w) K := xk_B_pure (show xk_ins 248 34 = some (.iload_n 2, 1) by decide +kernel) rfl
theorem b248_35 : xk_B d 248 35 [l0, .int x, l2, l3] st (f, w) K ↔ xk_B d 248 36 [l0, .int x, l2, l3] (.int x :: st) (f, w) K := xk_B_pure (show xk_ins 248 35 = some (.iload_n 1, 1) by decide +kernel) rfl
theorem b248_36 : xk_B d 248 36 [l0, l1, l2, .int x] st (f, w) K ↔ xk_B d 248 37 [l0, l1, l2, .int x] (.int x :: st) (f, w) K := xk_B_pure (show xk_ins 248 36 = some (.iload_n 3, 1) by decide +kernel) rfl
theorem b248_37 : xk_B d 248 37 [l0, l1, l2, l3] [.int i2, .int i1, .int i0] (f, w) K ↔ xk_Cl d 142 [.int i1, .int i2] (f, w) (fun v σ => xk_B d 248 40 [l0, l1, l2, l3] (v.toList ++ [.int i0]) σ K) := xk_B_static (nest := false) [.int i1, .int i2] [.int i0] (show xk_ins 248 37 = some (.invokestatic 299, 3) by decide +kernel) (by decide +kernel) (show xk_mt 142 = some _ from rfl) (by simp) rfl rfl (by simp [xk_sum, Value.category]) (by decide +kernel)
theorem b248_40 : xk_B d 248 40 [l0, l1, l2, l3] (.int x :: st) (f, w) K ↔ if x = xj 0 then xk_B d 248 47 [l0, l1, l2, l3] st (f, w) K else xk_B d 248 43 [l0, l1, l2, l3] st (f, w) K := xk_B_br (P := x = xj 0) (show xk_ins 248 40 = some (.ifCond .eq 7, 3) by decide +kernel) (xk_pure_no rfl rfl (fun _ _ => rfl) (fun _ _ => rfl)) rfl (by decide)
theorem b248_43 : xk_B d 248 43 [l0, l1, l2, l3] st (f, w) K ↔ xk_B d 248 44 [l0, l1, l2, l3] (.int (xj 1) :: st) (f, w) K := xk_B_iconst (show xk_ins 248 43 = some (.iconst 1, 1) by decide +kernel)
theorem b248_44 : xk_B d 248 44 [l0, l1, l2, l3] st (f, w) K ↔ xk_B d 248 48 [l0, l1, l2, l3] st (f, w) K := xk_B_go (show xk_ins 248 44 = some (.goto 4, 3) by decide +kernel) (xk_pure_no rfl rfl (fun _ _ => rfl) (fun _ _ => rfl)) rfl (by decide)
theorem b248_47 : xk_B d 248 47 [l0, l1, l2, l3] st (f, w) K ↔ xk_B d 248 48 [l0, l1, l2, l3] (.int (xj 0) :: st) (f, w) K := xk_B_iconst (show xk_ins 248 47 = some (.iconst 0, 1) by decide +kernel)
theorem b248_48 : xk_B d 248 48 [l0, l1, l2, l3] (.int y :: .int x :: st) (f, w) K ↔ xk_B d 248 49 [l0, l1, l2, l3] (.int (x - y) :: st) (f, w) K := xk_B_pure (show xk_ins 248 48 = some (.isub, 1) by decide +kernel) rfl
theorem b248_49 : xk_B d 248 49 [l0, l1, l2, l3] (.int x :: st) (f, w) K ↔ xk_B d 248 50 [l0, l1, .int x, l3] st (f, w) K := xk_B_pure (show xk_ins 248 49 = some (.istore_n 2, 1) by decide +kernel) rfl
theorem b248_50 : xk_B d 248 50 [l0, l1, l2, .int x] st (f, w) K ↔ xk_B d 248 53 [l0, l1, l2, .int (x + xj 1)] st (f, w) K := xk_B_pure (show xk_ins 248 50 = some (.iinc 3 1, 3) by decide +kernel) rfl
theorem b248_53 : xk_B d 248 53 [l0, l1, l2, l3] st (f, w) K ↔ xk_B d 248 22 [l0, l1, l2, l3] st (f, w) K := xk_B_go (show xk_ins 248 53 = some (.goto (-31), 3) by decide +kernel) (xk_pure_no rfl rfl (fun _ _ => rfl) (fun _ _ => rfl)) rfl (by decide)
theorem b248_56 : xk_B d 248 56 [l0, l1, l2, .int x] st (f, w) K ↔ xk_B d 248 57 [l0, l1, l2, .int x] (.int x :: st) (f, w) K := xk_B_pure (show xk_ins 248 56 = some (.iload_n 3, 1) by decide +kernel) rfl
theorem b248_57 : xk_B d 248 57 [l0, l1, l2, l3] [.int x] (f, w) K ↔ K (some (.int x)) (f, w) := xk_B_ireturn (show xk_ins 248 57 = some (.ireturn, 1) by decide +kernel) rfl rfl
theorem e248 (hD : 1 ≤ D) : xk_Cl D 248 [.ref r0] (f, w) K ↔ xk_B (D - 1) 248 0 [.ref r0, xk_dd, xk_dd, xk_dd] [] (f, w) K := xk_Cl_in hD (by decide) (by simp [xk_ent, Value.category, show xk_nL 248 = 4 from rfl]) (by simp [xk_env, xk_ent, Value.category, show xk_nL 248 = 4 from rfl, List.replicate])
-- 249: OnePenModel.days(II)I
theorem b249_0 : xk_B d 249 0 [.ref a, l1, l2, l3, l4, l5, l6] st (f, w) K ↔ xk_B d 249 1 [.ref a, l1, l2, l3, l4, l5, l6] (.ref a :: st) (f, w) K := xk_B_pure (show xk_ins 249 0 = some (.aload_n 0, 1) by decide +kernel) rfl
theorem b249_1 : xk_B d 249 1 [l0, l1, l2, l3, l4, l5, l6] [.ref r0] (f, w) K ↔ xk_RC f r0 12 ∧ xk_Cl d 188 [.ref r0] (f, w) (fun v σ => xk_B d 249 4 [l0, l1, l2, l3, l4, l5, l6] (v.toList ++ []) σ K) := xk_B_virtual [] [] (show xk_ins 249 1 = some (.invokevirtual 357, 3) by decide +kernel) (by decide +kernel) (by decide +kernel) (show xk_mt 188 = some _ from rfl) (by simp) rfl rfl (by decide) (by decide) (by simp [xk_sum, Value.category])
theorem b249_4 : xk_B d 249 4 [l0, l1, l2, l3, l4, l5, l6] (.int x :: st) (f, w) K ↔ if x = xj 0 then xk_B d 249 29 [l0, l1, l2, l3, l4, l5, l6] st (f, w) K else xk_B d 249 7 [l0, l1, l2, l3, l4, l5, l6] st (f, w) K := xk_B_br (P := x = xj 0) (show xk_ins 249 4 = some (.ifCond .eq 25, 3) by decide +kernel) (xk_pure_no rfl rfl (fun _ _ => rfl) (fun _ _ => rfl)) rfl (by decide)
theorem b249_7 : xk_B d 249 7 [l0, .int x, l2, l3, l4, l5, l6] st (f, w) K ↔ xk_B d 249 8 [l0, .int x, l2, l3, l4, l5, l6] (.int x :: st) (f, w) K := xk_B_pure (show xk_ins 249 7 = some (.iload_n 1, 1) by decide +kernel) rfl
theorem b249_8 : xk_B d 249 8 [l0, l1, l2, l3, l4, l5, l6] (.int x :: st) (f, w) K ↔ xk_B d 249 9 [l0, l1, l2, l3, l4, l5, l6] (.long x.toInt64 :: st) (f, w) K := xk_B_pure (show xk_ins 249 8 = some (.i2l, 1) by decide +kernel) rfl
theorem b249_9 : xk_B d 249 9 [l0, l1, l2, l3, l4, l5, l6] st (f, w) K ↔ xk_B d 249 10 [l0, l1, l2, l3, l4, l5, l6] (.long 1 :: st) (f, w) K := xk_B_pure (show xk_ins 249 9 = some (.lconst 1, 1) by decide +kernel) rfl
theorem b249_10 : xk_B d 249 10 [l0, l1, l2, l3, l4, l5, l6] st (f, w) K ↔ xk_B d 249 13 [l0, l1, l2, l3, l4, l5, l6] (.long 20 :: st) (f, w) K := xk_B_ldc2 (show xk_ins 249 10 = some (.ldc2_w 484, 3) by decide +kernel) (by decide +kernel)
theorem b249_13 : xk_B d 249 13 [l0, l1, l2, l3, l4, l5, l6] [.long j2, .long j1, .long j0] (f, w) K ↔ xk_Cl d 141 [.long j0, .long j1, .long j2] (f, w) (fun v σ => xk_B d 249 16 [l0, l1, l2, l3, l4, l5, l6] (v.toList ++ []) σ K) := xk_B_static (nest := false) [.long j0, .long j1, .long j2] [] (show xk_ins 249 13 = some (.invokestatic 121, 3) by decide +kernel) (by decide +kernel) (show xk_mt 141 = some _ from rfl) (by simp) rfl rfl (by simp [xk_sum, Value.category]) (by decide +kernel)
theorem b249_16 : xk_B d 249 16 [l0, l1, l2, l3, l4, l5, l6] (.int x :: st) (f, w) K ↔ if x = xj 0 then xk_B d 249 29 [l0, l1, l2, l3, l4, l5, l6] st (f, w) K else xk_B d 249 19 [l0, l1, l2, l3, l4, l5, l6] st (f, w) K := xk_B_br (P := x = xj 0) (show xk_ins 249 16 = some (.ifCond .eq 13, 3) by decide +kernel) (xk_pure_no rfl rfl (fun _ _ => rfl) (fun _ _ => rfl)) rfl (by decide)
theorem b249_19 : xk_B d 249 19 [l0, l1, .int x, l3, l4, l5, l6] st (f, w) K ↔ xk_B d 249 20 [l0, l1, .int x, l3, l4, l5, l6] (.int x :: st) (f, w) K := xk_B_pure (show xk_ins 249 19 = some (.iload_n 2, 1) by decide +kernel) rfl
theorem b249_20 : xk_B d 249 20 [l0, l1, l2, l3, l4, l5, l6] (.int x :: st) (f, w) K ↔ xk_B d 249 21 [l0, l1, l2, l3, l4, l5, l6] (.long x.toInt64 :: st) (f, w) K := xk_B_pure (show xk_ins 249 20 = some (.i2l, 1) by decide +kernel) rfl
theorem b249_21 : xk_B d 249 21 [l0, l1, l2, l3, l4, l5, l6] st (f, w) K ↔ xk_B d 249 22 [l0, l1, l2, l3, l4, l5, l6] (.long 0 :: st) (f, w) K := xk_B_pure (show xk_ins 249 21 = some (.lconst 0, 1) by decide +kernel) rfl
theorem b249_22 : xk_B d 249 22 [l0, l1, l2, l3, l4, l5, l6] st (f, w) K ↔ xk_B d 249 23 [l0, l1, l2, l3, l4, l5, l6] (.long 1 :: st) (f, w) K := xk_B_pure (show xk_ins 249 22 = some (.lconst 1, 1) by decide +kernel) rfl
theorem b249_23 : xk_B d 249 23 [l0, l1, l2, l3, l4, l5, l6] [.long j2, .long j1, .long j0] (f, w) K ↔ xk_Cl d 141 [.long j0, .long j1, .long j2] (f, w) (fun v σ => xk_B d 249 26 [l0, l1, l2, l3, l4, l5, l6] (v.toList ++ []) σ K) := xk_B_static (nest := false) [.long j0, .long j1, .long j2] [] (show xk_ins 249 23 = some (.invokestatic 121, 3) by decide +kernel) (by decide +kernel) (show xk_mt 141 = some _ from rfl) (by simp) rfl rfl (by simp [xk_sum, Value.category]) (by decide +kernel)
theorem b249_26 : xk_B d 249 26 [l0, l1, l2, l3, l4, l5, l6] (.int x :: st) (f, w) K ↔ if ¬ x = xj 0 then xk_B d 249 31 [l0, l1, l2, l3, l4, l5, l6] st (f, w) K else xk_B d 249 29 [l0, l1, l2, l3, l4, l5, l6] st (f, w) K := xk_B_br (P := ¬ x = xj 0) (show xk_ins 249 26 = some (.ifCond .ne 5, 3) by decide +kernel) (xk_pure_no rfl rfl (fun _ _ => rfl) (fun _ _ => rfl)) rfl (by decide)
theorem b249_29 : xk_B d 249 29 [l0, l1, l2, l3, l4, l5, l6] st (f, w) K ↔ xk_B d 249 30 [l0, l1, l2, l3, l4, l5, l6] (.int (xj (-1)) :: st) (f, w) K := xk_B_iconst (show xk_ins 249 29 = some (.iconst (-1), 1) by decide +kernel)
theorem b249_30 : xk_B d 249 30 [l0, l1, l2, l3, l4, l5, l6] [.int x] (f, w) K ↔ K (some (.int x)) (f, w) := xk_B_ireturn (show xk_ins 249 30 = some (.ireturn, 1) by decide +kernel) rfl rfl
theorem b249_31 : xk_B d 249 31 [.ref a, l1, l2, l3, l4, l5, l6] st (f, w) K ↔ xk_B d 249 32 [.ref a, l1, l2, l3, l4, l5, l6] (.ref a :: st) (f, w) K := xk_B_pure (show xk_ins 249 31 = some (.aload_n 0, 1) by decide +kernel) rfl
theorem b249_32 : xk_B d 249 32 [.ref a, l1, l2, l3, l4, l5, l6] st (f, w) K ↔ xk_B d 249 33 [.ref a, l1, l2, l3, l4, l5, l6] (.ref a :: st) (f, w) K := xk_B_pure (show xk_ins 249 32 = some (.aload_n 0, 1) by decide +kernel) rfl
theorem b249_33 : xk_B d 249 33 [l0, l1, l2, l3, l4, l5, l6] (.ref a :: st) (f, w) K ↔ xk_GF f a 12 21 (fun z => xk_B d 249 36 [l0, l1, l2, l3, l4, l5, l6] (z :: st) (f, w) K) := xk_B_getf (show xk_ins 249 33 = some (.getfield 466, 3) by decide +kernel) (by decide +kernel)
theorem b249_36 : xk_B d 249 36 [l0, l1, l2, l3, l4, l5, l6] (.int x :: st) (f, w) K ↔ xk_B d 249 37 [l0, l1, l2, l3, l4, l5, l6] (.long x.toInt64 :: st) (f, w) K := xk_B_pure (show xk_ins 249 36 = some (.i2l, 1) by decide +kernel) rfl
theorem b249_37 : xk_B d 249 37 [l0, l1, l2, l3, l4, l5, l6] (.long u :: .ref a :: st) (f, w) K ↔ xk_PF f a 12 43 (.long u) (fun f => xk_B d 249 40 [l0, l1, l2, l3, l4, l5, l6] st (f, w) K) := xk_B_putf (show xk_ins 249 37 = some (.putfield 469, 3) by decide +kernel) (by decide +kernel) rfl rfl (by decide +kernel)
theorem b249_40 : xk_B d 249 40 [l0, l1, l2, l3, l4, l5, l6] st (f, w) K ↔ xk_B d 249 41 [l0, l1, l2, l3, l4, l5, l6] (.int (xj 0) :: st) (f, w) K := xk_B_iconst (show xk_ins 249 40 = some (.iconst 0, 1) by decide +kernel)
theorem b249_41 : xk_B d 249 41 [l0, l1, l2, l3, l4, l5, l6] (.int x :: st) (f, w) K ↔ xk_B d 249 42 [l0, l1, l2, .int x, l4, l5, l6] st (f, w) K := xk_B_pure (show xk_ins 249 41 = some (.istore_n 3, 1) by decide +kernel) rfl
theorem b249_42 : xk_B d 249 42 [l0, l1, l2, l3, l4, l5, l6] st (f, w) K ↔ xk_B d 249 43 [l0, l1, l2, l3, l4, l5, l6] (.int (xj 0) :: st) (f, w) K := xk_B_iconst (show xk_ins 249 42 = some (.iconst 0, 1) by decide +kernel)
theorem b249_43 : xk_B d 249 43 [l0, l1, l2, l3, l4, l5, l6] (.int x :: st) (f, w) K ↔ xk_B d 249 45 [l0, l1, l2, l3, .int x, l5, l6] st (f, w) K := xk_B_pure (show xk_ins 249 43 = some (.istore 4, 2) by decide +kernel) rfl
theorem b249_45 : xk_B d 249 45 [.ref a, l1, l2, l3, l4, l5, l6] st (f, w) K ↔ xk_B d 249 46 [.ref a, l1, l2, l3, l4, l5, l6] (.ref a :: st) (f, w) K := xk_B_pure (show xk_ins 249 45 = some (.aload_n 0, 1) by decide +kernel) rfl
theorem b249_46 : xk_B d 249 46 [l0, l1, l2, l3, l4, l5, l6] [.ref r0] (f, w) K ↔ xk_RC f r0 12 ∧ xk_Cl d 214 [.ref r0] (f, w) (fun v σ => xk_B d 249 49 [l0, l1, l2, l3, l4, l5, l6] (v.toList ++ []) σ K) := xk_B_virtual [] [] (show xk_ins 249 46 = some (.invokevirtual 389, 3) by decide +kernel) (by decide +kernel) (by decide +kernel) (show xk_mt 214 = some _ from rfl) (by simp) rfl rfl (by decide) (by decide) (by simp [xk_sum, Value.category])
theorem b249_49 : xk_B d 249 49 [l0, l1, l2, l3, l4, l5, l6] st (f, w) K ↔ xk_B d 249 50 [l0, l1, l2, l3, l4, l5, l6] (.int (xj 0) :: st) (f, w) K := xk_B_iconst (show xk_ins 249 49 = some (.iconst 0, 1) by decide +kernel)
theorem b249_50 : xk_B d 249 50 [l0, l1, l2, l3, l4, l5, l6] (.int x :: st) (f, w) K ↔ xk_B d 249 52 [l0, l1, l2, l3, l4, .int x, l6] st (f, w) K := xk_B_pure (show xk_ins 249 50 = some (.istore 5, 2) by decide +kernel) rfl
theorem b249_52 : xk_B d 249 52 [l0, l1, l2, l3, l4, .int x, l6] st (f, w) K ↔ xk_B d 249 54 [l0, l1, l2, l3, l4, .int x, l6] (.int x :: st) (f, w) K := xk_B_pure (show xk_ins 249 52 = some (.iload 5, 2) by decide +kernel) rfl
theorem b249_54 : xk_B d 249 54 [l0, .int x, l2, l3, l4, l5, l6] st (f, w) K ↔ xk_B d 249 55 [l0, .int x, l2, l3, l4, l5, l6] (.int x :: st) (f, w) K := xk_B_pure (show xk_ins 249 54 = some (.iload_n 1, 1) by decide +kernel) rfl
theorem b249_55 : xk_B d 249 55 [l0, l1, l2, l3, l4, l5, l6] (.int y :: .int x :: st) (f, w) K ↔ if y ≤ x then xk_B d 249 124 [l0, l1, l2, l3, l4, l5, l6] st (f, w) K else xk_B d 249 58 [l0, l1, l2, l3, l4, l5, l6] st (f, w) K := xk_B_br (P := y ≤ x) (show xk_ins 249 55 = some (.if_icmp .ge 69, 3) by decide +kernel) (xk_pure_no rfl rfl (fun _ _ => rfl) (fun _ _ => rfl)) rfl (by decide)
theorem b249_58 : xk_B d 249 58 [.ref a, l1, l2, l3, l4, l5, l6] st (f, w) K ↔ xk_B d 249 59 [.ref a, l1, l2, l3, l4, l5, l6] (.ref a :: st) (f, w) K := xk_B_pure (show xk_ins 249 58 = some (.aload_n 0, 1) by decide +kernel) rfl
theorem b249_59 : xk_B d 249 59 [l0, l1, l2, l3, l4, l5, l6] [.ref r0] (f, w) K ↔ xk_RC f r0 12 ∧ xk_Cl d 248 [.ref r0] (f, w) (fun v σ => xk_B d 249 62 [l0, l1, l2, l3, l4, l5, l6] (v.toList ++ []) σ K) := xk_B_virtual [] [] (show xk_ins 249 59 = some (.invokevirtual 486, 3) by decide +kernel) (by decide +kernel) (by decide +kernel) (show xk_mt 248 = some _ from rfl) (by simp) rfl rfl (by decide) (by decide) (by simp [xk_sum, Value.category])
theorem b249_62 : xk_B d 249 62 [l0, l1, l2, l3, l4, l5, l6] (.int x :: st) (f, w) K ↔ xk_B d 249 64 [l0, l1, l2, l3, l4, l5, .int x] st (f, w) K := xk_B_pure (show xk_ins 249 62 = some (.istore 6, 2) by decide +kernel) rfl
theorem b249_64 : xk_B d 249 64 [l0, l1, l2, l3, l4, l5, .int x] st (f, w) K ↔ xk_B d 249 66 [l0, l1, l2, l3, l4, l5, .int x] (.int x :: st) (f, w) K := xk_B_pure (show xk_ins 249 64 = some (.iload 6, 2) by decide +kernel) rfl
theorem b249_66 : xk_B d 249 66 [l0, l1, l2, l3, l4, l5, l6] (.int x :: st) (f, w) K ↔ if x < xj 0 then xk_B d 249 93 [l0, l1, l2, l3, l4, l5, l6] st (f, w) K else xk_B d 249 69 [l0, l1, l2, l3, l4, l5, l6] st (f, w) K := xk_B_br (P := x < xj 0) (show xk_ins 249 66 = some (.ifCond .lt 27, 3) by decide +kernel) (xk_pure_no rfl rfl (fun _ _ => rfl) (fun _ _ => rfl)) rfl (by decide)
theorem b249_69 : xk_B d 249 69 [.ref a, l1, l2, l3, l4, l5, l6] st (f, w) K ↔ xk_B d 249 70 [.ref a, l1, l2, l3, l4, l5, l6] (.ref a :: st) (f, w) K := xk_B_pure (show xk_ins 249 69 = some (.aload_n 0, 1) by decide +kernel) rfl
theorem b249_70 : xk_B d 249 70 [l0, l1, l2, l3, l4, l5, .int x] st (f, w) K ↔ xk_B d 249 72 [l0, l1, l2, l3, l4, l5, .int x] (.int x :: st) (f, w) K := xk_B_pure (show xk_ins 249 70 = some (.iload 6, 2) by decide +kernel) rfl
theorem b249_72 : xk_B d 249 72 [l0, l1, l2, l3, l4, l5, l6] [.int i1, .ref r0] (f, w) K ↔ xk_RC f r0 12 ∧ xk_Cl d 202 [.ref r0, .int i1] (f, w) (fun v σ => xk_B d 249 75 [l0, l1, l2, l3, l4, l5, l6] (v.toList ++ []) σ K) := xk_B_virtual [.int i1] [] (show xk_ins 249 72 = some (.invokevirtual 348, 3) by decide +kernel) (by decide +kernel) (by decide +kernel) (show xk_mt 202 = some _ from rfl) (by simp) rfl rfl (by decide) (by decide) (by simp [xk_sum, Value.category])
theorem b249_75 : xk_B d 249 75 [l0, l1, l2, l3, l4, l5, l6] (.int x :: st) (f, w) K ↔ if x = xj 0 then xk_B d 249 93 [l0, l1, l2, l3, l4, l5, l6] st (f, w) K else xk_B d 249 78 [l0, l1, l2, l3, l4, l5, l6] st (f, w) K := xk_B_br (P := x = xj 0) (show xk_ins 249 75 = some (.ifCond .eq 18, 3) by decide +kernel) (xk_pure_no rfl rfl (fun _ _ => rfl) (fun _ _ => rfl)) rfl (by decide)
theorem b249_78 : xk_B d 249 78 [.ref a, l1, l2, l3, l4, l5, l6] st (f, w) K ↔ xk_B d 249 79 [.ref a, l1, l2, l3, l4, l5, l6] (.ref a :: st) (f, w) K := xk_B_pure (show xk_ins 249 78 = some (.aload_n 0, 1) by decide +kernel) rfl
theorem b249_79 : xk_B d 249 79 [l0, l1, l2, l3, l4, l5, .int x] st (f, w) K ↔ xk_B d 249 81 [l0, l1, l2, l3, l4, l5, .int x] (.int x :: st) (f, w) K := xk_B_pure (show xk_ins 249 79 = some (.iload 6, 2) by decide +kernel) rfl
theorem b249_81 : xk_B d 249 81 [l0, l1, l2, l3, l4, l5, l6] [.int i1, .ref r0] (f, w) K ↔ xk_RC f r0 12 ∧ xk_Cl d 205 [.ref r0, .int i1] (f, w) (fun v σ => xk_B d 249 84 [l0, l1, l2, l3, l4, l5, l6] (v.toList ++ []) σ K) := xk_B_virtual [.int i1] [] (show xk_ins 249 81 = some (.invokevirtual 354, 3) by decide +kernel) (by decide +kernel) (by decide +kernel) (show xk_mt 205 = some _ from rfl) (by simp) rfl rfl (by decide) (by decide) (by simp [xk_sum, Value.category])
theorem b249_84 : xk_B d 249 84 [.ref a, l1, l2, l3, l4, l5, l6] st (f, w) K ↔ xk_B d 249 85 [.ref a, l1, l2, l3, l4, l5, l6] (.ref a :: st) (f, w) K := xk_B_pure (show xk_ins 249 84 = some (.aload_n 0, 1) by decide +kernel) rfl
theorem b249_85 : xk_B d 249 85 [l0, l1, l2, l3, l4, l5, l6] [.ref r0] (f, w) K ↔ xk_RC f r0 12 ∧ xk_Cl d 248 [.ref r0] (f, w) (fun v σ => xk_B d 249 88 [l0, l1, l2, l3, l4, l5, l6] (v.toList ++ []) σ K) := xk_B_virtual [] [] (show xk_ins 249 85 = some (.invokevirtual 486, 3) by decide +kernel) (by decide +kernel) (by decide +kernel) (show xk_mt 248 = some _ from rfl) (by simp) rfl rfl (by decide) (by decide) (by simp [xk_sum, Value.category])
theorem b249_88 : xk_B d 249 88 [l0, l1, l2, l3, l4, l5, l6] (.int x :: st) (f, w) K ↔ xk_B d 249 90 [l0, l1, l2, l3, l4, l5, .int x] st (f, w) K := xk_B_pure (show xk_ins 249 88 = some (.istore 6, 2) by decide +kernel) rfl
theorem b249_90 : xk_B d 249 90 [l0, l1, l2, l3, l4, l5, l6] st (f, w) K ↔ xk_B d 249 64 [l0, l1, l2, l3, l4, l5, l6] st (f, w) K := xk_B_go (show xk_ins 249 90 = some (.goto (-26), 3) by decide +kernel) (xk_pure_no rfl rfl (fun _ _ => rfl) (fun _ _ => rfl)) rfl (by decide)
theorem b249_93 : xk_B d 249 93 [l0, l1, l2, .int x, l4, l5, l6] st (f, w) K ↔ xk_B d 249 94 [l0, l1, l2, .int x, l4, l5, l6] (.int x :: st) (f, w) K := xk_B_pure (show xk_ins 249 93 = some (.iload_n 3, 1) by decide +kernel) rfl
theorem b249_94 : xk_B d 249 94 [.ref a, l1, l2, l3, l4, l5, l6] st (f, w) K ↔ xk_B d 249 95 [.ref a, l1, l2, l3, l4, l5, l6] (.ref a :: st) (f, w) K := xk_B_pure (show xk_ins 249 94 = some (.aload_n 0, 1) by decide +kernel) rfl
theorem b249_95 : xk_B d 249 95 [l0, l1, l2, l3, l4, l5, l6] st (f, w) K ↔ xk_B d 249 97 [l0, l1, l2, l3, l4, l5, l6] (.int (xj 63) :: st) (f, w) K := xk_B_bipush (show xk_ins 249 95 = some (.bipush 63, 2) by decide +kernel) (by decide +kernel)
theorem b249_97 : xk_B d 249 97 [l0, l1, l2, l3, l4, l5, l6] [.int i2, .ref r1, .int i0] (f, w) K ↔ xk_RC f r1 12 ∧ xk_Cl d 197 [.ref r1, .int i2] (f, w) (fun v σ => xk_B d 249 100 [l0, l1, l2, l3, l4, l5, l6] (v.toList ++ [.int i0]) σ K) := xk_B_virtual [.int i2] [.int i0] (show xk_ins 249 97 = some (.invokevirtual 395, 3) by decide +kernel) (by decide +kernel) (by decide +kernel) (show xk_mt 197 = some _ from rfl) (by simp) rfl rfl (by decide) (by decide) (by simp [xk_sum, Value.category])
theorem b249_100 : xk_B d 249 100 [l0, l1, l2, l3, l4, l5, l6] (.int y :: .int x :: st) (f, w) K ↔ xk_B d 249 101 [l0, l1, l2, l3, l4, l5, l6] (.int (x + y) :: st) (f, w) K := xk_B_pure (show xk_ins 249 100 = some (.iadd, 1) by decide +kernel) rfl
theorem b249_101 : xk_B d 249 101 [l0, l1, l2, l3, l4, l5, l6] (.int x :: st) (f, w) K ↔ xk_B d 249 102 [l0, l1, l2, .int x, l4, l5, l6] st (f, w) K := xk_B_pure (show xk_ins 249 101 = some (.istore_n 3, 1) by decide +kernel) rfl
theorem b249_102 : xk_B d 249 102 [l0, l1, l2, l3, .int x, l5, l6] st (f, w) K ↔ xk_B d 249 104 [l0, l1, l2, l3, .int x, l5, l6] (.int x :: st) (f, w) K := xk_B_pure (show xk_ins 249 102 = some (.iload 4, 2) by decide +kernel) rfl
theorem b249_104 : xk_B d 249 104 [.ref a, l1, l2, l3, l4, l5, l6] st (f, w) K ↔ xk_B d 249 105 [.ref a, l1, l2, l3, l4, l5, l6] (.ref a :: st) (f, w) K := xk_B_pure (show xk_ins 249 104 = some (.aload_n 0, 1) by decide +kernel) rfl
theorem b249_105 : xk_B d 249 105 [l0, l1, l2, l3, l4, l5, l6] (.ref a :: st) (f, w) K ↔ xk_GF f a 12 20 (fun z => xk_B d 249 108 [l0, l1, l2, l3, l4, l5, l6] (z :: st) (f, w) K) := xk_B_getf (show xk_ins 249 105 = some (.getfield 39, 3) by decide +kernel) (by decide +kernel)
theorem b249_108 : xk_B d 249 108 [l0, l1, l2, l3, l4, l5, l6] st (f, w) K ↔ xk_B d 249 110 [l0, l1, l2, l3, l4, l5, l6] (.int (xj 10) :: st) (f, w) K := xk_B_bipush (show xk_ins 249 108 = some (.bipush 10, 2) by decide +kernel) (by decide +kernel)
theorem b249_110 : xk_B d 249 110 [l0, l1, l2, l3, l4, l5, l6] (.int x :: .ref a :: st) (f, w) K ↔ xk_AL f a 0 x (fun x => xk_B d 249 111 [l0, l1, l2, l3, l4, l5, l6] (.int x :: st) (f, w) K) := xk_B_iald (show xk_ins 249 110 = some (.iaload, 1) by decide +kernel)
theorem b249_111 : xk_B d 249 111 [l0, l1, l2, l3, l4, l5, l6] (.int y :: .int x :: st) (f, w) K ↔ xk_B d 249 112 [l0, l1, l2, l3, l4, l5, l6] (.int (x + y) :: st) (f, w) K := xk_B_pure (show xk_ins 249 111 = some (.iadd, 1) by decide +kernel) rfl
theorem b249_112 : xk_B d 249 112 [l0, l1, l2, l3, l4, l5, l6] (.int x :: st) (f, w) K ↔ xk_B d 249 114 [l0, l1, l2, l3, .int x, l5, l6] st (f, w) K := xk_B_pure (show xk_ins 249 112 = some (.istore 4, 2) by decide +kernel) rfl
theorem b249_114 : xk_B d 249 114 [.ref a, l1, l2, l3, l4, l5, l6] st (f, w) K ↔ xk_B d 249 115 [.ref a, l1, l2, l3, l4, l5, l6] (.ref a :: st) (f, w) K := xk_B_pure (show xk_ins 249 114 = some (.aload_n 0, 1) by decide +kernel) rfl
theorem b249_115 : xk_B d 249 115 [l0, l1, l2, l3, l4, l5, l6] [.ref r0] (f, w) K ↔ xk_RC f r0 12 ∧ xk_Cl d 215 [.ref r0] (f, w) (fun v σ => xk_B d 249 118 [l0, l1, l2, l3, l4, l5, l6] (v.toList ++ []) σ K) := xk_B_virtual [] [] (show xk_ins 249 115 = some (.invokevirtual 398, 3) by decide +kernel) (by decide +kernel) (by decide +kernel) (show xk_mt 215 = some _ from rfl) (by simp) rfl rfl (by decide) (by decide) (by simp [xk_sum, Value.category])
theorem b249_118 : xk_B d 249 118 [l0, l1, l2, l3, l4, .int x, l6] st (f, w) K ↔ xk_B d 249 121 [l0, l1, l2, l3, l4, .int (x + xj 1), l6] st (f, w) K := xk_B_pure (show xk_ins 249 118 = some (.iinc 5 1, 3) by decide +kernel) rfl
theorem b249_121 : xk_B d 249 121 [l0, l1, l2, l3, l4, l5, l6] st (f, w) K ↔ xk_B d 249 52 [l0, l1, l2, l3, l4, l5, l6] st (f, w) K := xk_B_go (show xk_ins 249 121 = some (.goto (-69), 3) by decide +kernel) (xk_pure_no rfl rfl (fun _ _ => rfl) (fun _ _ => rfl)) rfl (by decide)
theorem b249_124 : xk_B d 249 124 [l0, l1, .int x, l3, l4, l5, l6] st (f, w) K ↔ xk_B d 249 125 [l0, l1, .int x, l3, l4, l5, l6] (.int x :: st) (f, w) K := xk_B_pure (show xk_ins 249 124 = some (.iload_n 2, 1) by decide +kernel) rfl
theorem b249_125 : xk_B d 249 125 [l0, l1, l2, l3, l4, l5, l6] (.int x :: st) (f, w) K ↔ if ¬ x = xj 0 then xk_B d 249 132 [l0, l1, l2, l3, l4, l5, l6] st (f, w) K else xk_B d 249 128 [l0, l1, l2, l3, l4, l5, l6] st (f, w) K := xk_B_br (P := ¬ x = xj 0) (show xk_ins 249 125 = some (.ifCond .ne 7, 3) by decide +kernel) (xk_pure_no rfl rfl (fun _ _ => rfl) (fun _ _ => rfl)) rfl (by decide)
theorem b249_128 : xk_B d 249 128 [l0, l1, l2, .int x, l4, l5, l6] st (f, w) K ↔ xk_B d 249 129 [l0, l1, l2, .int x, l4, l5, l6] (.int x :: st) (f, w) K := xk_B_pure (show xk_ins 249 128 = some (.iload_n 3, 1) by decide +kernel) rfl
theorem b249_129 : xk_B d 249 129 [l0, l1, l2, l3, l4, l5, l6] st (f, w) K ↔ xk_B d 249 134 [l0, l1, l2, l3, l4, l5, l6] st (f, w) K := xk_B_go (show xk_ins 249 129 = some (.goto 5, 3) by decide +kernel) (xk_pure_no rfl rfl (fun _ _ => rfl) (fun _ _ => rfl)) rfl (by decide)
theorem b249_132 : xk_B d 249 132 [l0, l1, l2, l3, .int x, l5, l6] st (f, w) K ↔ xk_B d 249 134 [l0, l1, l2, l3, .int x, l5, l6] (.int x :: st) (f, w) K := xk_B_pure (show xk_ins 249 132 = some (.iload 4, 2) by decide +kernel) rfl
theorem b249_134 : xk_B d 249 134 [l0, l1, l2, l3, l4, l5, l6] [.int x] (f, w) K ↔ K (some (.int x)) (f, w) := xk_B_ireturn (show xk_ins 249 134 = some (.ireturn, 1) by decide +kernel) rfl rfl
theorem e249 (hD : 1 ≤ D) : xk_Cl D 249 [.ref r0, .int i1, .int i2] (f, w) K ↔ xk_B (D - 1) 249 0 [.ref r0, .int i1, .int i2, xk_dd, xk_dd, xk_dd, xk_dd] [] (f, w) K := xk_Cl_in hD (by decide) (by simp [xk_ent, Value.category, show xk_nL 249 = 7 from rfl]) (by simp [xk_env, xk_ent, Value.category, show xk_nL 249 = 7 from rfl, List.replicate])
-- 250: OnePenModel.count(I)I
theorem b250_0 : xk_B d 250 0 [l0, .int x] st (f, w) K ↔ xk_B d 250 1 [l0, .int x] (.int x :: st) (f, w) K := xk_B_pure (show xk_ins 250 0 = some (.iload_n 1, 1) by decide +kernel) rfl
theorem b250_1 : xk_B d 250 1 [l0, l1] (.int x :: st) (f, w) K ↔ if x = xj 0 then xk_B d 250 84 [l0, l1] st (f, w) K else if x = xj 1 then xk_B d 250 84 [l0, l1] st (f, w) K else if x = xj 2 then xk_B d 250 84 [l0, l1] st (f, w) K else if x = xj 3 then xk_B d 250 84 [l0, l1] st (f, w) K else if x = xj 4 then xk_B d 250 84 [l0, l1] st (f, w) K else if x = xj 5 then xk_B d 250 84 [l0, l1] st (f, w) K else if x = xj 6 then xk_B d 250 91 [l0, l1] st (f, w) K else if x = xj 7 then xk_B d 250 96 [l0, l1] st (f, w) K else if x = xj 8 then xk_B d 250 104 [l0, l1] st (f, w) K else if x = xj 9 then xk_B d 250 125 [l0, l1] st (f, w) K else if x = xj 10 then xk_B d 250 133 [l0, l1] st (f, w) K else if x = xj 11 then xk_B d 250 141 [l0, l1] st (f, w) K else if x = xj 12 then xk_B d 250 159 [l0, l1] st (f, w) K else if x = xj 13 then xk_B d 250 166 [l0, l1] st (f, w) K else if x = xj 14 then xk_B d 250 174 [l0, l1] st (f, w) K else if x = xj 15 then xk_B d 250 179 [l0, l1] st (f, w) K else if x = xj 16 then xk_B d 250 184 [l0, l1] st (f, w) K else xk_B d 250 189 [l0, l1] st (f, w) K := by
  by_cases h0 : x = xj 0
  · subst h0
    simp only [if_true]
    exact xk_B_go (off := 83) (show xk_ins 250 1 = some (.tableswitch 188 0 16 #[83, 83, 83, 83, 83, 83, 90, 95, 103, 124, 132, 140, 158, 165, 173, 178, 183], 83) by decide +kernel) (xk_pure_no rfl rfl (fun _ _ => rfl) (fun _ _ => rfl)) (by simp [xk_br, Op.lookupswitch.offset_cons, show (xj 0).toInt = 0 from by decide]) (by decide)
  simp only [h0, if_false]
  have g0 : ¬ x.toInt = 0 := fun q => h0 (by rw [← Int32.toInt_inj, q]; decide)
  by_cases h1 : x = xj 1
  · subst h1
    simp only [if_true]
    exact xk_B_go (off := 83) (show xk_ins 250 1 = some (.tableswitch 188 0 16 #[83, 83, 83, 83, 83, 83, 90, 95, 103, 124, 132, 140, 158, 165, 173, 178, 183], 83) by decide +kernel) (xk_pure_no rfl rfl (fun _ _ => rfl) (fun _ _ => rfl)) (by simp [xk_br, Op.lookupswitch.offset_cons, show (xj 1).toInt = 1 from by decide]) (by decide)
  simp only [h1, if_false]
  have g1 : ¬ x.toInt = 1 := fun q => h1 (by rw [← Int32.toInt_inj, q]; decide)
  by_cases h2 : x = xj 2
  · subst h2
    simp only [if_true]
    exact xk_B_go (off := 83) (show xk_ins 250 1 = some (.tableswitch 188 0 16 #[83, 83, 83, 83, 83, 83, 90, 95, 103, 124, 132, 140, 158, 165, 173, 178, 183], 83) by decide +kernel) (xk_pure_no rfl rfl (fun _ _ => rfl) (fun _ _ => rfl)) (by simp [xk_br, Op.lookupswitch.offset_cons, show (xj 2).toInt = 2 from by decide]) (by decide)
  simp only [h2, if_false]
  have g2 : ¬ x.toInt = 2 := fun q => h2 (by rw [← Int32.toInt_inj, q]; decide)
  by_cases h3 : x = xj 3
  · subst h3
    simp only [if_true]
    exact xk_B_go (off := 83) (show xk_ins 250 1 = some (.tableswitch 188 0 16 #[83, 83, 83, 83, 83, 83, 90, 95, 103, 124, 132, 140, 158, 165, 173, 178, 183], 83) by decide +kernel) (xk_pure_no rfl rfl (fun _ _ => rfl) (fun _ _ => rfl)) (by simp [xk_br, Op.lookupswitch.offset_cons, show (xj 3).toInt = 3 from by decide]) (by decide)
  simp only [h3, if_false]
  have g3 : ¬ x.toInt = 3 := fun q => h3 (by rw [← Int32.toInt_inj, q]; decide)
  by_cases h4 : x = xj 4
  · subst h4
    simp only [if_true]
    exact xk_B_go (off := 83) (show xk_ins 250 1 = some (.tableswitch 188 0 16 #[83, 83, 83, 83, 83, 83, 90, 95, 103, 124, 132, 140, 158, 165, 173, 178, 183], 83) by decide +kernel) (xk_pure_no rfl rfl (fun _ _ => rfl) (fun _ _ => rfl)) (by simp [xk_br, Op.lookupswitch.offset_cons, show (xj 4).toInt = 4 from by decide]) (by decide)
  simp only [h4, if_false]
  have g4 : ¬ x.toInt = 4 := fun q => h4 (by rw [← Int32.toInt_inj, q]; decide)
  by_cases h5 : x = xj 5
  · subst h5
    simp only [if_true]
    exact xk_B_go (off := 83) (show xk_ins 250 1 = some (.tableswitch 188 0 16 #[83, 83, 83, 83, 83, 83, 90, 95, 103, 124, 132, 140, 158, 165, 173, 178, 183], 83) by decide +kernel) (xk_pure_no rfl rfl (fun _ _ => rfl) (fun _ _ => rfl)) (by simp [xk_br, Op.lookupswitch.offset_cons, show (xj 5).toInt = 5 from by decide]) (by decide)
  simp only [h5, if_false]
  have g5 : ¬ x.toInt = 5 := fun q => h5 (by rw [← Int32.toInt_inj, q]; decide)
  by_cases h6 : x = xj 6
  · subst h6
    simp only [if_true]
    exact xk_B_go (off := 90) (show xk_ins 250 1 = some (.tableswitch 188 0 16 #[83, 83, 83, 83, 83, 83, 90, 95, 103, 124, 132, 140, 158, 165, 173, 178, 183], 83) by decide +kernel) (xk_pure_no rfl rfl (fun _ _ => rfl) (fun _ _ => rfl)) (by simp [xk_br, Op.lookupswitch.offset_cons, show (xj 6).toInt = 6 from by decide]) (by decide)
  simp only [h6, if_false]
  have g6 : ¬ x.toInt = 6 := fun q => h6 (by rw [← Int32.toInt_inj, q]; decide)
  by_cases h7 : x = xj 7
  · subst h7
    simp only [if_true]
    exact xk_B_go (off := 95) (show xk_ins 250 1 = some (.tableswitch 188 0 16 #[83, 83, 83, 83, 83, 83, 90, 95, 103, 124, 132, 140, 158, 165, 173, 178, 183], 83) by decide +kernel) (xk_pure_no rfl rfl (fun _ _ => rfl) (fun _ _ => rfl)) (by simp [xk_br, Op.lookupswitch.offset_cons, show (xj 7).toInt = 7 from by decide]) (by decide)
  simp only [h7, if_false]
  have g7 : ¬ x.toInt = 7 := fun q => h7 (by rw [← Int32.toInt_inj, q]; decide)
  by_cases h8 : x = xj 8
  · subst h8
    simp only [if_true]
    exact xk_B_go (off := 103) (show xk_ins 250 1 = some (.tableswitch 188 0 16 #[83, 83, 83, 83, 83, 83, 90, 95, 103, 124, 132, 140, 158, 165, 173, 178, 183], 83) by decide +kernel) (xk_pure_no rfl rfl (fun _ _ => rfl) (fun _ _ => rfl)) (by simp [xk_br, Op.lookupswitch.offset_cons, show (xj 8).toInt = 8 from by decide]) (by decide)
  simp only [h8, if_false]
  have g8 : ¬ x.toInt = 8 := fun q => h8 (by rw [← Int32.toInt_inj, q]; decide)
  by_cases h9 : x = xj 9
  · subst h9
    simp only [if_true]
    exact xk_B_go (off := 124) (show xk_ins 250 1 = some (.tableswitch 188 0 16 #[83, 83, 83, 83, 83, 83, 90, 95, 103, 124, 132, 140, 158, 165, 173, 178, 183], 83) by decide +kernel) (xk_pure_no rfl rfl (fun _ _ => rfl) (fun _ _ => rfl)) (by simp [xk_br, Op.lookupswitch.offset_cons, show (xj 9).toInt = 9 from by decide]) (by decide)
  simp only [h9, if_false]
  have g9 : ¬ x.toInt = 9 := fun q => h9 (by rw [← Int32.toInt_inj, q]; decide)
  by_cases h10 : x = xj 10
  · subst h10
    simp only [if_true]
    exact xk_B_go (off := 132) (show xk_ins 250 1 = some (.tableswitch 188 0 16 #[83, 83, 83, 83, 83, 83, 90, 95, 103, 124, 132, 140, 158, 165, 173, 178, 183], 83) by decide +kernel) (xk_pure_no rfl rfl (fun _ _ => rfl) (fun _ _ => rfl)) (by simp [xk_br, Op.lookupswitch.offset_cons, show (xj 10).toInt = 10 from by decide]) (by decide)
  simp only [h10, if_false]
  have g10 : ¬ x.toInt = 10 := fun q => h10 (by rw [← Int32.toInt_inj, q]; decide)
  by_cases h11 : x = xj 11
  · subst h11
    simp only [if_true]
    exact xk_B_go (off := 140) (show xk_ins 250 1 = some (.tableswitch 188 0 16 #[83, 83, 83, 83, 83, 83, 90, 95, 103, 124, 132, 140, 158, 165, 173, 178, 183], 83) by decide +kernel) (xk_pure_no rfl rfl (fun _ _ => rfl) (fun _ _ => rfl)) (by simp [xk_br, Op.lookupswitch.offset_cons, show (xj 11).toInt = 11 from by decide]) (by decide)
  simp only [h11, if_false]
  have g11 : ¬ x.toInt = 11 := fun q => h11 (by rw [← Int32.toInt_inj, q]; decide)
  by_cases h12 : x = xj 12
  · subst h12
    simp only [if_true]
    exact xk_B_go (off := 158) (show xk_ins 250 1 = some (.tableswitch 188 0 16 #[83, 83, 83, 83, 83, 83, 90, 95, 103, 124, 132, 140, 158, 165, 173, 178, 183], 83) by decide +kernel) (xk_pure_no rfl rfl (fun _ _ => rfl) (fun _ _ => rfl)) (by simp [xk_br, Op.lookupswitch.offset_cons, show (xj 12).toInt = 12 from by decide]) (by decide)
  simp only [h12, if_false]
  have g12 : ¬ x.toInt = 12 := fun q => h12 (by rw [← Int32.toInt_inj, q]; decide)
  by_cases h13 : x = xj 13
  · subst h13
    simp only [if_true]
    exact xk_B_go (off := 165) (show xk_ins 250 1 = some (.tableswitch 188 0 16 #[83, 83, 83, 83, 83, 83, 90, 95, 103, 124, 132, 140, 158, 165, 173, 178, 183], 83) by decide +kernel) (xk_pure_no rfl rfl (fun _ _ => rfl) (fun _ _ => rfl)) (by simp [xk_br, Op.lookupswitch.offset_cons, show (xj 13).toInt = 13 from by decide]) (by decide)
  simp only [h13, if_false]
  have g13 : ¬ x.toInt = 13 := fun q => h13 (by rw [← Int32.toInt_inj, q]; decide)
  by_cases h14 : x = xj 14
  · subst h14
    simp only [if_true]
    exact xk_B_go (off := 173) (show xk_ins 250 1 = some (.tableswitch 188 0 16 #[83, 83, 83, 83, 83, 83, 90, 95, 103, 124, 132, 140, 158, 165, 173, 178, 183], 83) by decide +kernel) (xk_pure_no rfl rfl (fun _ _ => rfl) (fun _ _ => rfl)) (by simp [xk_br, Op.lookupswitch.offset_cons, show (xj 14).toInt = 14 from by decide]) (by decide)
  simp only [h14, if_false]
  have g14 : ¬ x.toInt = 14 := fun q => h14 (by rw [← Int32.toInt_inj, q]; decide)
  by_cases h15 : x = xj 15
  · subst h15
    simp only [if_true]
    exact xk_B_go (off := 178) (show xk_ins 250 1 = some (.tableswitch 188 0 16 #[83, 83, 83, 83, 83, 83, 90, 95, 103, 124, 132, 140, 158, 165, 173, 178, 183], 83) by decide +kernel) (xk_pure_no rfl rfl (fun _ _ => rfl) (fun _ _ => rfl)) (by simp [xk_br, Op.lookupswitch.offset_cons, show (xj 15).toInt = 15 from by decide]) (by decide)
  simp only [h15, if_false]
  have g15 : ¬ x.toInt = 15 := fun q => h15 (by rw [← Int32.toInt_inj, q]; decide)
  by_cases h16 : x = xj 16
  · subst h16
    simp only [if_true]
    exact xk_B_go (off := 183) (show xk_ins 250 1 = some (.tableswitch 188 0 16 #[83, 83, 83, 83, 83, 83, 90, 95, 103, 124, 132, 140, 158, 165, 173, 178, 183], 83) by decide +kernel) (xk_pure_no rfl rfl (fun _ _ => rfl) (fun _ _ => rfl)) (by simp [xk_br, Op.lookupswitch.offset_cons, show (xj 16).toInt = 16 from by decide]) (by decide)
  simp only [h16, if_false]
  have g16 : ¬ x.toInt = 16 := fun q => h16 (by rw [← Int32.toInt_inj, q]; decide)
  refine xk_B_go (show xk_ins 250 1 = some (.tableswitch 188 0 16 #[83, 83, 83, 83, 83, 83, 90, 95, 103, 124, 132, 140, 158, 165, 173, 178, 183], 83) by decide +kernel) (xk_pure_no rfl rfl (fun _ _ => rfl) (fun _ _ => rfl)) (off := 188) (by unfold xk_br; exact if_pos (by omega)) (by decide)

theorem b250_84 : xk_B d 250 84 [.ref a, l1] st (f, w) K ↔ xk_B d 250 85 [.ref a, l1] (.ref a :: st) (f, w) K := xk_B_pure (show xk_ins 250 84 = some (.aload_n 0, 1) by decide +kernel) rfl
theorem b250_85 : xk_B d 250 85 [l0, l1] (.ref a :: st) (f, w) K ↔ xk_GF f a 12 20 (fun z => xk_B d 250 88 [l0, l1] (z :: st) (f, w) K) := xk_B_getf (show xk_ins 250 85 = some (.getfield 39, 3) by decide +kernel) (by decide +kernel)
theorem b250_88 : xk_B d 250 88 [l0, .int x] st (f, w) K ↔ xk_B d 250 89 [l0, .int x] (.int x :: st) (f, w) K := xk_B_pure (show xk_ins 250 88 = some (.iload_n 1, 1) by decide +kernel) rfl
theorem b250_89 : xk_B d 250 89 [l0, l1] (.int x :: .ref a :: st) (f, w) K ↔ xk_AL f a 0 x (fun x => xk_B d 250 90 [l0, l1] (.int x :: st) (f, w) K) := xk_B_iald (show xk_ins 250 89 = some (.iaload, 1) by decide +kernel)
theorem b250_90 : xk_B d 250 90 [l0, l1] [.int x] (f, w) K ↔ K (some (.int x)) (f, w) := xk_B_ireturn (show xk_ins 250 90 = some (.ireturn, 1) by decide +kernel) rfl rfl
theorem b250_91 : xk_B d 250 91 [.ref a, l1] st (f, w) K ↔ xk_B d 250 92 [.ref a, l1] (.ref a :: st) (f, w) K := xk_B_pure (show xk_ins 250 91 = some (.aload_n 0, 1) by decide +kernel) rfl
theorem b250_92 : xk_B d 250 92 [l0, l1] (.ref a :: st) (f, w) K ↔ xk_GF f a 12 2 (fun z => xk_B d 250 95 [l0, l1] (z :: st) (f, w) K) := xk_B_getf (show xk_ins 250 92 = some (.getfield 265, 3) by decide +kernel) (by decide +kernel)
theorem b250_95 : xk_B d 250 95 [l0, l1] [.int x] (f, w) K ↔ K (some (.int x)) (f, w) := xk_B_ireturn (show xk_ins 250 95 = some (.ireturn, 1) by decide +kernel) rfl rfl
theorem b250_96 : xk_B d 250 96 [.ref a, l1] st (f, w) K ↔ xk_B d 250 97 [.ref a, l1] (.ref a :: st) (f, w) K := xk_B_pure (show xk_ins 250 96 = some (.aload_n 0, 1) by decide +kernel) rfl
theorem b250_97 : xk_B d 250 97 [l0, l1] (.ref a :: st) (f, w) K ↔ xk_GF f a 12 20 (fun z => xk_B d 250 100 [l0, l1] (z :: st) (f, w) K) := xk_B_getf (show xk_ins 250 97 = some (.getfield 39, 3) by decide +kernel) (by decide +kernel)
theorem b250_100 : xk_B d 250 100 [l0, l1] st (f, w) K ↔ xk_B d 250 102 [l0, l1] (.int (xj 10) :: st) (f, w) K := xk_B_bipush (show xk_ins 250 100 = some (.bipush 10, 2) by decide +kernel) (by decide +kernel)
theorem b250_102 : xk_B d 250 102 [l0, l1] (.int x :: .ref a :: st) (f, w) K ↔ xk_AL f a 0 x (fun x => xk_B d 250 103 [l0, l1] (.int x :: st) (f, w) K) := xk_B_iald (show xk_ins 250 102 = some (.iaload, 1) by decide +kernel)
theorem b250_103 : xk_B d 250 103 [l0, l1] [.int x] (f, w) K ↔ K (some (.int x)) (f, w) := xk_B_ireturn (show xk_ins 250 103 = some (.ireturn, 1) by decide +kernel) rfl rfl
theorem b250_104 : xk_B d 250 104 [.ref a, l1] st (f, w) K ↔ xk_B d 250 105 [.ref a, l1] (.ref a :: st) (f, w) K := xk_B_pure (show xk_ins 250 104 = some (.aload_n 0, 1) by decide +kernel) rfl
theorem b250_105 : xk_B d 250 105 [l0, l1] (.ref a :: st) (f, w) K ↔ xk_GF f a 12 20 (fun z => xk_B d 250 108 [l0, l1] (z :: st) (f, w) K) := xk_B_getf (show xk_ins 250 105 = some (.getfield 39, 3) by decide +kernel) (by decide +kernel)
theorem b250_108 : xk_B d 250 108 [l0, l1] st (f, w) K ↔ xk_B d 250 109 [l0, l1] (.int (xj 3) :: st) (f, w) K := xk_B_iconst (show xk_ins 250 108 = some (.iconst 3, 1) by decide +kernel)
theorem b250_109 : xk_B d 250 109 [l0, l1] (.int x :: .ref a :: st) (f, w) K ↔ xk_AL f a 0 x (fun x => xk_B d 250 110 [l0, l1] (.int x :: st) (f, w) K) := xk_B_iald (show xk_ins 250 109 = some (.iaload, 1) by decide +kernel)
theorem b250_110 : xk_B d 250 110 [l0, l1] (.int x :: st) (f, w) K ↔ if x ≤ xj 0 then xk_B d 250 123 [l0, l1] st (f, w) K else xk_B d 250 113 [l0, l1] st (f, w) K := xk_B_br (P := x ≤ xj 0) (show xk_ins 250 110 = some (.ifCond .le 13, 3) by decide +kernel) (xk_pure_no rfl rfl (fun _ _ => rfl) (fun _ _ => rfl)) rfl (by decide)
theorem b250_113 : xk_B d 250 113 [.ref a, l1] st (f, w) K ↔ xk_B d 250 114 [.ref a, l1] (.ref a :: st) (f, w) K := xk_B_pure (show xk_ins 250 113 = some (.aload_n 0, 1) by decide +kernel) rfl
theorem b250_114 : xk_B d 250 114 [l0, l1] (.ref a :: st) (f, w) K ↔ xk_GF f a 12 20 (fun z => xk_B d 250 117 [l0, l1] (z :: st) (f, w) K) := xk_B_getf (show xk_ins 250 114 = some (.getfield 39, 3) by decide +kernel) (by decide +kernel)
theorem b250_117 : xk_B d 250 117 [l0, l1] st (f, w) K ↔ xk_B d 250 119 [l0, l1] (.int (xj 11) :: st) (f, w) K := xk_B_bipush (show xk_ins 250 117 = some (.bipush 11, 2) by decide +kernel) (by decide +kernel)
theorem b250_119 : xk_B d 250 119 [l0, l1] (.int x :: .ref a :: st) (f, w) K ↔ xk_AL f a 0 x (fun x => xk_B d 250 120 [l0, l1] (.int x :: st) (f, w) K) := xk_B_iald (show xk_ins 250 119 = some (.iaload, 1) by decide +kernel)
theorem b250_120 : xk_B d 250 120 [l0, l1] st (f, w) K ↔ xk_B d 250 124 [l0, l1] st (f, w) K := xk_B_go (show xk_ins 250 120 = some (.goto 4, 3) by decide +kernel) (xk_pure_no rfl rfl (fun _ _ => rfl) (fun _ _ => rfl)) rfl (by decide)
theorem b250_123 : xk_B d 250 123 [l0, l1] st (f, w) K ↔ xk_B d 250 124 [l0, l1] (.int (xj (-1)) :: st) (f, w) K := xk_B_iconst (show xk_ins 250 123 = some (.iconst (-1), 1) by decide +kernel)
theorem b250_124 : xk_B d 250 124 [l0, l1] [.int x] (f, w) K ↔ K (some (.int x)) (f, w) := xk_B_ireturn (show xk_ins 250 124 = some (.ireturn, 1) by decide +kernel) rfl rfl
theorem b250_125 : xk_B d 250 125 [.ref a, l1] st (f, w) K ↔ xk_B d 250 126 [.ref a, l1] (.ref a :: st) (f, w) K := xk_B_pure (show xk_ins 250 125 = some (.aload_n 0, 1) by decide +kernel) rfl
theorem b250_126 : xk_B d 250 126 [l0, l1] (.ref a :: st) (f, w) K ↔ xk_GF f a 12 20 (fun z => xk_B d 250 129 [l0, l1] (z :: st) (f, w) K) := xk_B_getf (show xk_ins 250 126 = some (.getfield 39, 3) by decide +kernel) (by decide +kernel)
theorem b250_129 : xk_B d 250 129 [l0, l1] st (f, w) K ↔ xk_B d 250 131 [l0, l1] (.int (xj 12) :: st) (f, w) K := xk_B_bipush (show xk_ins 250 129 = some (.bipush 12, 2) by decide +kernel) (by decide +kernel)
theorem b250_131 : xk_B d 250 131 [l0, l1] (.int x :: .ref a :: st) (f, w) K ↔ xk_AL f a 0 x (fun x => xk_B d 250 132 [l0, l1] (.int x :: st) (f, w) K) := xk_B_iald (show xk_ins 250 131 = some (.iaload, 1) by decide +kernel)
theorem b250_132 : xk_B d 250 132 [l0, l1] [.int x] (f, w) K ↔ K (some (.int x)) (f, w) := xk_B_ireturn (show xk_ins 250 132 = some (.ireturn, 1) by decide +kernel) rfl rfl
theorem b250_133 : xk_B d 250 133 [.ref a, l1] st (f, w) K ↔ xk_B d 250 134 [.ref a, l1] (.ref a :: st) (f, w) K := xk_B_pure (show xk_ins 250 133 = some (.aload_n 0, 1) by decide +kernel) rfl
theorem b250_134 : xk_B d 250 134 [l0, l1] (.ref a :: st) (f, w) K ↔ xk_GF f a 12 20 (fun z => xk_B d 250 137 [l0, l1] (z :: st) (f, w) K) := xk_B_getf (show xk_ins 250 134 = some (.getfield 39, 3) by decide +kernel) (by decide +kernel)
theorem b250_137 : xk_B d 250 137 [l0, l1] st (f, w) K ↔ xk_B d 250 139 [l0, l1] (.int (xj 13) :: st) (f, w) K := xk_B_bipush (show xk_ins 250 137 = some (.bipush 13, 2) by decide +kernel) (by decide +kernel)
theorem b250_139 : xk_B d 250 139 [l0, l1] (.int x :: .ref a :: st) (f, w) K ↔ xk_AL f a 0 x (fun x => xk_B d 250 140 [l0, l1] (.int x :: st) (f, w) K) := xk_B_iald (show xk_ins 250 139 = some (.iaload, 1) by decide +kernel)
theorem b250_140 : xk_B d 250 140 [l0, l1] [.int x] (f, w) K ↔ K (some (.int x)) (f, w) := xk_B_ireturn (show xk_ins 250 140 = some (.ireturn, 1) by decide +kernel) rfl rfl
theorem b250_141 : xk_B d 250 141 [l0, l1] st (f, w) K ↔ xk_B d 250 142 [l0, l1] (.int (xj 1) :: st) (f, w) K := xk_B_iconst (show xk_ins 250 141 = some (.iconst 1, 1) by decide +kernel)
theorem b250_142 : xk_B d 250 142 [.ref a, l1] st (f, w) K ↔ xk_B d 250 143 [.ref a, l1] (.ref a :: st) (f, w) K := xk_B_pure (show xk_ins 250 142 = some (.aload_n 0, 1) by decide +kernel) rfl
theorem b250_143 : xk_B d 250 143 [l0, l1] (.ref a :: st) (f, w) K ↔ xk_GF f a 12 20 (fun z => xk_B d 250 146 [l0, l1] (z :: st) (f, w) K) := xk_B_getf (show xk_ins 250 143 = some (.getfield 39, 3) by decide +kernel) (by decide +kernel)
theorem b250_146 : xk_B d 250 146 [l0, l1] st (f, w) K ↔ xk_B d 250 147 [l0, l1] (.int (xj 5) :: st) (f, w) K := xk_B_iconst (show xk_ins 250 146 = some (.iconst 5, 1) by decide +kernel)
theorem b250_147 : xk_B d 250 147 [l0, l1] (.int x :: .ref a :: st) (f, w) K ↔ xk_AL f a 0 x (fun x => xk_B d 250 148 [l0, l1] (.int x :: st) (f, w) K) := xk_B_iald (show xk_ins 250 147 = some (.iaload, 1) by decide +kernel)
theorem b250_148 : xk_B d 250 148 [l0, l1] (.int y :: .int x :: st) (f, w) K ↔ xk_B d 250 149 [l0, l1] (.int (x <<< (y &&& 31)) :: st) (f, w) K := xk_B_pure (show xk_ins 250 148 = some (.ishl, 1) by decide +kernel) rfl
theorem b250_149 : xk_B d 250 149 [l0, l1] st (f, w) K ↔ xk_B d 250 150 [l0, l1] (.int (xj 1) :: st) (f, w) K := xk_B_iconst (show xk_ins 250 149 = some (.iconst 1, 1) by decide +kernel)
theorem b250_150 : xk_B d 250 150 [l0, l1] (.int y :: .int x :: st) (f, w) K ↔ xk_B d 250 151 [l0, l1] (.int (x - y) :: st) (f, w) K := xk_B_pure (show xk_ins 250 150 = some (.isub, 1) by decide +kernel) rfl
theorem b250_151 : xk_B d 250 151 [.ref a, l1] st (f, w) K ↔ xk_B d 250 152 [.ref a, l1] (.ref a :: st) (f, w) K := xk_B_pure (show xk_ins 250 151 = some (.aload_n 0, 1) by decide +kernel) rfl
theorem b250_152 : xk_B d 250 152 [l0, l1] [.ref r1, .int i0] (f, w) K ↔ xk_RC f r1 12 ∧ xk_Cl d 195 [.ref r1] (f, w) (fun v σ => xk_B d 250 155 [l0, l1] (v.toList ++ [.int i0]) σ K) := xk_B_virtual [] [.int i0] (show xk_ins 250 152 = some (.invokevirtual 320, 3) by decide +kernel) (by decide +kernel) (by decide +kernel) (show xk_mt 195 = some _ from rfl) (by simp) rfl rfl (by decide) (by decide) (by simp [xk_sum, Value.category])
theorem b250_155 : xk_B d 250 155 [l0, l1] st (f, w) K ↔ xk_B d 250 156 [l0, l1] (.int (xj (-1)) :: st) (f, w) K := xk_B_iconst (show xk_ins 250 155 = some (.iconst (-1), 1) by decide +kernel)
theorem b250_156 : xk_B d 250 156 [l0, l1] (.int y :: .int x :: st) (f, w) K ↔ xk_B d 250 157 [l0, l1] (.int (x ^^^ y) :: st) (f, w) K := xk_B_pure (show xk_ins 250 156 = some (.ixor, 1) by decide +kernel) rfl
theorem b250_157 : xk_B d 250 157 [l0, l1] (.int y :: .int x :: st) (f, w) K ↔ xk_B d 250 158 [l0, l1] (.int (x &&& y) :: st) (f, w) K := xk_B_pure (show xk_ins 250 157 = some (.iand, 1) by decide +kernel) rfl
theorem b250_158 : xk_B d 250 158 [l0, l1] [.int x] (f, w) K ↔ K (some (.int x)) (f, w) := xk_B_ireturn (show xk_ins 250 158 = some (.ireturn, 1) by decide +kernel) rfl rfl
theorem b250_159 : xk_B d 250 159 [.ref a, l1] st (f, w) K ↔ xk_B d 250 160 [.ref a, l1] (.ref a :: st) (f, w) K := xk_B_pure (show xk_ins 250 159 = some (.aload_n 0, 1) by decide +kernel) rfl
theorem b250_160 : xk_B d 250 160 [l0, l1] st (f, w) K ↔ xk_B d 250 162 [l0, l1] (.int (xj 63) :: st) (f, w) K := xk_B_bipush (show xk_ins 250 160 = some (.bipush 63, 2) by decide +kernel) (by decide +kernel)
theorem b250_162 : xk_B d 250 162 [l0, l1] [.int i1, .ref r0] (f, w) K ↔ xk_RC f r0 12 ∧ xk_Cl d 197 [.ref r0, .int i1] (f, w) (fun v σ => xk_B d 250 165 [l0, l1] (v.toList ++ []) σ K) := xk_B_virtual [.int i1] [] (show xk_ins 250 162 = some (.invokevirtual 395, 3) by decide +kernel) (by decide +kernel) (by decide +kernel) (show xk_mt 197 = some _ from rfl) (by simp) rfl rfl (by decide) (by decide) (by simp [xk_sum, Value.category])
theorem b250_165 : xk_B d 250 165 [l0, l1] [.int x] (f, w) K ↔ K (some (.int x)) (f, w) := xk_B_ireturn (show xk_ins 250 165 = some (.ireturn, 1) by decide +kernel) rfl rfl
theorem b250_166 : xk_B d 250 166 [.ref a, l1] st (f, w) K ↔ xk_B d 250 167 [.ref a, l1] (.ref a :: st) (f, w) K := xk_B_pure (show xk_ins 250 166 = some (.aload_n 0, 1) by decide +kernel) rfl
theorem b250_167 : xk_B d 250 167 [l0, l1] (.ref a :: st) (f, w) K ↔ xk_GF f a 12 20 (fun z => xk_B d 250 170 [l0, l1] (z :: st) (f, w) K) := xk_B_getf (show xk_ins 250 167 = some (.getfield 39, 3) by decide +kernel) (by decide +kernel)
theorem b250_170 : xk_B d 250 170 [l0, l1] st (f, w) K ↔ xk_B d 250 172 [l0, l1] (.int (xj 114) :: st) (f, w) K := xk_B_bipush (show xk_ins 250 170 = some (.bipush 114, 2) by decide +kernel) (by decide +kernel)
theorem b250_172 : xk_B d 250 172 [l0, l1] (.int x :: .ref a :: st) (f, w) K ↔ xk_AL f a 0 x (fun x => xk_B d 250 173 [l0, l1] (.int x :: st) (f, w) K) := xk_B_iald (show xk_ins 250 172 = some (.iaload, 1) by decide +kernel)
theorem b250_173 : xk_B d 250 173 [l0, l1] [.int x] (f, w) K ↔ K (some (.int x)) (f, w) := xk_B_ireturn (show xk_ins 250 173 = some (.ireturn, 1) by decide +kernel) rfl rfl
theorem b250_174 : xk_B d 250 174 [.ref a, l1] st (f, w) K ↔ xk_B d 250 175 [.ref a, l1] (.ref a :: st) (f, w) K := xk_B_pure (show xk_ins 250 174 = some (.aload_n 0, 1) by decide +kernel) rfl
theorem b250_175 : xk_B d 250 175 [l0, l1] (.ref a :: st) (f, w) K ↔ xk_GF f a 12 28 (fun z => xk_B d 250 178 [l0, l1] (z :: st) (f, w) K) := xk_B_getf (show xk_ins 250 175 = some (.getfield 271, 3) by decide +kernel) (by decide +kernel)
theorem b250_178 : xk_B d 250 178 [l0, l1] [.int x] (f, w) K ↔ K (some (.int x)) (f, w) := xk_B_ireturn (show xk_ins 250 178 = some (.ireturn, 1) by decide +kernel) rfl rfl
theorem b250_179 : xk_B d 250 179 [.ref a, l1] st (f, w) K ↔ xk_B d 250 180 [.ref a, l1] (.ref a :: st) (f, w) K := xk_B_pure (show xk_ins 250 179 = some (.aload_n 0, 1) by decide +kernel) rfl
theorem b250_180 : xk_B d 250 180 [l0, l1] (.ref a :: st) (f, w) K ↔ xk_GF f a 12 21 (fun z => xk_B d 250 183 [l0, l1] (z :: st) (f, w) K) := xk_B_getf (show xk_ins 250 180 = some (.getfield 466, 3) by decide +kernel) (by decide +kernel)
theorem b250_183 : xk_B d 250 183 [l0, l1] [.int x] (f, w) K ↔ K (some (.int x)) (f, w) := xk_B_ireturn (show xk_ins 250 183 = some (.ireturn, 1) by decide +kernel) rfl rfl
theorem b250_184 : xk_B d 250 184 [.ref a, l1] st (f, w) K ↔ xk_B d 250 185 [.ref a, l1] (.ref a :: st) (f, w) K := xk_B_pure (show xk_ins 250 184 = some (.aload_n 0, 1) by decide +kernel) rfl
theorem b250_185 : xk_B d 250 185 [l0, l1] (.ref a :: st) (f, w) K ↔ xk_GF f a 12 1 (fun z => xk_B d 250 188 [l0, l1] (z :: st) (f, w) K) := xk_B_getf (show xk_ins 250 185 = some (.getfield 83, 3) by decide +kernel) (by decide +kernel)
theorem b250_188 : xk_B d 250 188 [l0, l1] [.int x] (f, w) K ↔ K (some (.int x)) (f, w) := xk_B_ireturn (show xk_ins 250 188 = some (.ireturn, 1) by decide +kernel) rfl rfl
theorem b250_189 : xk_B d 250 189 [l0, l1] st (f, w) K ↔ xk_B d 250 190 [l0, l1] (.int (xj (-1)) :: st) (f, w) K := xk_B_iconst (show xk_ins 250 189 = some (.iconst (-1), 1) by decide +kernel)
theorem b250_190 : xk_B d 250 190 [l0, l1] [.int x] (f, w) K ↔ K (some (.int x)) (f, w) := xk_B_ireturn (show xk_ins 250 190 = some (.ireturn, 1) by decide +kernel) rfl rfl
theorem e250 (hD : 1 ≤ D) : xk_Cl D 250 [.ref r0, .int i1] (f, w) K ↔ xk_B (D - 1) 250 0 [.ref r0, .int i1] [] (f, w) K := xk_Cl_in hD (by decide) (by simp [xk_ent, Value.category, show xk_nL 250 = 2 from rfl]) (by simp [xk_env, xk_ent, Value.category, show xk_nL 250 = 2 from rfl, List.replicate])
-- 251: OnePenModel.image(I)I
theorem b251_0 : xk_B d 251 0 [l0, .int x, l2] st (f, w) K ↔ xk_B d 251 1 [l0, .int x, l2] (.int x :: st) (f, w) K := xk_B_pure (show xk_ins 251 0 = some (.iload_n 1, 1) by decide +kernel) rfl
theorem b251_1 : xk_B d 251 1 [l0, l1, l2] (.int x :: st) (f, w) K ↔ xk_B d 251 2 [l0, l1, l2] (.long x.toInt64 :: st) (f, w) K := xk_B_pure (show xk_ins 251 1 = some (.i2l, 1) by decide +kernel) rfl
theorem b251_2 : xk_B d 251 2 [l0, l1, l2] st (f, w) K ↔ xk_B d 251 3 [l0, l1, l2] (.long 0 :: st) (f, w) K := xk_B_pure (show xk_ins 251 2 = some (.lconst 0, 1) by decide +kernel) rfl
theorem b251_3 : xk_B d 251 3 [l0, l1, l2] st (f, w) K ↔ xk_B d 251 6 [l0, l1, l2] (.long 3 :: st) (f, w) K := xk_B_ldc2 (show xk_ins 251 3 = some (.ldc2_w 311, 3) by decide +kernel) (by decide +kernel)
theorem b251_6 : xk_B d 251 6 [l0, l1, l2] [.long j2, .long j1, .long j0] (f, w) K ↔ xk_Cl d 141 [.long j0, .long j1, .long j2] (f, w) (fun v σ => xk_B d 251 9 [l0, l1, l2] (v.toList ++ []) σ K) := xk_B_static (nest := false) [.long j0, .long j1, .long j2] [] (show xk_ins 251 6 = some (.invokestatic 121, 3) by decide +kernel) (by decide +kernel) (show xk_mt 141 = some _ from rfl) (by simp) rfl rfl (by simp [xk_sum, Value.category]) (by decide +kernel)
theorem b251_9 : xk_B d 251 9 [l0, l1, l2] (.int x :: st) (f, w) K ↔ if ¬ x = xj 0 then xk_B d 251 14 [l0, l1, l2] st (f, w) K else xk_B d 251 12 [l0, l1, l2] st (f, w) K := xk_B_br (P := ¬ x = xj 0) (show xk_ins 251 9 = some (.ifCond .ne 5, 3) by decide +kernel) (xk_pure_no rfl rfl (fun _ _ => rfl) (fun _ _ => rfl)) rfl (by decide)
theorem b251_12 : xk_B d 251 12 [l0, l1, l2] st (f, w) K ↔ xk_B d 251 13 [l0, l1, l2] (.int (xj (-1)) :: st) (f, w) K := xk_B_iconst (show xk_ins 251 12 = some (.iconst (-1), 1) by decide +kernel)
theorem b251_13 : xk_B d 251 13 [l0, l1, l2] [.int x] (f, w) K ↔ K (some (.int x)) (f, w) := xk_B_ireturn (show xk_ins 251 13 = some (.ireturn, 1) by decide +kernel) rfl rfl
theorem b251_14 : xk_B d 251 14 [.ref a, l1, l2] st (f, w) K ↔ xk_B d 251 15 [.ref a, l1, l2] (.ref a :: st) (f, w) K := xk_B_pure (show xk_ins 251 14 = some (.aload_n 0, 1) by decide +kernel) rfl
theorem b251_15 : xk_B d 251 15 [l0, l1, l2] (.ref a :: st) (f, w) K ↔ xk_GF f a 12 46 (fun z => xk_B d 251 18 [l0, l1, l2] (z :: st) (f, w) K) := xk_B_getf (show xk_ins 251 15 = some (.getfield 79, 3) by decide +kernel) (by decide +kernel)
theorem b251_18 : xk_B d 251 18 [l0, .int x, l2] st (f, w) K ↔ xk_B d 251 19 [l0, .int x, l2] (.int x :: st) (f, w) K := xk_B_pure (show xk_ins 251 18 = some (.iload_n 1, 1) by decide +kernel) rfl
theorem b251_19 : xk_B d 251 19 [l0, l1, l2] st (f, w) K ↔ xk_B d 251 20 [l0, l1, l2] (.int (xj 1) :: st) (f, w) K := xk_B_iconst (show xk_ins 251 19 = some (.iconst 1, 1) by decide +kernel)
theorem b251_20 : xk_B d 251 20 [l0, l1, l2] (.int y :: .int x :: .ref a :: st) (f, w) K ↔ xk_ASB f a x y (fun f => xk_B d 251 21 [l0, l1, l2] st (f, w) K) := xk_B_bast (show xk_ins 251 20 = some (.bastore, 1) by decide +kernel)
theorem b251_21 : xk_B d 251 21 [.ref a, l1, l2] st (f, w) K ↔ xk_B d 251 22 [.ref a, l1, l2] (.ref a :: st) (f, w) K := xk_B_pure (show xk_ins 251 21 = some (.aload_n 0, 1) by decide +kernel) rfl
theorem b251_22 : xk_B d 251 22 [l0, l1, l2] (.ref a :: st) (f, w) K ↔ xk_GF f a 12 45 (fun z => xk_B d 251 25 [l0, l1, l2] (z :: st) (f, w) K) := xk_B_getf (show xk_ins 251 22 = some (.getfield 76, 3) by decide +kernel) (by decide +kernel)
theorem b251_25 : xk_B d 251 25 [l0, .int x, l2] st (f, w) K ↔ xk_B d 251 26 [l0, .int x, l2] (.int x :: st) (f, w) K := xk_B_pure (show xk_ins 251 25 = some (.iload_n 1, 1) by decide +kernel) rfl
theorem b251_26 : xk_B d 251 26 [.ref a, l1, l2] st (f, w) K ↔ xk_B d 251 27 [.ref a, l1, l2] (.ref a :: st) (f, w) K := xk_B_pure (show xk_ins 251 26 = some (.aload_n 0, 1) by decide +kernel) rfl
theorem b251_27 : xk_B d 251 27 [l0, l1, l2] (.ref a :: st) (f, w) K ↔ xk_GF f a 12 21 (fun z => xk_B d 251 30 [l0, l1, l2] (z :: st) (f, w) K) := xk_B_getf (show xk_ins 251 27 = some (.getfield 466, 3) by decide +kernel) (by decide +kernel)
theorem b251_30 : xk_B d 251 30 [l0, l1, l2] (.int y :: .int x :: .ref a :: st) (f, w) K ↔ xk_AS f a x y (fun f => xk_B d 251 31 [l0, l1, l2] st (f, w) K) := xk_B_iast (show xk_ins 251 30 = some (.iastore, 1) by decide +kernel)
theorem b251_31 : xk_B d 251 31 [l0, l1, l2] st (f, w) K ↔ xk_B d 251 32 [l0, l1, l2] (.int (xj 0) :: st) (f, w) K := xk_B_iconst (show xk_ins 251 31 = some (.iconst 0, 1) by decide +kernel)
theorem b251_32 : xk_B d 251 32 [l0, l1, l2] (.int x :: st) (f, w) K ↔ xk_B d 251 33 [l0, l1, .int x] st (f, w) K := xk_B_pure (show xk_ins 251 32 = some (.istore_n 2, 1) by decide +kernel) rfl
theorem b251_33 : xk_B d 251 33 [l0, l1, .int x] st (f, w) K ↔ xk_B d 251 34 [l0, l1, .int x] (.int x :: st) (f, w) K := xk_B_pure (show xk_ins 251 33 = some (.iload_n 2, 1) by decide +kernel) rfl
theorem b251_34 : xk_B d 251 34 [l0, l1, l2] st (f, w) K ↔ xk_B d 251 36 [l0, l1, l2] (.int (xj 115) :: st) (f, w) K := xk_B_bipush (show xk_ins 251 34 = some (.bipush 115, 2) by decide +kernel) (by decide +kernel)
theorem b251_36 : xk_B d 251 36 [l0, l1, l2] (.int y :: .int x :: st) (f, w) K ↔ if y ≤ x then xk_B d 251 62 [l0, l1, l2] st (f, w) K else xk_B d 251 39 [l0, l1, l2] st (f, w) K := xk_B_br (P := y ≤ x) (show xk_ins 251 36 = some (.if_icmp .ge 26, 3) by decide +kernel) (xk_pure_no rfl rfl (fun _ _ => rfl) (fun _ _ => rfl)) rfl (by decide)
theorem b251_39 : xk_B d 251 39 [.ref a, l1, l2] st (f, w) K ↔ xk_B d 251 40 [.ref a, l1, l2] (.ref a :: st) (f, w) K := xk_B_pure (show xk_ins 251 39 = some (.aload_n 0, 1) by decide +kernel) rfl
theorem b251_40 : xk_B d 251 40 [l0, l1, l2] (.ref a :: st) (f, w) K ↔ xk_GF f a 12 44 (fun z => xk_B d 251 43 [l0, l1, l2] (z :: st) (f, w) K) := xk_B_getf (show xk_ins 251 40 = some (.getfield 73, 3) by decide +kernel) (by decide +kernel)
theorem b251_43 : xk_B d 251 43 [l0, l1, l2] st (f, w) K ↔ xk_B d 251 45 [l0, l1, l2] (.int (xj 115) :: st) (f, w) K := xk_B_bipush (show xk_ins 251 43 = some (.bipush 115, 2) by decide +kernel) (by decide +kernel)
theorem b251_45 : xk_B d 251 45 [l0, .int x, l2] st (f, w) K ↔ xk_B d 251 46 [l0, .int x, l2] (.int x :: st) (f, w) K := xk_B_pure (show xk_ins 251 45 = some (.iload_n 1, 1) by decide +kernel) rfl
theorem b251_46 : xk_B d 251 46 [l0, l1, l2] (.int y :: .int x :: st) (f, w) K ↔ xk_B d 251 47 [l0, l1, l2] (.int (x * y) :: st) (f, w) K := xk_B_pure (show xk_ins 251 46 = some (.imul, 1) by decide +kernel) rfl
theorem b251_47 : xk_B d 251 47 [l0, l1, .int x] st (f, w) K ↔ xk_B d 251 48 [l0, l1, .int x] (.int x :: st) (f, w) K := xk_B_pure (show xk_ins 251 47 = some (.iload_n 2, 1) by decide +kernel) rfl
theorem b251_48 : xk_B d 251 48 [l0, l1, l2] (.int y :: .int x :: st) (f, w) K ↔ xk_B d 251 49 [l0, l1, l2] (.int (x + y) :: st) (f, w) K := xk_B_pure (show xk_ins 251 48 = some (.iadd, 1) by decide +kernel) rfl
theorem b251_49 : xk_B d 251 49 [.ref a, l1, l2] st (f, w) K ↔ xk_B d 251 50 [.ref a, l1, l2] (.ref a :: st) (f, w) K := xk_B_pure (show xk_ins 251 49 = some (.aload_n 0, 1) by decide +kernel) rfl
theorem b251_50 : xk_B d 251 50 [l0, l1, l2] (.ref a :: st) (f, w) K ↔ xk_GF f a 12 20 (fun z => xk_B d 251 53 [l0, l1, l2] (z :: st) (f, w) K) := xk_B_getf (show xk_ins 251 50 = some (.getfield 39, 3) by decide +kernel) (by decide +kernel)
theorem b251_53 : xk_B d 251 53 [l0, l1, .int x] st (f, w) K ↔ xk_B d 251 54 [l0, l1, .int x] (.int x :: st) (f, w) K := xk_B_pure (show xk_ins 251 53 = some (.iload_n 2, 1) by decide +kernel) rfl
theorem b251_54 : xk_B d 251 54 [l0, l1, l2] (.int x :: .ref a :: st) (f, w) K ↔ xk_AL f a 0 x (fun x => xk_B d 251 55 [l0, l1, l2] (.int x :: st) (f, w) K) := xk_B_iald (show xk_ins 251 54 = some (.iaload, 1) by decide +kernel)
theorem b251_55 : xk_B d 251 55 [l0, l1, l2] (.int y :: .int x :: .ref a :: st) (f, w) K ↔ xk_AS f a x y (fun f => xk_B d 251 56 [l0, l1, l2] st (f, w) K) := xk_B_iast (show xk_ins 251 55 = some (.iastore, 1) by decide +kernel)
theorem b251_56 : xk_B d 251 56 [l0, l1, .int x] st (f, w) K ↔ xk_B d 251 59 [l0, l1, .int (x + xj 1)] st (f, w) K := xk_B_pure (show xk_ins 251 56 = some (.iinc 2 1, 3) by decide +kernel) rfl
theorem b251_59 : xk_B d 251 59 [l0, l1, l2] st (f, w) K ↔ xk_B d 251 33 [l0, l1, l2] st (f, w) K := xk_B_go (show xk_ins 251 59 = some (.goto (-26), 3) by decide +kernel) (xk_pure_no rfl rfl (fun _ _ => rfl) (fun _ _ => rfl)) rfl (by decide)
theorem b251_62 : xk_B d 251 62 [.ref a, l1, l2] st (f, w) K ↔ xk_B d 251 63 [.ref a, l1, l2] (.ref a :: st) (f, w) K := xk_B_pure (show xk_ins 251 62 = some (.aload_n 0, 1) by decide +kernel) rfl
theorem b251_63 : xk_B d 251 63 [l0, l1, l2] (.ref a :: st) (f, w) K ↔ xk_GF f a 12 20 (fun z => xk_B d 251 66 [l0, l1, l2] (z :: st) (f, w) K) := xk_B_getf (show xk_ins 251 63 = some (.getfield 39, 3) by decide +kernel) (by decide +kernel)
theorem b251_66 : xk_B d 251 66 [l0, l1, l2] st (f, w) K ↔ xk_B d 251 68 [l0, l1, l2] (.int (xj 10) :: st) (f, w) K := xk_B_bipush (show xk_ins 251 66 = some (.bipush 10, 2) by decide +kernel) (by decide +kernel)
theorem b251_68 : xk_B d 251 68 [l0, l1, l2] (.int x :: .ref a :: st) (f, w) K ↔ xk_AL f a 0 x (fun x => xk_B d 251 69 [l0, l1, l2] (.int x :: st) (f, w) K) := xk_B_iald (show xk_ins 251 68 = some (.iaload, 1) by decide +kernel)
theorem b251_69 : xk_B d 251 69 [l0, l1, l2] [.int x] (f, w) K ↔ K (some (.int x)) (f, w) := xk_B_ireturn (show xk_ins 251 69 = some (.ireturn, 1) by decide +kernel) rfl rfl
theorem e251 (hD : 1 ≤ D) : xk_Cl D 251 [.ref r0, .int i1] (f, w) K ↔ xk_B (D - 1) 251 0 [.ref r0, .int i1, xk_dd] [] (f, w) K := xk_Cl_in hD (by decide) (by simp [xk_ent, Value.category, show xk_nL 251 = 3 from rfl]) (by simp [xk_env, xk_ent, Value.category, show xk_nL 251 = 3 from rfl, List.replicate])
-- 252: OnePenModel.back(I)I
theorem b252_0 : xk_B d 252 0 [l0, .int x, l2] st (f, w) K ↔ xk_B d 252 1 [l0, .int x, l2] (.int x :: st) (f, w) K := xk_B_pure (show xk_ins 252 0 = some (.iload_n 1, 1) by decide +kernel) rfl
theorem b252_1 : xk_B d 252 1 [l0, l1, l2] (.int x :: st) (f, w) K ↔ xk_B d 252 2 [l0, l1, l2] (.long x.toInt64 :: st) (f, w) K := xk_B_pure (show xk_ins 252 1 = some (.i2l, 1) by decide +kernel) rfl
theorem b252_2 : xk_B d 252 2 [l0, l1, l2] st (f, w) K ↔ xk_B d 252 3 [l0, l1, l2] (.long 0 :: st) (f, w) K := xk_B_pure (show xk_ins 252 2 = some (.lconst 0, 1) by decide +kernel) rfl
theorem b252_3 : xk_B d 252 3 [l0, l1, l2] st (f, w) K ↔ xk_B d 252 6 [l0, l1, l2] (.long 3 :: st) (f, w) K := xk_B_ldc2 (show xk_ins 252 3 = some (.ldc2_w 311, 3) by decide +kernel) (by decide +kernel)
theorem b252_6 : xk_B d 252 6 [l0, l1, l2] [.long j2, .long j1, .long j0] (f, w) K ↔ xk_Cl d 141 [.long j0, .long j1, .long j2] (f, w) (fun v σ => xk_B d 252 9 [l0, l1, l2] (v.toList ++ []) σ K) := xk_B_static (nest := false) [.long j0, .long j1, .long j2] [] (show xk_ins 252 6 = some (.invokestatic 121, 3) by decide +kernel) (by decide +kernel) (show xk_mt 141 = some _ from rfl) (by simp) rfl rfl (by simp [xk_sum, Value.category]) (by decide +kernel)
theorem b252_9 : xk_B d 252 9 [l0, l1, l2] (.int x :: st) (f, w) K ↔ if x = xj 0 then xk_B d 252 21 [l0, l1, l2] st (f, w) K else xk_B d 252 12 [l0, l1, l2] st (f, w) K := xk_B_br (P := x = xj 0) (show xk_ins 252 9 = some (.ifCond .eq 12, 3) by decide +kernel) (xk_pure_no rfl rfl (fun _ _ => rfl) (fun _ _ => rfl)) rfl (by decide)
theorem b252_12 : xk_B d 252 12 [.ref a, l1, l2] st (f, w) K ↔ xk_B d 252 13 [.ref a, l1, l2] (.ref a :: st) (f, w) K := xk_B_pure (show xk_ins 252 12 = some (.aload_n 0, 1) by decide +kernel) rfl
theorem b252_13 : xk_B d 252 13 [l0, l1, l2] (.ref a :: st) (f, w) K ↔ xk_GF f a 12 46 (fun z => xk_B d 252 16 [l0, l1, l2] (z :: st) (f, w) K) := xk_B_getf (show xk_ins 252 13 = some (.getfield 79, 3) by decide +kernel) (by decide +kernel)
theorem b252_16 : xk_B d 252 16 [l0, .int x, l2] st (f, w) K ↔ xk_B d 252 17 [l0, .int x, l2] (.int x :: st) (f, w) K := xk_B_pure (show xk_ins 252 16 = some (.iload_n 1, 1) by decide +kernel) rfl
theorem b252_17 : xk_B d 252 17 [l0, l1, l2] (.int x :: .ref a :: st) (f, w) K ↔ xk_AL f a 1 x (fun x => xk_B d 252 18 [l0, l1, l2] (.int x :: st) (f, w) K) ∨ xk_AL f a 2 x (fun x => xk_B d 252 18 [l0, l1, l2] (.int x :: st) (f, w) K) := xk_B_bald (show xk_ins 252 17 = some (.baload, 1) by decide +kernel)
theorem b252_18 : xk_B d 252 18 [l0, l1, l2] (.int x :: st) (f, w) K ↔ if ¬ x = xj 0 then xk_B d 252 23 [l0, l1, l2] st (f, w) K else xk_B d 252 21 [l0, l1, l2] st (f, w) K := xk_B_br (P := ¬ x = xj 0) (show xk_ins 252 18 = some (.ifCond .ne 5, 3) by decide +kernel) (xk_pure_no rfl rfl (fun _ _ => rfl) (fun _ _ => rfl)) rfl (by decide)
theorem b252_21 : xk_B d 252 21 [l0, l1, l2] st (f, w) K ↔ xk_B d 252 22 [l0, l1, l2] (.int (xj (-1)) :: st) (f, w) K := xk_B_iconst (show xk_ins 252 21 = some (.iconst (-1), 1) by decide +kernel)
theorem b252_22 : xk_B d 252 22 [l0, l1, l2] [.int x] (f, w) K ↔ K (some (.int x)) (f, w) := xk_B_ireturn (show xk_ins 252 22 = some (.ireturn, 1) by decide +kernel) rfl rfl
theorem b252_23 : xk_B d 252 23 [.ref a, l1, l2] st (f, w) K ↔ xk_B d 252 24 [.ref a, l1, l2] (.ref a :: st) (f, w) K := xk_B_pure (show xk_ins 252 23 = some (.aload_n 0, 1) by decide +kernel) rfl
theorem b252_24 : xk_B d 252 24 [.ref a, l1, l2] st (f, w) K ↔ xk_B d 252 25 [.ref a, l1, l2] (.ref a :: st) (f, w) K := xk_B_pure (show xk_ins 252 24 = some (.aload_n 0, 1) by decide +kernel) rfl
theorem b252_25 : xk_B d 252 25 [l0, l1, l2] (.ref a :: st) (f, w) K ↔ xk_GF f a 12 45 (fun z => xk_B d 252 28 [l0, l1, l2] (z :: st) (f, w) K) := xk_B_getf (show xk_ins 252 25 = some (.getfield 76, 3) by decide +kernel) (by decide +kernel)
theorem b252_28 : xk_B d 252 28 [l0, .int x, l2] st (f, w) K ↔ xk_B d 252 29 [l0, .int x, l2] (.int x :: st) (f, w) K := xk_B_pure (show xk_ins 252 28 = some (.iload_n 1, 1) by decide +kernel) rfl
theorem b252_29 : xk_B d 252 29 [l0, l1, l2] (.int x :: .ref a :: st) (f, w) K ↔ xk_AL f a 0 x (fun x => xk_B d 252 30 [l0, l1, l2] (.int x :: st) (f, w) K) := xk_B_iald (show xk_ins 252 29 = some (.iaload, 1) by decide +kernel)
theorem b252_30 : xk_B d 252 30 [l0, l1, l2] (.int x :: .ref a :: st) (f, w) K ↔ xk_PF f a 12 21 (.int x) (fun f => xk_B d 252 33 [l0, l1, l2] st (f, w) K) := xk_B_putf (show xk_ins 252 30 = some (.putfield 466, 3) by decide +kernel) (by decide +kernel) rfl rfl (by decide +kernel)
theorem b252_33 : xk_B d 252 33 [.ref a, l1, l2] st (f, w) K ↔ xk_B d 252 34 [.ref a, l1, l2] (.ref a :: st) (f, w) K := xk_B_pure (show xk_ins 252 33 = some (.aload_n 0, 1) by decide +kernel) rfl
theorem b252_34 : xk_B d 252 34 [l0, l1, l2] st (f, w) K ↔ xk_B d 252 35 [l0, l1, l2] (.int (xj 0) :: st) (f, w) K := xk_B_iconst (show xk_ins 252 34 = some (.iconst 0, 1) by decide +kernel)
theorem b252_35 : xk_B d 252 35 [l0, l1, l2] (.int x :: .ref a :: st) (f, w) K ↔ xk_PF f a 12 28 (.int x) (fun f => xk_B d 252 38 [l0, l1, l2] st (f, w) K) := xk_B_putf (show xk_ins 252 35 = some (.putfield 271, 3) by decide +kernel) (by decide +kernel) rfl rfl (by decide +kernel)
theorem b252_38 : xk_B d 252 38 [l0, l1, l2] st (f, w) K ↔ xk_B d 252 39 [l0, l1, l2] (.int (xj 0) :: st) (f, w) K := xk_B_iconst (show xk_ins 252 38 = some (.iconst 0, 1) by decide +kernel)
theorem b252_39 : xk_B d 252 39 [l0, l1, l2] (.int x :: st) (f, w) K ↔ xk_B d 252 40 [l0, l1, .int x] st (f, w) K := xk_B_pure (show xk_ins 252 39 = some (.istore_n 2, 1) by decide +kernel) rfl
theorem b252_40 : xk_B d 252 40 [l0, l1, .int x] st (f, w) K ↔ xk_B d 252 41 [l0, l1, .int x] (.int x :: st) (f, w) K := xk_B_pure (show xk_ins 252 40 = some (.iload_n 2, 1) by decide +kernel) rfl
theorem b252_41 : xk_B d 252 41 [l0, l1, l2] st (f, w) K ↔ xk_B d 252 43 [l0, l1, l2] (.int (xj 115) :: st) (f, w) K := xk_B_bipush (show xk_ins 252 41 = some (.bipush 115, 2) by decide +kernel) (by decide +kernel)
theorem b252_43 : xk_B d 252 43 [l0, l1, l2] (.int y :: .int x :: st) (f, w) K ↔ if y ≤ x then xk_B d 252 69 [l0, l1, l2] st (f, w) K else xk_B d 252 46 [l0, l1, l2] st (f, w) K := xk_B_br (P := y ≤ x) (show xk_ins 252 43 = some (.if_icmp .ge 26, 3) by decide +kernel) (xk_pure_no rfl rfl (fun _ _ => rfl) (fun _ _ => rfl)) rfl (by decide)
theorem b252_46 : xk_B d 252 46 [.ref a, l1, l2] st (f, w) K ↔ xk_B d 252 47 [.ref a, l1, l2] (.ref a :: st) (f, w) K := xk_B_pure (show xk_ins 252 46 = some (.aload_n 0, 1) by decide +kernel) rfl
theorem b252_47 : xk_B d 252 47 [l0, l1, l2] (.ref a :: st) (f, w) K ↔ xk_GF f a 12 20 (fun z => xk_B d 252 50 [l0, l1, l2] (z :: st) (f, w) K) := xk_B_getf (show xk_ins 252 47 = some (.getfield 39, 3) by decide +kernel) (by decide +kernel)
theorem b252_50 : xk_B d 252 50 [l0, l1, .int x] st (f, w) K ↔ xk_B d 252 51 [l0, l1, .int x] (.int x :: st) (f, w) K := xk_B_pure (show xk_ins 252 50 = some (.iload_n 2, 1) by decide +kernel) rfl
theorem b252_51 : xk_B d 252 51 [.ref a, l1, l2] st (f, w) K ↔ xk_B d 252 52 [.ref a, l1, l2] (.ref a :: st) (f, w) K := xk_B_pure (show xk_ins 252 51 = some (.aload_n 0, 1) by decide +kernel) rfl
theorem b252_52 : xk_B d 252 52 [l0, l1, l2] (.ref a :: st) (f, w) K ↔ xk_GF f a 12 44 (fun z => xk_B d 252 55 [l0, l1, l2] (z :: st) (f, w) K) := xk_B_getf (show xk_ins 252 52 = some (.getfield 73, 3) by decide +kernel) (by decide +kernel)
theorem b252_55 : xk_B d 252 55 [l0, l1, l2] st (f, w) K ↔ xk_B d 252 57 [l0, l1, l2] (.int (xj 115) :: st) (f, w) K := xk_B_bipush (show xk_ins 252 55 = some (.bipush 115, 2) by decide +kernel) (by decide +kernel)
theorem b252_57 : xk_B d 252 57 [l0, .int x, l2] st (f, w) K ↔ xk_B d 252 58 [l0, .int x, l2] (.int x :: st) (f, w) K := xk_B_pure (show xk_ins 252 57 = some (.iload_n 1, 1) by decide +kernel) rfl
theorem b252_58 : xk_B d 252 58 [l0, l1, l2] (.int y :: .int x :: st) (f, w) K ↔ xk_B d 252 59 [l0, l1, l2] (.int (x * y) :: st) (f, w) K := xk_B_pure (show xk_ins 252 58 = some (.imul, 1) by decide +kernel) rfl
theorem b252_59 : xk_B d 252 59 [l0, l1, .int x] st (f, w) K ↔ xk_B d 252 60 [l0, l1, .int x] (.int x :: st) (f, w) K := xk_B_pure (show xk_ins 252 59 = some (.iload_n 2, 1) by decide +kernel) rfl
theorem b252_60 : xk_B d 252 60 [l0, l1, l2] (.int y :: .int x :: st) (f, w) K ↔ xk_B d 252 61 [l0, l1, l2] (.int (x + y) :: st) (f, w) K := xk_B_pure (show xk_ins 252 60 = some (.iadd, 1) by decide +kernel) rfl
theorem b252_61 : xk_B d 252 61 [l0, l1, l2] (.int x :: .ref a :: st) (f, w) K ↔ xk_AL f a 0 x (fun x => xk_B d 252 62 [l0, l1, l2] (.int x :: st) (f, w) K) := xk_B_iald (show xk_ins 252 61 = some (.iaload, 1) by decide +kernel)
theorem b252_62 : xk_B d 252 62 [l0, l1, l2] (.int y :: .int x :: .ref a :: st) (f, w) K ↔ xk_AS f a x y (fun f => xk_B d 252 63 [l0, l1, l2] st (f, w) K) := xk_B_iast (show xk_ins 252 62 = some (.iastore, 1) by decide +kernel)
theorem b252_63 : xk_B d 252 63 [l0, l1, .int x] st (f, w) K ↔ xk_B d 252 66 [l0, l1, .int (x + xj 1)] st (f, w) K := xk_B_pure (show xk_ins 252 63 = some (.iinc 2 1, 3) by decide +kernel) rfl
theorem b252_66 : xk_B d 252 66 [l0, l1, l2] st (f, w) K ↔ xk_B d 252 40 [l0, l1, l2] st (f, w) K := xk_B_go (show xk_ins 252 66 = some (.goto (-26), 3) by decide +kernel) (xk_pure_no rfl rfl (fun _ _ => rfl) (fun _ _ => rfl)) rfl (by decide)
theorem b252_69 : xk_B d 252 69 [.ref a, l1, l2] st (f, w) K ↔ xk_B d 252 70 [.ref a, l1, l2] (.ref a :: st) (f, w) K := xk_B_pure (show xk_ins 252 69 = some (.aload_n 0, 1) by decide +kernel) rfl
theorem b252_70 : xk_B d 252 70 [l0, l1, l2] (.ref a :: st) (f, w) K ↔ xk_GF f a 12 20 (fun z => xk_B d 252 73 [l0, l1, l2] (z :: st) (f, w) K) := xk_B_getf (show xk_ins 252 70 = some (.getfield 39, 3) by decide +kernel) (by decide +kernel)
theorem b252_73 : xk_B d 252 73 [l0, l1, l2] st (f, w) K ↔ xk_B d 252 75 [l0, l1, l2] (.int (xj 10) :: st) (f, w) K := xk_B_bipush (show xk_ins 252 73 = some (.bipush 10, 2) by decide +kernel) (by decide +kernel)
theorem b252_75 : xk_B d 252 75 [l0, l1, l2] (.int x :: .ref a :: st) (f, w) K ↔ xk_AL f a 0 x (fun x => xk_B d 252 76 [l0, l1, l2] (.int x :: st) (f, w) K) := xk_B_iald (show xk_ins 252 75 = some (.iaload, 1) by decide +kernel)
theorem b252_76 : xk_B d 252 76 [l0, l1, l2] [.int x] (f, w) K ↔ K (some (.int x)) (f, w) := xk_B_ireturn (show xk_ins 252 76 = some (.ireturn, 1) by decide +kernel) rfl rfl
theorem e252 (hD : 1 ≤ D) : xk_Cl D 252 [.ref r0, .int i1] (f, w) K ↔ xk_B (D - 1) 252 0 [.ref r0, .int i1, xk_dd] [] (f, w) K := xk_Cl_in hD (by decide) (by simp [xk_ent, Value.category, show xk_nL 252 = 3 from rfl]) (by simp [xk_env, xk_ent, Value.category, show xk_nL 252 = 3 from rfl, List.replicate])
end XKB16
