section XKB17
variable {d D a b : Nat} {x y : Int32} {u v : Int64} {st : List Value} {f : Nat → xk_C} {w : Nat × Nat × Nat} {K : Option Value → xk_S → Prop}
variable {l0 l1 l2 l3 l4 l5 l6 l7 l8 l9 l10 l11 l12 : Value} {i0 i1 i2 i3 i4 i5 i6 i7 i8 : Int32} {j0 j1 j2 j3 j4 j5 j6 j7 j8 : Int64} {r0 r1 r2 r3 r4 r5 r6 r7 r8 : Nat}
-- 253: java/lang/Integer.bitCount(I)I
theorem b253_0 : xk_B d 253 0 [.int x] st (f, w) K ↔ xk_B d 253 1 [.int x] (.int x :: st) (f, w) K := xk_B_pure (show xk_ins 253 0 = some (.iload_n 0, 1) by decide +kernel) rfl
theorem b253_1 : xk_B d 253 1 [.int x] st (f, w) K ↔ xk_B d 253 2 [.int x] (.int x :: st) (f, w) K := xk_B_pure (show xk_ins 253 1 = some (.iload_n 0, 1) by decide +kernel) rfl
theorem b253_2 : xk_B d 253 2 [l0] st (f, w) K ↔ xk_B d 253 3 [l0] (.int (xj 1) :: st) (f, w) K := xk_B_iconst (show xk_ins 253 2 = some (.iconst 1, 1) by decide +kernel)
theorem b253_3 : xk_B d 253 3 [l0] (.int y :: .int x :: st) (f, w) K ↔ xk_B d 253 4 [l0] (.int ((x.toUInt32 >>> (y.toUInt32 &&& Int32.toUInt32 31)).toInt32) :: st) (f, w) K := xk_B_pure (show xk_ins 253 3 = some (.iushr, 1) by decide +kernel) rfl
theorem b253_4 : xk_B d 253 4 [l0] st (f, w) K ↔ xk_B d 253 7 [l0] (.int 1431655765 :: st) (f, w) K := xk_B_ldcw (show xk_ins 253 4 = some (.ldc_w 265, 3) by decide +kernel) (by decide +kernel)
theorem b253_7 : xk_B d 253 7 [l0] (.int y :: .int x :: st) (f, w) K ↔ xk_B d 253 8 [l0] (.int (x &&& y) :: st) (f, w) K := xk_B_pure (show xk_ins 253 7 = some (.iand, 1) by decide +kernel) rfl
theorem b253_8 : xk_B d 253 8 [l0] (.int y :: .int x :: st) (f, w) K ↔ xk_B d 253 9 [l0] (.int (x - y) :: st) (f, w) K := xk_B_pure (show xk_ins 253 8 = some (.isub, 1) by decide +kernel) rfl
theorem b253_9 : xk_B d 253 9 [l0] (.int x :: st) (f, w) K ↔ xk_B d 253 10 [.int x] st (f, w) K := xk_B_pure (show xk_ins 253 9 = some (.istore_n 0, 1) by decide +kernel) rfl
theorem b253_10 : xk_B d 253 10 [.int x] st (f, w) K ↔ xk_B d 253 11 [.int x] (.int x :: st) (f, w) K := xk_B_pure (show xk_ins 253 10 = some (.iload_n 0, 1) by decide +kernel) rfl
theorem b253_11 : xk_B d 253 11 [l0] st (f, w) K ↔ xk_B d 253 14 [l0] (.int 858993459 :: st) (f, w) K := xk_B_ldcw (show xk_ins 253 11 = some (.ldc_w 266, 3) by decide +kernel) (by decide +kernel)
theorem b253_14 : xk_B d 253 14 [l0] (.int y :: .int x :: st) (f, w) K ↔ xk_B d 253 15 [l0] (.int (x &&& y) :: st) (f, w) K := xk_B_pure (show xk_ins 253 14 = some (.iand, 1) by decide +kernel) rfl
theorem b253_15 : xk_B d 253 15 [.int x] st (f, w) K ↔ xk_B d 253 16 [.int x] (.int x :: st) (f, w) K := xk_B_pure (show xk_ins 253 15 = some (.iload_n 0, 1) by decide +kernel) rfl
theorem b253_16 : xk_B d 253 16 [l0] st (f, w) K ↔ xk_B d 253 17 [l0] (.int (xj 2) :: st) (f, w) K := xk_B_iconst (show xk_ins 253 16 = some (.iconst 2, 1) by decide +kernel)
theorem b253_17 : xk_B d 253 17 [l0] (.int y :: .int x :: st) (f, w) K ↔ xk_B d 253 18 [l0] (.int ((x.toUInt32 >>> (y.toUInt32 &&& Int32.toUInt32 31)).toInt32) :: st) (f, w) K := xk_B_pure (show xk_ins 253 17 = some (.iushr, 1) by decide +kernel) rfl
theorem b253_18 : xk_B d 253 18 [l0] st (f, w) K ↔ xk_B d 253 21 [l0] (.int 858993459 :: st) (f, w) K := xk_B_ldcw (show xk_ins 253 18 = some (.ldc_w 266, 3) by decide +kernel) (by decide +kernel)
theorem b253_21 : xk_B d 253 21 [l0] (.int y :: .int x :: st) (f, w) K ↔ xk_B d 253 22 [l0] (.int (x &&& y) :: st) (f, w) K := xk_B_pure (show xk_ins 253 21 = some (.iand, 1) by decide +kernel) rfl
theorem b253_22 : xk_B d 253 22 [l0] (.int y :: .int x :: st) (f, w) K ↔ xk_B d 253 23 [l0] (.int (x + y) :: st) (f, w) K := xk_B_pure (show xk_ins 253 22 = some (.iadd, 1) by decide +kernel) rfl
theorem b253_23 : xk_B d 253 23 [l0] (.int x :: st) (f, w) K ↔ xk_B d 253 24 [.int x] st (f, w) K := xk_B_pure (show xk_ins 253 23 = some (.istore_n 0, 1) by decide +kernel) rfl
theorem b253_24 : xk_B d 253 24 [.int x] st (f, w) K ↔ xk_B d 253 25 [.int x] (.int x :: st) (f, w) K := xk_B_pure (show xk_ins 253 24 = some (.iload_n 0, 1) by decide +kernel) rfl
theorem b253_25 : xk_B d 253 25 [.int x] st (f, w) K ↔ xk_B d 253 26 [.int x] (.int x :: st) (f, w) K := xk_B_pure (show xk_ins 253 25 = some (.iload_n 0, 1) by decide +kernel) rfl
theorem b253_26 : xk_B d 253 26 [l0] st (f, w) K ↔ xk_B d 253 27 [l0] (.int (xj 4) :: st) (f, w) K := xk_B_iconst (show xk_ins 253 26 = some (.iconst 4, 1) by decide +kernel)
theorem b253_27 : xk_B d 253 27 [l0] (.int y :: .int x :: st) (f, w) K ↔ xk_B d 253 28 [l0] (.int ((x.toUInt32 >>> (y.toUInt32 &&& Int32.toUInt32 31)).toInt32) :: st) (f, w) K := xk_B_pure (show xk_ins 253 27 = some (.iushr, 1) by decide +kernel) rfl
theorem b253_28 : xk_B d 253 28 [l0] (.int y :: .int x :: st) (f, w) K ↔ xk_B d 253 29 [l0] (.int (x + y) :: st) (f, w) K := xk_B_pure (show xk_ins 253 28 = some (.iadd, 1) by decide +kernel) rfl
theorem b253_29 : xk_B d 253 29 [l0] st (f, w) K ↔ xk_B d 253 32 [l0] (.int 252645135 :: st) (f, w) K := xk_B_ldcw (show xk_ins 253 29 = some (.ldc_w 267, 3) by decide +kernel) (by decide +kernel)
theorem b253_32 : xk_B d 253 32 [l0] (.int y :: .int x :: st) (f, w) K ↔ xk_B d 253 33 [l0] (.int (x &&& y) :: st) (f, w) K := xk_B_pure (show xk_ins 253 32 = some (.iand, 1) by decide +kernel) rfl
theorem b253_33 : xk_B d 253 33 [l0] (.int x :: st) (f, w) K ↔ xk_B d 253 34 [.int x] st (f, w) K := xk_B_pure (show xk_ins 253 33 = some (.istore_n 0, 1) by decide +kernel) rfl
theorem b253_34 : xk_B d 253 34 [.int x] st (f, w) K ↔ xk_B d 253 35 [.int x] (.int x :: st) (f, w) K := xk_B_pure (show xk_ins 253 34 = some (.iload_n 0, 1) by decide +kernel) rfl
theorem b253_35 : xk_B d 253 35 [.int x] st (f, w) K ↔ xk_B d 253 36 [.int x] (.int x :: st) (f, w) K := xk_B_pure (show xk_ins 253 35 = some (.iload_n 0, 1) by decide +kernel) rfl
theorem b253_36 : xk_B d 253 36 [l0] st (f, w) K ↔ xk_B d 253 38 [l0] (.int (xj 8) :: st) (f, w) K := xk_B_bipush (show xk_ins 253 36 = some (.bipush 8, 2) by decide +kernel) (by decide +kernel)
theorem b253_38 : xk_B d 253 38 [l0] (.int y :: .int x :: st) (f, w) K ↔ xk_B d 253 39 [l0] (.int ((x.toUInt32 >>> (y.toUInt32 &&& Int32.toUInt32 31)).toInt32) :: st) (f, w) K := xk_B_pure (show xk_ins 253 38 = some (.iushr, 1) by decide +kernel) rfl
theorem b253_39 : xk_B d 253 39 [l0] (.int y :: .int x :: st) (f, w) K ↔ xk_B d 253 40 [l0] (.int (x + y) :: st) (f, w) K := xk_B_pure (show xk_ins 253 39 = some (.iadd, 1) by decide +kernel) rfl
theorem b253_40 : xk_B d 253 40 [l0] (.int x :: st) (f, w) K ↔ xk_B d 253 41 [.int x] st (f, w) K := xk_B_pure (show xk_ins 253 40 = some (.istore_n 0, 1) by decide +kernel) rfl
theorem b253_41 : xk_B d 253 41 [.int x] st (f, w) K ↔ xk_B d 253 42 [.int x] (.int x :: st) (f, w) K := xk_B_pure (show xk_ins 253 41 = some (.iload_n 0, 1) by decide +kernel) rfl
theorem b253_42 : xk_B d 253 42 [.int x] st (f, w) K ↔ xk_B d 253 43 [.int x] (.int x :: st) (f, w) K := xk_B_pure (show xk_ins 253 42 = some (.iload_n 0, 1) by decide +kernel) rfl
theorem b253_43 : xk_B d 253 43 [l0] st (f, w) K ↔ xk_B d 253 45 [l0] (.int (xj 16) :: st) (f, w) K := xk_B_bipush (show xk_ins 253 43 = some (.bipush 16, 2) by decide +kernel) (by decide +kernel)
theorem b253_45 : xk_B d 253 45 [l0] (.int y :: .int x :: st) (f, w) K ↔ xk_B d 253 46 [l0] (.int ((x.toUInt32 >>> (y.toUInt32 &&& Int32.toUInt32 31)).toInt32) :: st) (f, w) K := xk_B_pure (show xk_ins 253 45 = some (.iushr, 1) by decide +kernel) rfl
theorem b253_46 : xk_B d 253 46 [l0] (.int y :: .int x :: st) (f, w) K ↔ xk_B d 253 47 [l0] (.int (x + y) :: st) (f, w) K := xk_B_pure (show xk_ins 253 46 = some (.iadd, 1) by decide +kernel) rfl
theorem b253_47 : xk_B d 253 47 [l0] (.int x :: st) (f, w) K ↔ xk_B d 253 48 [.int x] st (f, w) K := xk_B_pure (show xk_ins 253 47 = some (.istore_n 0, 1) by decide +kernel) rfl
theorem b253_48 : xk_B d 253 48 [.int x] st (f, w) K ↔ xk_B d 253 49 [.int x] (.int x :: st) (f, w) K := xk_B_pure (show xk_ins 253 48 = some (.iload_n 0, 1) by decide +kernel) rfl
theorem b253_49 : xk_B d 253 49 [l0] st (f, w) K ↔ xk_B d 253 51 [l0] (.int (xj 63) :: st) (f, w) K := xk_B_bipush (show xk_ins 253 49 = some (.bipush 63, 2) by decide +kernel) (by decide +kernel)
theorem b253_51 : xk_B d 253 51 [l0] (.int y :: .int x :: st) (f, w) K ↔ xk_B d 253 52 [l0] (.int (x &&& y) :: st) (f, w) K := xk_B_pure (show xk_ins 253 51 = some (.iand, 1) by decide +kernel) rfl
theorem b253_52 : xk_B d 253 52 [l0] [.int x] (f, w) K ↔ K (some (.int x)) (f, w) := xk_B_ireturn (show xk_ins 253 52 = some (.ireturn, 1) by decide +kernel) rfl rfl
theorem e253 (hD : 1 ≤ D) : xk_Cl D 253 [.int i0] (f, w) K ↔ xk_B (D - 1) 253 0 [.int i0] [] (f, w) K := xk_Cl_in hD (by decide) (by simp [xk_ent, Value.category, show xk_nL 253 = 1 from rfl]) (by simp [xk_env, xk_ent, Value.category, show xk_nL 253 = 1 from rfl, List.replicate])
end XKB17
