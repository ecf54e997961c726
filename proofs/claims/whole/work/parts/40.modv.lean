/-! THE MODEL: its object and rows at b; R: fields (R.1), rows of ints (R.2.1), rows of longs (R.2.2), by the number of the field -/
abbrev Md : Type := (Nat → Int) × (Nat → Nat → Int) × (Nat → Nat → Int64)
def uF (g : Nat → Int) (k : Nat) (v : Int) : Nat → Int := fun j => if j = k then v else g j
def uA (A : Nat → Nat → Int) (k : Nat) (h : Nat → Int) : Nat → Nat → Int := fun j => if j = k then h else A j
def uJ (A : Nat → Nat → Int64) (k : Nat) (h : Nat → Int64) : Nat → Nat → Int64 := fun j => if j = k then h else A j
def mS (R : Md) (k : Nat) : Int := R.1 k
def mA (R : Md) (k : Nat) : Nat → Int := R.2.1 k
def mJ (R : Md) (k : Nat) : Nat → Int64 := R.2.2 k
def sS (R : Md) (k : Nat) (v : Int) : Md := (uF R.1 k v, R.2.1, R.2.2)
def sA (R : Md) (k : Nat) (h : Nat → Int) : Md := (R.1, uA R.2.1 k h, R.2.2)
def sJ (R : Md) (k : Nat) (h : Nat → Int64) : Md := (R.1, R.2.1, uJ R.2.2 k h)
def jx (z : Int) : Int64 := Int64.ofInt z
theorem xj_b8 (y : Int) : (xj y).toInt8.toInt32 = xj (y.bmod 256) := by
  apply Int32.toInt_inj.mp
  rw [Int8.toInt_toInt32, xj_toInt (by have := @Int.le_bmod y 256 (by decide); omega) (by have := @Int.bmod_lt y 256 (by decide); omega)]
  unfold xj
  rw [Int32.toInt8_ofInt, Int8.toInt_ofInt]
section XM40
variable {R : Md} {k j b : Nat} {v z y : Int} {h g : Nat → Int} {l : Nat → Int64} {f : Nat → xk_C} {V : Value → Prop} {F : Int32 → Prop} {FJ : Int64 → Prop} {G : (Nat → xk_C) → Prop}
theorem mS_S : mS (sS R k v) k = v := if_pos rfl
theorem mS_So (h : j ≠ k) : mS (sS R k v) j = mS R j := if_neg h
theorem mS_A : mS (sA R k h) j = mS R j := rfl
theorem mS_J : mS (sJ R k l) j = mS R j := rfl
theorem mA_A : mA (sA R k h) k = h := if_pos rfl
theorem mA_Ao (e : j ≠ k) : mA (sA R k h) j = mA R j := if_neg e
theorem mA_S : mA (sS R k v) j = mA R j := rfl
theorem mA_J : mA (sJ R k l) j = mA R j := rfl
theorem mJ_J : mJ (sJ R k l) k = l := if_pos rfl
theorem mJ_Jo (e : j ≠ k) : mJ (sJ R k l) j = mJ R j := if_neg e
theorem mJ_S : mJ (sS R k v) j = mJ R j := rfl
theorem mJ_A : mJ (sA R k h) j = mJ R j := rfl
theorem uF_uF {g : Nat → Int} : uF (uF g k v) k z = uF g k z := by funext i; unfold uF; by_cases c : i = k; rw [if_pos c, if_pos c]; rw [if_neg c, if_neg c, if_neg c]
theorem uA_uA {A : Nat → Nat → Int} : uA (uA A k h) k g = uA A k g := by funext i; unfold uA; by_cases c : i = k; rw [if_pos c, if_pos c]; rw [if_neg c, if_neg c, if_neg c]
theorem sS_S : sS (sS R k v) k z = sS R k z := by unfold sS; simp only [uF_uF]
theorem sA_A : sA (sA R k h) k g = sA R k g := by unfold sA; simp only [uA_uA]
theorem sS_A : sS (sA R k h) j z = sA (sS R j z) k h := rfl
theorem sS_J : sS (sJ R k l) j z = sJ (sS R j z) k l := rfl
theorem sS_c (e : j < k) : sS (sS R k v) j z = sS (sS R j z) k v := by unfold sS; congr 1; funext i; unfold uF; simp only []; split <;> split <;> first | rfl | omega
theorem sA_c (e : j < k) : sA (sA R k h) j g = sA (sA R j g) k h := by unfold sA; congr 2; funext i; unfold uA; simp only []; split <;> split <;> first | rfl | omega
theorem sJ_A : sJ (sA R k h) j l = sA (sJ R j l) k h := rfl
theorem sS_id : sS R k (mS R k) = R := by unfold sS mS; refine Prod.ext ?_ rfl; funext i; show (if _ then _ else _) = _; split <;> simp [*]
theorem sA_id : sA R k (mA R k) = R := by unfold sA mA; refine Prod.ext rfl (Prod.ext ?_ rfl); funext i; show (if _ then _ else _) = _; split <;> simp [*]
def xo_M (b : Nat) (R : Md) : xk_C := .inr (12, [.ref (b + 1), .int (xj (mS R 1)), .int (xj (mS R 2)), .ref (b + 2), .ref (b + 3), .ref (b + 4), .ref (b + 5), .ref (b + 6), .int (xj (mS R 8)), .int (xj (mS R 9)), .int (xj (mS R 10)), .int (xj (mS R 11)), .int (xj (mS R 12)), .int (xj (mS R 13)), .int (xj (mS R 14)), .ref (b + 7), .int (xj (mS R 16)), .ref (b + 8), .int (xj (mS R 18)), .ref (b + 9), .ref (b + 10), .int (xj (mS R 21)), .int (xj (mS R 22)), .int (xj (mS R 23)), .int (xj (mS R 24)), .int (xj (mS R 25)), .int (xj (mS R 26)), .ref (b + 11), .int (xj (mS R 28)), .ref (b + 12), .ref (b + 13), .int (xj (mS R 31)), .ref (b + 14), .ref (b + 15), .ref (b + 16), .int (xj (mS R 35)), .int (xj (mS R 36)), .int (xj (mS R 37)), .int (xj (mS R 38)), .ref (b + 17), .int (xj (mS R 40)), .ref (b + 18), .ref (b + 19), .long (jx (mS R 43)), .ref (b + 20), .ref (b + 21), .ref (b + 22)])
def xl_M (b : Nat) (R : Md) : List xk_C := [xo_M b R, .inl (1, 400, .inl (fun i => xj (mA R 0 i))), xa_I 2400 (mA R 3), xa_I 7 (mA R 4), xa_I 288 (mA R 5), xa_I 6 (mA R 6), xa_I 84 (mA R 7), xa_I 400 (mA R 15), .inl (3, 64, .inr (.inl (mJ R 17))), .inl (3, 13, .inr (.inl (mJ R 19))), xa_I 115 (mA R 20), xa_I 440 (mA R 27), xa_I 22 (mA R 29), xa_I 6 (mA R 30), xa_I 7 (mA R 32), xa_I 154 (mA R 33), xa_I 6 (mA R 34), xa_I 6 (mA R 39), xa_I 6 (mA R 41), xa_I 36 (mA R 42), xa_I 460 (mA R 44), xa_I 4 (mA R 45), .inl (2, 4, .inl (fun i => xj (mA R 46 i)))]
def xm (f : Nat → xk_C) (b : Nat) (R : Md) : Nat → xk_C := xs f b (xl_M b R)
theorem xm_0 : xm f b R b = .inr (12, [.ref (b + 1), .int (xj (mS R 1)), .int (xj (mS R 2)), .ref (b + 2), .ref (b + 3), .ref (b + 4), .ref (b + 5), .ref (b + 6), .int (xj (mS R 8)), .int (xj (mS R 9)), .int (xj (mS R 10)), .int (xj (mS R 11)), .int (xj (mS R 12)), .int (xj (mS R 13)), .int (xj (mS R 14)), .ref (b + 7), .int (xj (mS R 16)), .ref (b + 8), .int (xj (mS R 18)), .ref (b + 9), .ref (b + 10), .int (xj (mS R 21)), .int (xj (mS R 22)), .int (xj (mS R 23)), .int (xj (mS R 24)), .int (xj (mS R 25)), .int (xj (mS R 26)), .ref (b + 11), .int (xj (mS R 28)), .ref (b + 12), .ref (b + 13), .int (xj (mS R 31)), .ref (b + 14), .ref (b + 15), .ref (b + 16), .int (xj (mS R 35)), .int (xj (mS R 36)), .int (xj (mS R 37)), .int (xj (mS R 38)), .ref (b + 17), .int (xj (mS R 40)), .ref (b + 18), .ref (b + 19), .long (jx (mS R 43)), .ref (b + 20), .ref (b + 21), .ref (b + 22)]) := xs_at0 f b (xl_M b R)
theorem xm_1 : xm f b R (b + 1) = .inl (1, 400, .inl (fun i => xj (mA R 0 i))) := xs_at f b (xl_M b R) 1
theorem xm_2 : xm f b R (b + 2) = xa_I 2400 (mA R 3) := xs_at f b (xl_M b R) 2
theorem xm_3 : xm f b R (b + 3) = xa_I 7 (mA R 4) := xs_at f b (xl_M b R) 3
theorem xm_4 : xm f b R (b + 4) = xa_I 288 (mA R 5) := xs_at f b (xl_M b R) 4
theorem xm_5 : xm f b R (b + 5) = xa_I 6 (mA R 6) := xs_at f b (xl_M b R) 5
theorem xm_6 : xm f b R (b + 6) = xa_I 84 (mA R 7) := xs_at f b (xl_M b R) 6
theorem xm_7 : xm f b R (b + 7) = xa_I 400 (mA R 15) := xs_at f b (xl_M b R) 7
theorem xm_8 : xm f b R (b + 8) = .inl (3, 64, .inr (.inl (mJ R 17))) := xs_at f b (xl_M b R) 8
theorem xm_9 : xm f b R (b + 9) = .inl (3, 13, .inr (.inl (mJ R 19))) := xs_at f b (xl_M b R) 9
theorem xm_10 : xm f b R (b + 10) = xa_I 115 (mA R 20) := xs_at f b (xl_M b R) 10
theorem xm_11 : xm f b R (b + 11) = xa_I 440 (mA R 27) := xs_at f b (xl_M b R) 11
theorem xm_12 : xm f b R (b + 12) = xa_I 22 (mA R 29) := xs_at f b (xl_M b R) 12
theorem xm_13 : xm f b R (b + 13) = xa_I 6 (mA R 30) := xs_at f b (xl_M b R) 13
theorem xm_14 : xm f b R (b + 14) = xa_I 7 (mA R 32) := xs_at f b (xl_M b R) 14
theorem xm_15 : xm f b R (b + 15) = xa_I 154 (mA R 33) := xs_at f b (xl_M b R) 15
theorem xm_16 : xm f b R (b + 16) = xa_I 6 (mA R 34) := xs_at f b (xl_M b R) 16
theorem xm_17 : xm f b R (b + 17) = xa_I 6 (mA R 39) := xs_at f b (xl_M b R) 17
theorem xm_18 : xm f b R (b + 18) = xa_I 6 (mA R 41) := xs_at f b (xl_M b R) 18
theorem xm_19 : xm f b R (b + 19) = xa_I 36 (mA R 42) := xs_at f b (xl_M b R) 19
theorem xm_20 : xm f b R (b + 20) = xa_I 460 (mA R 44) := xs_at f b (xl_M b R) 20
theorem xm_21 : xm f b R (b + 21) = xa_I 4 (mA R 45) := xs_at f b (xl_M b R) 21
theorem xm_22 : xm f b R (b + 22) = .inl (2, 4, .inl (fun i => xj (mA R 46 i))) := xs_at f b (xl_M b R) 22
theorem xm_ne {x : Nat} (e : x < b ∨ b + 23 ≤ x) : xm f b R x = f x := xs_ne (by show x < b ∨ b + 23 ≤ x; exact e)
theorem rc_M : xk_RC (xm f b R) b 12 ↔ True := by unfold xk_RC; rw [xm_0]; exact ⟨fun _ => trivial, fun _ => rfl⟩
theorem xm_xm {R2 : Md} : xm (xm f b R) b R2 = xm f b R2 := xs_xs rfl
theorem gm_0 : xk_GF (xm f b R) b 12 0 V ↔ V (.ref (b + 1)) := gf_R xm_0 rfl
theorem am_0 (h1 : 0 ≤ z) (h2 : z < 400) : xk_AL (xm f b R) (b + 1) 1 (xj z) F ↔ F (xj (mA R 0 z.toNat)) := by
  unfold xk_AL
  rw [xm_1]
  show (1 = 1 ∧ ¬ (xj z < 0 ∨ 400 ≤ (xj z).toNatClampNeg) ∧ F (xj (mA R 0 (xj z).toNatClampNeg))) ↔ _
  rw [xj_nat h1 (by omega)]
  exact ⟨fun q => q.2.2, fun q => ⟨rfl, by rw [← xj_nat h1 (by omega)]; exact (xj_in (n := 400) h1 h2 (by omega)).mpr trivial, q⟩⟩
theorem wn_0 : xk_AL (xm f b R) (b + 1) 2 (xj z) F ↔ False := by
  unfold xk_AL
  rw [xm_1]
  exact ⟨fun q => absurd q.1 (by decide), fun q => q.elim⟩
theorem wm_0 (h1 : 0 ≤ z) (h2 : z < 400) : xk_ASB (xm f b R) (b + 1) (xj z) (xj y) G ↔ G (xm f b (sA R 0 (upI (mA R 0) z.toNat ((y).bmod 256)))) := by
  unfold xk_ASB
  rw [xm_1]
  show ((1 = 1 ∨ 1 = 2) ∧ ¬ (xj z < 0 ∨ 400 ≤ (xj z).toNatClampNeg) ∧ G (va_up (xm f b R) (b + 1) (.inl (1, 400, .inl (va_up (fun i => xj (mA R 0 i)) (xj z).toNatClampNeg (if 1 = 1 then (xj y).toInt8.toInt32 else xj y &&& 1)))))) ↔ _
  rw [xj_nat h1 (by omega), show (if 1 = 1 then (xj y).toInt8.toInt32 else xj y &&& 1) = xj ((y).bmod 256) from (if_pos rfl).trans (xj_b8 y), up_at]
  have e : va_up (xm f b R) (b + 1) (.inl (1, 400, .inl (fun i => xj (if i = z.toNat then (y).bmod 256 else mA R 0 i)))) = xm f b (sA R 0 (upI (mA R 0) z.toNat ((y).bmod 256))) := xs_up (k := 1) (by show 1 < 23; decide)
  rw [e]
  exact ⟨fun q => q.2.2, fun q => ⟨by decide, by rw [← xj_nat h1 (by omega)]; exact (xj_in (n := 400) h1 h2 (by omega)).mpr trivial, q⟩⟩
theorem gm_1 : xk_GF (xm f b R) b 12 1 V ↔ V (.int (xj (mS R 1))) := gf_R xm_0 rfl
theorem pm_1 : xk_PF (xm f b R) b 12 1 (.int (xj z)) G ↔ G (xm f b (sS R 1 z)) := by rw [pf_R xm_0 (by show 1 < 47; decide)]; exact iff_of_eq (congrArg G xs_up0)
theorem gm_2 : xk_GF (xm f b R) b 12 2 V ↔ V (.int (xj (mS R 2))) := gf_R xm_0 rfl
theorem pm_2 : xk_PF (xm f b R) b 12 2 (.int (xj z)) G ↔ G (xm f b (sS R 2 z)) := by rw [pf_R xm_0 (by show 2 < 47; decide)]; exact iff_of_eq (congrArg G xs_up0)
theorem gm_3 : xk_GF (xm f b R) b 12 3 V ↔ V (.ref (b + 2)) := gf_R xm_0 rfl
theorem am_3 (h1 : 0 ≤ z) (h2 : z < 2400) : xk_AL (xm f b R) (b + 2) 0 (xj z) F ↔ F (xj (mA R 3 z.toNat)) := al_I xm_2 h1 h2 (by decide)
theorem wm_3 (h1 : 0 ≤ z) (h2 : z < 2400) : xk_AS (xm f b R) (b + 2) (xj z) (xj y) G ↔ G (xm f b (sA R 3 (upI (mA R 3) z.toNat y))) := by rw [as_I xm_2 h1 h2 (by decide)]; exact iff_of_eq (congrArg G (xs_up (k := 2) (by show 2 < 23; decide)))
theorem gm_4 : xk_GF (xm f b R) b 12 4 V ↔ V (.ref (b + 3)) := gf_R xm_0 rfl
theorem am_4 (h1 : 0 ≤ z) (h2 : z < 7) : xk_AL (xm f b R) (b + 3) 0 (xj z) F ↔ F (xj (mA R 4 z.toNat)) := al_I xm_3 h1 h2 (by decide)
theorem wm_4 (h1 : 0 ≤ z) (h2 : z < 7) : xk_AS (xm f b R) (b + 3) (xj z) (xj y) G ↔ G (xm f b (sA R 4 (upI (mA R 4) z.toNat y))) := by rw [as_I xm_3 h1 h2 (by decide)]; exact iff_of_eq (congrArg G (xs_up (k := 3) (by show 3 < 23; decide)))
theorem gm_5 : xk_GF (xm f b R) b 12 5 V ↔ V (.ref (b + 4)) := gf_R xm_0 rfl
theorem am_5 (h1 : 0 ≤ z) (h2 : z < 288) : xk_AL (xm f b R) (b + 4) 0 (xj z) F ↔ F (xj (mA R 5 z.toNat)) := al_I xm_4 h1 h2 (by decide)
theorem wm_5 (h1 : 0 ≤ z) (h2 : z < 288) : xk_AS (xm f b R) (b + 4) (xj z) (xj y) G ↔ G (xm f b (sA R 5 (upI (mA R 5) z.toNat y))) := by rw [as_I xm_4 h1 h2 (by decide)]; exact iff_of_eq (congrArg G (xs_up (k := 4) (by show 4 < 23; decide)))
theorem gm_6 : xk_GF (xm f b R) b 12 6 V ↔ V (.ref (b + 5)) := gf_R xm_0 rfl
theorem am_6 (h1 : 0 ≤ z) (h2 : z < 6) : xk_AL (xm f b R) (b + 5) 0 (xj z) F ↔ F (xj (mA R 6 z.toNat)) := al_I xm_5 h1 h2 (by decide)
theorem wm_6 (h1 : 0 ≤ z) (h2 : z < 6) : xk_AS (xm f b R) (b + 5) (xj z) (xj y) G ↔ G (xm f b (sA R 6 (upI (mA R 6) z.toNat y))) := by rw [as_I xm_5 h1 h2 (by decide)]; exact iff_of_eq (congrArg G (xs_up (k := 5) (by show 5 < 23; decide)))
theorem gm_7 : xk_GF (xm f b R) b 12 7 V ↔ V (.ref (b + 6)) := gf_R xm_0 rfl
theorem am_7 (h1 : 0 ≤ z) (h2 : z < 84) : xk_AL (xm f b R) (b + 6) 0 (xj z) F ↔ F (xj (mA R 7 z.toNat)) := al_I xm_6 h1 h2 (by decide)
theorem wm_7 (h1 : 0 ≤ z) (h2 : z < 84) : xk_AS (xm f b R) (b + 6) (xj z) (xj y) G ↔ G (xm f b (sA R 7 (upI (mA R 7) z.toNat y))) := by rw [as_I xm_6 h1 h2 (by decide)]; exact iff_of_eq (congrArg G (xs_up (k := 6) (by show 6 < 23; decide)))
theorem gm_8 : xk_GF (xm f b R) b 12 8 V ↔ V (.int (xj (mS R 8))) := gf_R xm_0 rfl
theorem pm_8 : xk_PF (xm f b R) b 12 8 (.int (xj z)) G ↔ G (xm f b (sS R 8 z)) := by rw [pf_R xm_0 (by show 8 < 47; decide)]; exact iff_of_eq (congrArg G xs_up0)
theorem gm_9 : xk_GF (xm f b R) b 12 9 V ↔ V (.int (xj (mS R 9))) := gf_R xm_0 rfl
theorem pm_9 : xk_PF (xm f b R) b 12 9 (.int (xj z)) G ↔ G (xm f b (sS R 9 z)) := by rw [pf_R xm_0 (by show 9 < 47; decide)]; exact iff_of_eq (congrArg G xs_up0)
theorem gm_10 : xk_GF (xm f b R) b 12 10 V ↔ V (.int (xj (mS R 10))) := gf_R xm_0 rfl
theorem pm_10 : xk_PF (xm f b R) b 12 10 (.int (xj z)) G ↔ G (xm f b (sS R 10 z)) := by rw [pf_R xm_0 (by show 10 < 47; decide)]; exact iff_of_eq (congrArg G xs_up0)
theorem gm_11 : xk_GF (xm f b R) b 12 11 V ↔ V (.int (xj (mS R 11))) := gf_R xm_0 rfl
theorem pm_11 : xk_PF (xm f b R) b 12 11 (.int (xj z)) G ↔ G (xm f b (sS R 11 z)) := by rw [pf_R xm_0 (by show 11 < 47; decide)]; exact iff_of_eq (congrArg G xs_up0)
theorem gm_12 : xk_GF (xm f b R) b 12 12 V ↔ V (.int (xj (mS R 12))) := gf_R xm_0 rfl
theorem pm_12 : xk_PF (xm f b R) b 12 12 (.int (xj z)) G ↔ G (xm f b (sS R 12 z)) := by rw [pf_R xm_0 (by show 12 < 47; decide)]; exact iff_of_eq (congrArg G xs_up0)
theorem gm_13 : xk_GF (xm f b R) b 12 13 V ↔ V (.int (xj (mS R 13))) := gf_R xm_0 rfl
theorem pm_13 : xk_PF (xm f b R) b 12 13 (.int (xj z)) G ↔ G (xm f b (sS R 13 z)) := by rw [pf_R xm_0 (by show 13 < 47; decide)]; exact iff_of_eq (congrArg G xs_up0)
theorem gm_14 : xk_GF (xm f b R) b 12 14 V ↔ V (.int (xj (mS R 14))) := gf_R xm_0 rfl
theorem pm_14 : xk_PF (xm f b R) b 12 14 (.int (xj z)) G ↔ G (xm f b (sS R 14 z)) := by rw [pf_R xm_0 (by show 14 < 47; decide)]; exact iff_of_eq (congrArg G xs_up0)
theorem gm_15 : xk_GF (xm f b R) b 12 15 V ↔ V (.ref (b + 7)) := gf_R xm_0 rfl
theorem am_15 (h1 : 0 ≤ z) (h2 : z < 400) : xk_AL (xm f b R) (b + 7) 0 (xj z) F ↔ F (xj (mA R 15 z.toNat)) := al_I xm_7 h1 h2 (by decide)
theorem wm_15 (h1 : 0 ≤ z) (h2 : z < 400) : xk_AS (xm f b R) (b + 7) (xj z) (xj y) G ↔ G (xm f b (sA R 15 (upI (mA R 15) z.toNat y))) := by rw [as_I xm_7 h1 h2 (by decide)]; exact iff_of_eq (congrArg G (xs_up (k := 7) (by show 7 < 23; decide)))
theorem gm_16 : xk_GF (xm f b R) b 12 16 V ↔ V (.int (xj (mS R 16))) := gf_R xm_0 rfl
theorem pm_16 : xk_PF (xm f b R) b 12 16 (.int (xj z)) G ↔ G (xm f b (sS R 16 z)) := by rw [pf_R xm_0 (by show 16 < 47; decide)]; exact iff_of_eq (congrArg G xs_up0)
theorem gm_17 : xk_GF (xm f b R) b 12 17 V ↔ V (.ref (b + 8)) := gf_R xm_0 rfl
theorem am_17 (h1 : 0 ≤ z) (h2 : z < 64) : xk_ALJ (xm f b R) (b + 8) (xj z) FJ ↔ FJ (mJ R 17 z.toNat) := by
  unfold xk_ALJ
  rw [xm_8]
  show (3 = 3 ∧ ¬ (xj z < 0 ∨ 64 ≤ (xj z).toNatClampNeg) ∧ FJ (mJ R 17 (xj z).toNatClampNeg)) ↔ _
  rw [xj_nat h1 (by omega)]
  exact ⟨fun q => q.2.2, fun q => ⟨rfl, by rw [← xj_nat h1 (by omega)]; exact (xj_in (n := 64) h1 h2 (by omega)).mpr trivial, q⟩⟩
theorem wm_17 {y : Int64} (h1 : 0 ≤ z) (h2 : z < 64) : xk_ASJ (xm f b R) (b + 8) (xj z) y G ↔ G (xm f b (sJ R 17 (va_up (mJ R 17) z.toNat y))) := by
  unfold xk_ASJ
  rw [xm_8]
  show (3 = 3 ∧ ¬ (xj z < 0 ∨ 64 ≤ (xj z).toNatClampNeg) ∧ G (va_up (xm f b R) (b + 8) (.inl (3, 64, .inr (.inl (va_up (mJ R 17) (xj z).toNatClampNeg y)))))) ↔ _
  rw [xj_nat h1 (by omega)]
  have e : va_up (xm f b R) (b + 8) (.inl (3, 64, .inr (.inl (va_up (mJ R 17) z.toNat y)))) = xm f b (sJ R 17 (va_up (mJ R 17) z.toNat y)) := xs_up (k := 8) (by show 8 < 23; decide)
  rw [e]
  exact ⟨fun q => q.2.2, fun q => ⟨rfl, by rw [← xj_nat h1 (by omega)]; exact (xj_in (n := 64) h1 h2 (by omega)).mpr trivial, q⟩⟩
theorem gm_18 : xk_GF (xm f b R) b 12 18 V ↔ V (.int (xj (mS R 18))) := gf_R xm_0 rfl
theorem pm_18 : xk_PF (xm f b R) b 12 18 (.int (xj z)) G ↔ G (xm f b (sS R 18 z)) := by rw [pf_R xm_0 (by show 18 < 47; decide)]; exact iff_of_eq (congrArg G xs_up0)
theorem gm_19 : xk_GF (xm f b R) b 12 19 V ↔ V (.ref (b + 9)) := gf_R xm_0 rfl
theorem am_19 (h1 : 0 ≤ z) (h2 : z < 13) : xk_ALJ (xm f b R) (b + 9) (xj z) FJ ↔ FJ (mJ R 19 z.toNat) := by
  unfold xk_ALJ
  rw [xm_9]
  show (3 = 3 ∧ ¬ (xj z < 0 ∨ 13 ≤ (xj z).toNatClampNeg) ∧ FJ (mJ R 19 (xj z).toNatClampNeg)) ↔ _
  rw [xj_nat h1 (by omega)]
  exact ⟨fun q => q.2.2, fun q => ⟨rfl, by rw [← xj_nat h1 (by omega)]; exact (xj_in (n := 13) h1 h2 (by omega)).mpr trivial, q⟩⟩
theorem wm_19 {y : Int64} (h1 : 0 ≤ z) (h2 : z < 13) : xk_ASJ (xm f b R) (b + 9) (xj z) y G ↔ G (xm f b (sJ R 19 (va_up (mJ R 19) z.toNat y))) := by
  unfold xk_ASJ
  rw [xm_9]
  show (3 = 3 ∧ ¬ (xj z < 0 ∨ 13 ≤ (xj z).toNatClampNeg) ∧ G (va_up (xm f b R) (b + 9) (.inl (3, 13, .inr (.inl (va_up (mJ R 19) (xj z).toNatClampNeg y)))))) ↔ _
  rw [xj_nat h1 (by omega)]
  have e : va_up (xm f b R) (b + 9) (.inl (3, 13, .inr (.inl (va_up (mJ R 19) z.toNat y)))) = xm f b (sJ R 19 (va_up (mJ R 19) z.toNat y)) := xs_up (k := 9) (by show 9 < 23; decide)
  rw [e]
  exact ⟨fun q => q.2.2, fun q => ⟨rfl, by rw [← xj_nat h1 (by omega)]; exact (xj_in (n := 13) h1 h2 (by omega)).mpr trivial, q⟩⟩
theorem gm_20 : xk_GF (xm f b R) b 12 20 V ↔ V (.ref (b + 10)) := gf_R xm_0 rfl
theorem am_20 (h1 : 0 ≤ z) (h2 : z < 115) : xk_AL (xm f b R) (b + 10) 0 (xj z) F ↔ F (xj (mA R 20 z.toNat)) := al_I xm_10 h1 h2 (by decide)
theorem wm_20 (h1 : 0 ≤ z) (h2 : z < 115) : xk_AS (xm f b R) (b + 10) (xj z) (xj y) G ↔ G (xm f b (sA R 20 (upI (mA R 20) z.toNat y))) := by rw [as_I xm_10 h1 h2 (by decide)]; exact iff_of_eq (congrArg G (xs_up (k := 10) (by show 10 < 23; decide)))
theorem gm_21 : xk_GF (xm f b R) b 12 21 V ↔ V (.int (xj (mS R 21))) := gf_R xm_0 rfl
theorem pm_21 : xk_PF (xm f b R) b 12 21 (.int (xj z)) G ↔ G (xm f b (sS R 21 z)) := by rw [pf_R xm_0 (by show 21 < 47; decide)]; exact iff_of_eq (congrArg G xs_up0)
theorem gm_22 : xk_GF (xm f b R) b 12 22 V ↔ V (.int (xj (mS R 22))) := gf_R xm_0 rfl
theorem pm_22 : xk_PF (xm f b R) b 12 22 (.int (xj z)) G ↔ G (xm f b (sS R 22 z)) := by rw [pf_R xm_0 (by show 22 < 47; decide)]; exact iff_of_eq (congrArg G xs_up0)
theorem gm_23 : xk_GF (xm f b R) b 12 23 V ↔ V (.int (xj (mS R 23))) := gf_R xm_0 rfl
theorem pm_23 : xk_PF (xm f b R) b 12 23 (.int (xj z)) G ↔ G (xm f b (sS R 23 z)) := by rw [pf_R xm_0 (by show 23 < 47; decide)]; exact iff_of_eq (congrArg G xs_up0)
theorem gm_24 : xk_GF (xm f b R) b 12 24 V ↔ V (.int (xj (mS R 24))) := gf_R xm_0 rfl
theorem pm_24 : xk_PF (xm f b R) b 12 24 (.int (xj z)) G ↔ G (xm f b (sS R 24 z)) := by rw [pf_R xm_0 (by show 24 < 47; decide)]; exact iff_of_eq (congrArg G xs_up0)
theorem gm_25 : xk_GF (xm f b R) b 12 25 V ↔ V (.int (xj (mS R 25))) := gf_R xm_0 rfl
theorem pm_25 : xk_PF (xm f b R) b 12 25 (.int (xj z)) G ↔ G (xm f b (sS R 25 z)) := by rw [pf_R xm_0 (by show 25 < 47; decide)]; exact iff_of_eq (congrArg G xs_up0)
theorem gm_26 : xk_GF (xm f b R) b 12 26 V ↔ V (.int (xj (mS R 26))) := gf_R xm_0 rfl
theorem pm_26 : xk_PF (xm f b R) b 12 26 (.int (xj z)) G ↔ G (xm f b (sS R 26 z)) := by rw [pf_R xm_0 (by show 26 < 47; decide)]; exact iff_of_eq (congrArg G xs_up0)
theorem gm_27 : xk_GF (xm f b R) b 12 27 V ↔ V (.ref (b + 11)) := gf_R xm_0 rfl
theorem am_27 (h1 : 0 ≤ z) (h2 : z < 440) : xk_AL (xm f b R) (b + 11) 0 (xj z) F ↔ F (xj (mA R 27 z.toNat)) := al_I xm_11 h1 h2 (by decide)
theorem wm_27 (h1 : 0 ≤ z) (h2 : z < 440) : xk_AS (xm f b R) (b + 11) (xj z) (xj y) G ↔ G (xm f b (sA R 27 (upI (mA R 27) z.toNat y))) := by rw [as_I xm_11 h1 h2 (by decide)]; exact iff_of_eq (congrArg G (xs_up (k := 11) (by show 11 < 23; decide)))
theorem gm_28 : xk_GF (xm f b R) b 12 28 V ↔ V (.int (xj (mS R 28))) := gf_R xm_0 rfl
theorem pm_28 : xk_PF (xm f b R) b 12 28 (.int (xj z)) G ↔ G (xm f b (sS R 28 z)) := by rw [pf_R xm_0 (by show 28 < 47; decide)]; exact iff_of_eq (congrArg G xs_up0)
theorem gm_29 : xk_GF (xm f b R) b 12 29 V ↔ V (.ref (b + 12)) := gf_R xm_0 rfl
theorem am_29 (h1 : 0 ≤ z) (h2 : z < 22) : xk_AL (xm f b R) (b + 12) 0 (xj z) F ↔ F (xj (mA R 29 z.toNat)) := al_I xm_12 h1 h2 (by decide)
theorem wm_29 (h1 : 0 ≤ z) (h2 : z < 22) : xk_AS (xm f b R) (b + 12) (xj z) (xj y) G ↔ G (xm f b (sA R 29 (upI (mA R 29) z.toNat y))) := by rw [as_I xm_12 h1 h2 (by decide)]; exact iff_of_eq (congrArg G (xs_up (k := 12) (by show 12 < 23; decide)))
theorem gm_30 : xk_GF (xm f b R) b 12 30 V ↔ V (.ref (b + 13)) := gf_R xm_0 rfl
theorem am_30 (h1 : 0 ≤ z) (h2 : z < 6) : xk_AL (xm f b R) (b + 13) 0 (xj z) F ↔ F (xj (mA R 30 z.toNat)) := al_I xm_13 h1 h2 (by decide)
theorem wm_30 (h1 : 0 ≤ z) (h2 : z < 6) : xk_AS (xm f b R) (b + 13) (xj z) (xj y) G ↔ G (xm f b (sA R 30 (upI (mA R 30) z.toNat y))) := by rw [as_I xm_13 h1 h2 (by decide)]; exact iff_of_eq (congrArg G (xs_up (k := 13) (by show 13 < 23; decide)))
theorem gm_31 : xk_GF (xm f b R) b 12 31 V ↔ V (.int (xj (mS R 31))) := gf_R xm_0 rfl
theorem pm_31 : xk_PF (xm f b R) b 12 31 (.int (xj z)) G ↔ G (xm f b (sS R 31 z)) := by rw [pf_R xm_0 (by show 31 < 47; decide)]; exact iff_of_eq (congrArg G xs_up0)
theorem gm_32 : xk_GF (xm f b R) b 12 32 V ↔ V (.ref (b + 14)) := gf_R xm_0 rfl
theorem am_32 (h1 : 0 ≤ z) (h2 : z < 7) : xk_AL (xm f b R) (b + 14) 0 (xj z) F ↔ F (xj (mA R 32 z.toNat)) := al_I xm_14 h1 h2 (by decide)
theorem wm_32 (h1 : 0 ≤ z) (h2 : z < 7) : xk_AS (xm f b R) (b + 14) (xj z) (xj y) G ↔ G (xm f b (sA R 32 (upI (mA R 32) z.toNat y))) := by rw [as_I xm_14 h1 h2 (by decide)]; exact iff_of_eq (congrArg G (xs_up (k := 14) (by show 14 < 23; decide)))
theorem gm_33 : xk_GF (xm f b R) b 12 33 V ↔ V (.ref (b + 15)) := gf_R xm_0 rfl
theorem am_33 (h1 : 0 ≤ z) (h2 : z < 154) : xk_AL (xm f b R) (b + 15) 0 (xj z) F ↔ F (xj (mA R 33 z.toNat)) := al_I xm_15 h1 h2 (by decide)
theorem wm_33 (h1 : 0 ≤ z) (h2 : z < 154) : xk_AS (xm f b R) (b + 15) (xj z) (xj y) G ↔ G (xm f b (sA R 33 (upI (mA R 33) z.toNat y))) := by rw [as_I xm_15 h1 h2 (by decide)]; exact iff_of_eq (congrArg G (xs_up (k := 15) (by show 15 < 23; decide)))
theorem gm_34 : xk_GF (xm f b R) b 12 34 V ↔ V (.ref (b + 16)) := gf_R xm_0 rfl
theorem am_34 (h1 : 0 ≤ z) (h2 : z < 6) : xk_AL (xm f b R) (b + 16) 0 (xj z) F ↔ F (xj (mA R 34 z.toNat)) := al_I xm_16 h1 h2 (by decide)
theorem wm_34 (h1 : 0 ≤ z) (h2 : z < 6) : xk_AS (xm f b R) (b + 16) (xj z) (xj y) G ↔ G (xm f b (sA R 34 (upI (mA R 34) z.toNat y))) := by rw [as_I xm_16 h1 h2 (by decide)]; exact iff_of_eq (congrArg G (xs_up (k := 16) (by show 16 < 23; decide)))
theorem gm_35 : xk_GF (xm f b R) b 12 35 V ↔ V (.int (xj (mS R 35))) := gf_R xm_0 rfl
theorem pm_35 : xk_PF (xm f b R) b 12 35 (.int (xj z)) G ↔ G (xm f b (sS R 35 z)) := by rw [pf_R xm_0 (by show 35 < 47; decide)]; exact iff_of_eq (congrArg G xs_up0)
theorem gm_36 : xk_GF (xm f b R) b 12 36 V ↔ V (.int (xj (mS R 36))) := gf_R xm_0 rfl
theorem pm_36 : xk_PF (xm f b R) b 12 36 (.int (xj z)) G ↔ G (xm f b (sS R 36 z)) := by rw [pf_R xm_0 (by show 36 < 47; decide)]; exact iff_of_eq (congrArg G xs_up0)
theorem gm_37 : xk_GF (xm f b R) b 12 37 V ↔ V (.int (xj (mS R 37))) := gf_R xm_0 rfl
theorem pm_37 : xk_PF (xm f b R) b 12 37 (.int (xj z)) G ↔ G (xm f b (sS R 37 z)) := by rw [pf_R xm_0 (by show 37 < 47; decide)]; exact iff_of_eq (congrArg G xs_up0)
theorem gm_38 : xk_GF (xm f b R) b 12 38 V ↔ V (.int (xj (mS R 38))) := gf_R xm_0 rfl
theorem pm_38 : xk_PF (xm f b R) b 12 38 (.int (xj z)) G ↔ G (xm f b (sS R 38 z)) := by rw [pf_R xm_0 (by show 38 < 47; decide)]; exact iff_of_eq (congrArg G xs_up0)
theorem gm_39 : xk_GF (xm f b R) b 12 39 V ↔ V (.ref (b + 17)) := gf_R xm_0 rfl
theorem am_39 (h1 : 0 ≤ z) (h2 : z < 6) : xk_AL (xm f b R) (b + 17) 0 (xj z) F ↔ F (xj (mA R 39 z.toNat)) := al_I xm_17 h1 h2 (by decide)
theorem wm_39 (h1 : 0 ≤ z) (h2 : z < 6) : xk_AS (xm f b R) (b + 17) (xj z) (xj y) G ↔ G (xm f b (sA R 39 (upI (mA R 39) z.toNat y))) := by rw [as_I xm_17 h1 h2 (by decide)]; exact iff_of_eq (congrArg G (xs_up (k := 17) (by show 17 < 23; decide)))
theorem gm_40 : xk_GF (xm f b R) b 12 40 V ↔ V (.int (xj (mS R 40))) := gf_R xm_0 rfl
theorem pm_40 : xk_PF (xm f b R) b 12 40 (.int (xj z)) G ↔ G (xm f b (sS R 40 z)) := by rw [pf_R xm_0 (by show 40 < 47; decide)]; exact iff_of_eq (congrArg G xs_up0)
theorem gm_41 : xk_GF (xm f b R) b 12 41 V ↔ V (.ref (b + 18)) := gf_R xm_0 rfl
theorem am_41 (h1 : 0 ≤ z) (h2 : z < 6) : xk_AL (xm f b R) (b + 18) 0 (xj z) F ↔ F (xj (mA R 41 z.toNat)) := al_I xm_18 h1 h2 (by decide)
theorem wm_41 (h1 : 0 ≤ z) (h2 : z < 6) : xk_AS (xm f b R) (b + 18) (xj z) (xj y) G ↔ G (xm f b (sA R 41 (upI (mA R 41) z.toNat y))) := by rw [as_I xm_18 h1 h2 (by decide)]; exact iff_of_eq (congrArg G (xs_up (k := 18) (by show 18 < 23; decide)))
theorem gm_42 : xk_GF (xm f b R) b 12 42 V ↔ V (.ref (b + 19)) := gf_R xm_0 rfl
theorem am_42 (h1 : 0 ≤ z) (h2 : z < 36) : xk_AL (xm f b R) (b + 19) 0 (xj z) F ↔ F (xj (mA R 42 z.toNat)) := al_I xm_19 h1 h2 (by decide)
theorem wm_42 (h1 : 0 ≤ z) (h2 : z < 36) : xk_AS (xm f b R) (b + 19) (xj z) (xj y) G ↔ G (xm f b (sA R 42 (upI (mA R 42) z.toNat y))) := by rw [as_I xm_19 h1 h2 (by decide)]; exact iff_of_eq (congrArg G (xs_up (k := 19) (by show 19 < 23; decide)))
theorem gm_43 : xk_GF (xm f b R) b 12 43 V ↔ V (.long (jx (mS R 43))) := gf_R xm_0 rfl
theorem pm_43 : xk_PF (xm f b R) b 12 43 (.long (jx z)) G ↔ G (xm f b (sS R 43 z)) := by rw [pf_R xm_0 (by show 43 < 47; decide)]; exact iff_of_eq (congrArg G xs_up0)
theorem gm_44 : xk_GF (xm f b R) b 12 44 V ↔ V (.ref (b + 20)) := gf_R xm_0 rfl
theorem am_44 (h1 : 0 ≤ z) (h2 : z < 460) : xk_AL (xm f b R) (b + 20) 0 (xj z) F ↔ F (xj (mA R 44 z.toNat)) := al_I xm_20 h1 h2 (by decide)
theorem wm_44 (h1 : 0 ≤ z) (h2 : z < 460) : xk_AS (xm f b R) (b + 20) (xj z) (xj y) G ↔ G (xm f b (sA R 44 (upI (mA R 44) z.toNat y))) := by rw [as_I xm_20 h1 h2 (by decide)]; exact iff_of_eq (congrArg G (xs_up (k := 20) (by show 20 < 23; decide)))
theorem gm_45 : xk_GF (xm f b R) b 12 45 V ↔ V (.ref (b + 21)) := gf_R xm_0 rfl
theorem am_45 (h1 : 0 ≤ z) (h2 : z < 4) : xk_AL (xm f b R) (b + 21) 0 (xj z) F ↔ F (xj (mA R 45 z.toNat)) := al_I xm_21 h1 h2 (by decide)
theorem wm_45 (h1 : 0 ≤ z) (h2 : z < 4) : xk_AS (xm f b R) (b + 21) (xj z) (xj y) G ↔ G (xm f b (sA R 45 (upI (mA R 45) z.toNat y))) := by rw [as_I xm_21 h1 h2 (by decide)]; exact iff_of_eq (congrArg G (xs_up (k := 21) (by show 21 < 23; decide)))
theorem gm_46 : xk_GF (xm f b R) b 12 46 V ↔ V (.ref (b + 22)) := gf_R xm_0 rfl
theorem am_46 (h1 : 0 ≤ z) (h2 : z < 4) : xk_AL (xm f b R) (b + 22) 2 (xj z) F ↔ F (xj (mA R 46 z.toNat)) := by
  unfold xk_AL
  rw [xm_22]
  show (2 = 2 ∧ ¬ (xj z < 0 ∨ 4 ≤ (xj z).toNatClampNeg) ∧ F (xj (mA R 46 (xj z).toNatClampNeg))) ↔ _
  rw [xj_nat h1 (by omega)]
  exact ⟨fun q => q.2.2, fun q => ⟨rfl, by rw [← xj_nat h1 (by omega)]; exact (xj_in (n := 4) h1 h2 (by omega)).mpr trivial, q⟩⟩
theorem wn_46 : xk_AL (xm f b R) (b + 22) 1 (xj z) F ↔ False := by
  unfold xk_AL
  rw [xm_22]
  exact ⟨fun q => absurd q.1 (by decide), fun q => q.elim⟩
theorem wm_46 (h1 : 0 ≤ z) (h2 : z < 4) (h3 : y = 0 ∨ y = 1) : xk_ASB (xm f b R) (b + 22) (xj z) (xj y) G ↔ G (xm f b (sA R 46 (upI (mA R 46) z.toNat (y)))) := by
  unfold xk_ASB
  rw [xm_22]
  show ((2 = 1 ∨ 2 = 2) ∧ ¬ (xj z < 0 ∨ 4 ≤ (xj z).toNatClampNeg) ∧ G (va_up (xm f b R) (b + 22) (.inl (2, 4, .inl (va_up (fun i => xj (mA R 46 i)) (xj z).toNatClampNeg (if 2 = 1 then (xj y).toInt8.toInt32 else xj y &&& 1)))))) ↔ _
  rw [xj_nat h1 (by omega), show (if 2 = 1 then (xj y).toInt8.toInt32 else xj y &&& 1) = xj (y) from (if_neg (by decide)).trans (by rcases h3 with rfl | rfl <;> decide), up_at]
  have e : va_up (xm f b R) (b + 22) (.inl (2, 4, .inl (fun i => xj (if i = z.toNat then y else mA R 46 i)))) = xm f b (sA R 46 (upI (mA R 46) z.toNat (y))) := xs_up (k := 22) (by show 22 < 23; decide)
  rw [e]
  exact ⟨fun q => q.2.2, fun q => ⟨by decide, by rw [← xj_nat h1 (by omega)]; exact (xj_in (n := 4) h1 h2 (by omega)).mpr trivial, q⟩⟩
theorem tn_add (h1 : 0 ≤ z) (h2 : 0 ≤ y) : (z + y).toNat = z.toNat + y.toNat := by omega
theorem tn_sub (h2 : 0 ≤ y) : (z - y).toNat = z.toNat - y.toNat := by omega
theorem tn_mul (h1 : 0 ≤ z) (h2 : 0 ≤ y) : (z * y).toNat = z.toNat * y.toNat := Int.toNat_mul h1 h2
theorem up_e {i : Nat} : upI h i v i = v := if_pos rfl
theorem up_n {i : Nat} (e : i ≠ j) : upI h j v i = h i := if_neg e
end XM40
