/-! both sides side by side: what holds between two calls -/
/-- the day as the model tells it: with no office told its place is 0 -/
def mD (O : Of) (d : Dy) : Dy := if of_told O = 1 then d else (d.1, 0, d.2.2)
theorem mD_1 {O : Of} {d : Dy} (h : of_told O = 1) : mD O d = d := if_pos h
theorem mD_m (O : Of) (d : Dy) : (mD O d).1 = d.1 := by unfold mD; split <;> rfl
theorem xw_mD {O : Of} {d : Dy} (h : xw_Day O d) : xw_Day O (mD O d) := by
  unfold mD
  split
  · exact h
  · exact ⟨h.1, h.2.1, by show (-1 : Int) ≤ 0; decide, by show (0 : Int) ≤ 3; decide, h.2.2.2.2⟩
theorem told_np {O : Of} {p : Nat} (hw : xw_Off O) (h : p < of_np O) : of_told O = 1 := by rcases hw.1 with q | q <;> omega
theorem told_nc {O : Of} {p : Nat} (hw : xw_Off O) (h : p < of_nc O) : of_told O = 1 := by rcases hw.1 with q | q <;> omega
theorem mD_cnt {O : Of} {d : Dy} (hw : xw_Off O) (l nr nh : Nat) (x tp y : Int) : countAns O (mD O d) l nr nh x tp y = countAns O d l nr nh x tp y := by
  by_cases ht : of_told O = 1
  · rw [mD_1 ht]
  · have h0 : of_nc O = 0 := by rcases hw.1 with q | q <;> omega
    have e : mD O d = (d.1, 0, d.2.2) := if_neg ht
    rw [e]
    unfold countAns
    rw [h0]
    rfl
def DW (O : Of) (d : Dy) : Prop := vsD d ∧ (of_nc O = 0 → d.2.1 = -1)
def rS (g : Nat → Int) (S : Dk) : Prop := rO g S.1 ∧ rD g S.1 (mD S.1 S.2.1) ∧ rL g S.2.2.1
def hist (H : Hi) : Nat → Dy := fun j => H.2.2 ((H.1 + 20 - H.2.1 + j) % 20)
def pX (n nr : Nat) (T : Nat → Int) (ru : Nat → Ru) (S : Dk) (H : Hi) (im : Nat → Int) (I : Nat → Dk) : Prop := tOK T n ∧ nr ≤ 6 ∧ (∀ k, k < nr → ruOK (ru k)) ∧ PW S ∧ DW S.1 S.2.1 ∧ xw_Hi H ∧ (∀ j, j < H.2.1 → DW S.1 (hist H j)) ∧ (∀ k, k < 4 → im k = 0 ∨ im k = 1) ∧ (∀ k, k < 4 → PW (I k) ∧ DW (I k).1 (I k).2.1) ∧ (¬ of_told S.1 = 1 → H.2.1 = 0)
def rI (R : Md) (im : Nat → Int) (I : Nat → Dk) : Prop := ∀ k, k < 4 → mA R 46 k = im k ∧ (im k = 1 → mA R 45 k = (I k).2.2.2 ∧ rS (fun i => mA R 44 (115 * k + i)) (I k))
def rM (R : Md) (n nr : Nat) (T : Nat → Int) (ru : Nat → Ru) (S : Dk) (H : Hi) (im : Nat → Int) (I : Nat → Dk) : Prop := rT R T n ∧ mS R 2 = (nr : Nat) ∧ (∀ k, k < nr → rRu R k (ru k)) ∧ rK R S.1 (mD S.1 S.2.1) ∧ rL (mA R 20) S.2.2.1 ∧ mS R 21 = S.2.2.2 ∧ mS R 22 = 63 ∧ rH R S.1 H.2.1 (hist H) ∧ rI R im I
def REL (f : Nat → xk_C) (a b : Nat) : Prop := ∃ (n nr : Nat) (T : Nat → Int) (ru : Nat → Ru) (S : Dk) (H : Hi) (im : Nat → Int) (I : Nat → Dk) (R : Md), xv_Pen f a n nr T ru S H im I ∧ xm f b R = f ∧ rM R n nr T ru S H im I ∧ pX n nr T ru S H im I
/-- one call on both sides, one answer -/
def AG (D a b yc ym : Nat) (as : List Value) (f : Nat → xk_C) (w : Nat × Nat × Nat) : Prop := xk_Cl D yc (.ref a :: as) (f, w) (fun r σ => ∃ (v : Int32) (f1 : Nat → xk_C), r = some (.int v) ∧ σ = (f1, w) ∧ xk_RC f1 b 12 ∧ xk_Cl D ym (.ref b :: as) (f1, w) (fun r2 σ2 => ∃ f2, r2 = some (.int v) ∧ σ2 = (f2, w) ∧ REL f2 a b))
theorem rL_ext {g g' : Nat → Int} {L : Lg} (hL : L.1 ≤ 10) (h : ∀ i, 84 ≤ i → i < 115 → g' i = g i) (hr : rL g L) : rL g' L := ⟨(h 114 (by omega) (by omega)).trans hr.1, fun k hk => by
  obtain ⟨h1, h2, h3⟩ := hr.2 k hk
  exact ⟨(h _ (by omega) (by omega)).trans h1, (h _ (by omega) (by omega)).trans h2, (h _ (by omega) (by omega)).trans h3⟩⟩
theorem rH_ext {R R' : Md} {O : Of} {n : Nat} {H : Nat → Dy} (h28 : mS R' 28 = mS R 28) (h27 : mA R' 27 = mA R 27) (h : rH R O n H) : rH R' O n H := ⟨h28.trans h.1, h.2.1, fun j hj => by rw [h27]; exact h.2.2 j hj⟩
theorem rI_ext {R R' : Md} {im : Nat → Int} {I : Nat → Dk} (h44 : mA R' 44 = mA R 44) (h45 : mA R' 45 = mA R 45) (h46 : mA R' 46 = mA R 46) (h : rI R im I) : rI R' im I := fun k hk => by rw [h44, h45, h46]; exact h k hk
theorem rT_ext {R R' : Md} {T : Nat → Int} {n : Nat} (h1 : mS R' 1 = mS R 1) (h0 : mA R' 0 = mA R 0) (h : rT R T n) : rT R' T n := ⟨h1.trans h.1, h.2.1, fun i hi => by rw [h0]; exact h.2.2 i hi⟩
section XS9c01
variable {D a b n nr yc ym : Nat} {f f' : Nat → xk_C} {w : Nat × Nat × Nat} {T : Nat → Int} {ru : Nat → Ru} {S : Dk} {H : Hi} {im : Nat → Int} {I : Nat → Dk} {R R' : Md} {as : List Value} {v : Int32}
theorem rM_frT (h : rM R n nr T ru S H im I) (hL : S.2.2.1.1 ≤ 10) (fr : frT R R') (hk : rK R' S.1 (mD S.1 S.2.1)) : rM R' n nr T ru S H im I := by
  obtain ⟨h1, h2, h3, h4, h5, h6, h7, h8, h9⟩ := h
  exact ⟨rT_ext (fr.1 1 (by omega)) (fr.2.1 0 (by omega)) h1, (fr.1 2 (by omega)).trans h2, fun k hk => rRu_ext (fr.2.1 3 (by omega)) (fr.2.1 5 (by omega)) (fr.2.1 6 (by omega)) (h3 k hk), hk, rL_ext hL (fun i i1 i2 => fr.2.2 i (by omega)) h5, (fr.1 21 (by omega)).trans h6, (fr.1 22 (by omega)).trans h7, rH_ext (fr.1 28 (by omega)) (fr.2.1 27 (by omega)) h8, rI_ext (fr.2.1 44 (by omega)) (fr.2.1 45 (by omega)) (fr.2.1 46 (by omega)) h9⟩
theorem xm_fr (h : xm f b R = f) (e : ∀ x, b ≤ x → x < b + 23 → f' x = f x) : xm f' b R = f' := by
  funext x
  by_cases c : b ≤ x ∧ x < b + 23
  · have h2 : xm f' b R x = xm f b R x := by
      show xs f' b (xl_M b R) x = xs f b (xl_M b R) x
      have hl : x - b < (xl_M b R).length := by show x - b < 23; omega
      unfold xs
      rw [if_pos c.1, if_pos c.1, List.getElem?_eq_getElem hl]
      rfl
    rw [h2, h, e x c.1 c.2]
  · exact xm_ne (by omega)
theorem rel_mk (hab : a + 204 ≤ b) (hp : xv_Pen f' a n nr T ru S H im I) (hr : rM R' n nr T ru S H im I) (hx : pX n nr T ru S H im I) : REL (xm f' b R') a b := ⟨n, nr, T, ru, S, H, im, I, R', pen_fr hp (fun x q => xm_ne (by omega)), xm_xm, hr, hx⟩
/-- from the class's end on -/
theorem ag_cl (hab : a + 204 ≤ b) (hm : xm f b R = f) (e : ∀ x, (x < a ∨ a + 204 ≤ x) → f' x = f x) (h : xk_Cl D ym (.ref b :: as) (xm f' b R, w) (fun r2 σ2 => ∃ f2, r2 = some (.int v) ∧ σ2 = (f2, w) ∧ REL f2 a b)) : ∃ (v' : Int32) (f1 : Nat → xk_C), some (Value.int v) = some (.int v') ∧ ((f', w) : xk_S) = (f1, w) ∧ xk_RC f1 b 12 ∧ xk_Cl D ym (.ref b :: as) (f1, w) (fun r2 σ2 => ∃ f2, r2 = some (.int v') ∧ σ2 = (f2, w) ∧ REL f2 a b) := by
  have em := xm_fr hm (fun x h1 h2 => e x (by omega))
  refine ⟨v, f', rfl, rfl, ?_, ?_⟩
  · rw [← em]; exact rc_M.mpr trivial
  · rw [em] at h
    exact h
/-- a question: nothing told is changed -/
theorem q_step (hab : a + 204 ≤ b) (hm : xm f b R = f) (hr : rM R n nr T ru S H im I) (hx : pX n nr T ru S H im I)
    (hcl : ∀ K : Option Value → xk_S → Prop, (∀ f', (∀ x, (x < a ∨ a + 204 ≤ x) → f' x = f x) → xv_Pen f' a n nr T ru S H im I → K (some (.int v)) (f', w)) → xk_Cl D yc (.ref a :: as) (f, w) K)
    (hmo : ∀ (g : Nat → xk_C) (K : Option Value → xk_S → Prop), (∀ R', frT R R' → rK R' S.1 (mD S.1 S.2.1) → K (some (.int v)) (xm g b R', w)) → xk_Cl D ym (.ref b :: as) (xm g b R, w) K) : AG D a b yc ym as f w := by
  refine hcl _ (fun f' e hp => ag_cl hab hm e (hmo f' _ (fun R' fr hk => ⟨xm f' b R', rfl, rfl, rel_mk hab hp (rM_frT hr hx.2.2.2.1.1.2.2.2.2.1.1 fr hk) hx⟩)))
end XS9c01
