/-! words by their letters -/
def wls : List (List Nat) := [[112, 97, 112, 101, 114], [99, 108, 101, 114, 107], [115, 116, 114, 111, 107, 101, 115], [100, 117, 101], [119, 111, 114, 116, 104], [119, 97, 121], [108, 101, 102, 116], [110, 101, 101, 100, 115], [98, 101, 97, 114, 115], [105, 110, 107], [110, 105, 98], [109, 105, 110, 117, 116, 101], [98, 101, 103, 105, 110, 115], [111, 102, 102, 105, 99, 101], [97, 119, 97, 121], [114, 101, 115, 116, 115], [115, 105, 103, 110], [105, 102], [111, 114], [97, 110, 100], [110, 111, 116]]
def wcs : List Nat := [482671093106, 427020350059, 32497657166128499, 6583653, 512970880104, 7823737, 1818584692, 474147546227, 422607680115, 6909547, 7235938, 120299592184933, 108187666181747, 122485595530085, 1635213689, 491328337011, 1936287598, 26982, 28530, 6385252, 7237492]
def wl (k i : Nat) : Nat := (wls.getD k []).getD i 0
def wlen (k : Nat) : Nat := (wls.getD k []).length
def wmB (T : Nat → Int) (p m k : Nat) : Bool := decide (m = wlen k ∧ ∀ i, i < m → T (p + i) = wl k i)
/-- the word's number, or -1 -/
def wdT (T : Nat → Int) (p m : Nat) : Int := lstI (wmB T p m) 21
def pkN (a : Nat → Nat) : Nat → Nat
  | 0 => 0
  | i + 1 => pkN a i * 256 + a i
theorem pkN_lt {a : Nat → Nat} : ∀ m, (∀ i, i < m → a i < 256) → pkN a m < 256 ^ m := by
  intro m
  induction m with
  | zero => intro _; show 0 < 1; decide
  | succ m ih =>
    intro h
    have h1 := ih (fun i hi => h i (by omega))
    have h2 := h m (by omega)
    rw [Nat.pow_succ]
    unfold pkN
    omega
theorem pkN_inj {a b : Nat → Nat} : ∀ m L, (∀ i, i < m → 1 ≤ a i ∧ a i < 256) → (∀ i, i < L → 1 ≤ b i ∧ b i < 256) → pkN a m = pkN b L → m = L ∧ ∀ i, i < m → a i = b i := by
  intro m
  induction m with
  | zero =>
    intro L _ hb h
    cases L with
    | zero => exact ⟨rfl, fun i hi => by omega⟩
    | succ L =>
      have h1 := hb L (by omega)
      unfold pkN at h
      omega
  | succ m ih =>
    intro L ha hb h
    cases L with
    | zero =>
      have h1 := ha m (by omega)
      unfold pkN at h
      omega
    | succ L =>
      have h1 := ha m (by omega)
      have h2 := hb L (by omega)
      have h3 : pkN a m * 256 + a m = pkN b L * 256 + b L := h
      obtain ⟨e1, e2⟩ := ih L (fun i hi => ha i (by omega)) (fun i hi => hb i (by omega)) (by omega)
      refine ⟨by omega, fun i hi => ?_⟩
      by_cases c : i = m
      · subst c; subst e1; omega
      · exact e2 i (by omega)
theorem jx_bv {n : Nat} : (jx n).toBitVec = BitVec.ofNat 64 n := by
  unfold jx
  rw [Int64.ofInt_eq_ofNat]
  rfl
theorem jx_pk {a t : Nat} (ha : a < 2 ^ 55) (ht : t < 256) : (jx a <<< ((xj 8).toInt64 &&& 63)) ||| jx t = jx ((a * 256 + t : Nat) : Int) := by
  apply Int64.toBitVec_inj.mp
  rw [Int64.toBitVec_or, Int64.toBitVec_shiftLeft, jx_bv, jx_bv, jx_bv]
  have e8 : (((xj 8).toInt64 &&& 63).toBitVec.smod 64).toNat = 8 := by decide
  show (BitVec.ofNat 64 a <<< (((xj 8).toInt64 &&& 63).toBitVec.smod 64).toNat) ||| BitVec.ofNat 64 t = _
  rw [e8]
  apply BitVec.eq_of_toNat_eq
  rw [BitVec.toNat_or, BitVec.toNat_shiftLeft, BitVec.toNat_ofNat, BitVec.toNat_ofNat, BitVec.toNat_ofNat]
  rw [Nat.mod_eq_of_lt (show a < 2 ^ 64 by omega), Nat.mod_eq_of_lt (show t < 2 ^ 64 by omega)]
  have h := Nat.shiftLeft_add_eq_or_of_lt (i := 8) (show t < 2 ^ 8 by omega) a
  have e : a <<< 8 = a * 256 := by rw [Nat.shiftLeft_eq]
  rw [Nat.mod_eq_of_lt (show a <<< 8 < 2 ^ 64 by rw [e]; omega), ← h, e, Nat.mod_eq_of_lt (show a * 256 + t < 2 ^ 64 by omega)]
theorem wv_pk {T : Nat → Int} {p : Nat} : ∀ m, m ≤ 7 → (∀ i, i < m → 0 ≤ T (p + i) ∧ T (p + i) < 256) → wvF T p m = jx (pkN (fun i => (T (p + i)).toNat) m : Nat) := by
  intro m
  induction m with
  | zero => intro _ _; show (0 : Int64) = jx 0; decide
  | succ m ih =>
    intro h7 h
    have h1 := ih (by omega) (fun i hi => h i (by omega))
    have h2 := h m (by omega)
    have lt := pkN_lt (a := fun i => (T (p + i)).toNat) m (fun i hi => by have := h i (by omega); show (T (p + i)).toNat < 256; omega)
    have le : 256 ^ m ≤ 256 ^ 6 := Nat.pow_le_pow_right (by decide) (by omega)
    have e : wvF T p (m + 1) = (wvF T p m <<< ((xj 8).toInt64 &&& 63)) ||| jx (T (p + m)) := by
      show (if m < 8 then _ else _) = _
      rw [if_pos (by omega)]
    obtain ⟨t, ht⟩ : ∃ t : Nat, T (p + m) = t := ⟨(T (p + m)).toNat, by omega⟩
    rw [e, h1, ht, jx_pk (by omega) (by omega)]
    show _ = jx ((pkN (fun i => (T (p + i)).toNat) m * 256 + (T (p + m)).toNat : Nat) : Int)
    rw [ht, Int.toNat_natCast]
theorem wl_rng : ∀ k, k < 21 → (1 ≤ wlen k ∧ wlen k ≤ 7) ∧ pkN (wl k) (wlen k) = wcs.getD k 0 ∧ ∀ i, i < wlen k → 97 ≤ wl k i ∧ wl k i ≤ 122 := by decide +kernel
/-- the model's test of a word -/
theorem wm_iff {T : Nat → Int} {n p m k : Nat} (hk : k < 21) (hl : ∀ i, i < m → ltB T n (p + i) = true) : (0 < m ∧ m < 8 ∧ wvF T p m = jx (wcs.getD k 0 : Nat)) ↔ wmB T p m k = true := by
  obtain ⟨⟨w1, w2⟩, w3, w4⟩ := wl_rng k hk
  have hT : ∀ i, i < m → 97 ≤ T (p + i) ∧ T (p + i) ≤ 122 := fun i hi => (of_decide_eq_true (hl i hi)).2
  have lt1 : m ≤ 7 → pkN (fun i => (T (p + i)).toNat) m < 2 ^ 56 := fun h7 => by
    have lt := pkN_lt (a := fun i => (T (p + i)).toNat) m (fun i hi => by have := hT i hi; show (T (p + i)).toNat < 256; omega)
    have le : 256 ^ m ≤ 256 ^ 7 := Nat.pow_le_pow_right (by decide) h7
    omega
  have lt2 : wcs.getD k 0 < 2 ^ 56 := by
    have lt := pkN_lt (a := wl k) (wlen k) (fun i hi => by have := w4 i hi; omega)
    have le : 256 ^ wlen k ≤ 256 ^ 7 := Nat.pow_le_pow_right (by decide) w2
    omega
  unfold wmB
  constructor
  · rintro ⟨h1, h2, h3⟩
    have l1 := lt1 (by omega)
    rw [wv_pk m (by omega) (fun i hi => by have := hT i hi; omega)] at h3
    have h4 := (jx_eq (by omega) (by omega) (by omega) (by omega)).mp h3
    have h5 : pkN (fun i => (T (p + i)).toNat) m = pkN (wl k) (wlen k) := by omega
    obtain ⟨e1, e2⟩ := pkN_inj m (wlen k) (fun i hi => by have := hT i hi; show 1 ≤ (T (p + i)).toNat ∧ (T (p + i)).toNat < 256; omega) (fun i hi => by have := w4 i hi; omega) h5
    exact decide_eq_true ⟨e1, fun i hi => by have := e2 i hi; have := hT i hi; omega⟩
  · intro h
    obtain ⟨e1, e2⟩ := of_decide_eq_true h
    refine ⟨by omega, by omega, ?_⟩
    rw [wv_pk m (by omega) (fun i hi => by have := hT i hi; omega)]
    have e : pkN (fun i => (T (p + i)).toNat) m = pkN (wl k) m := by
      have key : ∀ j, j ≤ m → pkN (fun i => (T (p + i)).toNat) j = pkN (wl k) j := by
        intro j
        induction j with
        | zero => intro _; rfl
        | succ j ih =>
          intro hj
          show pkN (fun i => (T (p + i)).toNat) j * 256 + (T (p + j)).toNat = pkN (wl k) j * 256 + wl k j
          rw [ih (by omega), e2 j (by omega), Int.toNat_natCast]
      exact key m (Nat.le_refl _)
    rw [e, e1, w3]
/-- words differ -/
theorem wl_ne : ∀ k, k < 21 → ∀ j, j < 21 → wls.getD k [] = wls.getD j [] → k = j := by decide +kernel
theorem wm_one {T : Nat → Int} {p m k j : Nat} (hk : k < 21) (hj : j < 21) (h1 : wmB T p m k = true) (h2 : wmB T p m j = true) : k = j := by
  obtain ⟨a1, a2⟩ := of_decide_eq_true h1
  obtain ⟨b1, b2⟩ := of_decide_eq_true h2
  refine wl_ne k hk j hj ?_
  have hl : (wls.getD k []).length = (wls.getD j []).length := by show wlen k = wlen j; omega
  refine List.ext_getElem hl (fun i h3 h4 => ?_)
  have e1 := a2 i (by show i < m; rw [a1]; exact h3)
  have e2 := b2 i (by show i < m; rw [a1]; exact h3)
  have e3 : wl k i = (wls.getD k [])[i] := by unfold wl; rw [List.getD_eq_getElem?_getD, List.getElem?_eq_getElem h3]; rfl
  have e4 : wl j i = (wls.getD j [])[i] := by unfold wl; rw [List.getD_eq_getElem?_getD, List.getElem?_eq_getElem h4]; rfl
  rw [← e3, ← e4]
  omega
theorem wd_iff {T : Nat → Int} {p m k : Nat} (hk : k < 21) : wmB T p m k = true ↔ wdT T p m = k := by
  unfold wdT
  rcases lst_cases (wmB T p m) 21 with ⟨j, h1, h2, h3, h4⟩ | ⟨h1, h2⟩
  · rw [h4]
    constructor
    · intro h; have := wm_one hk h1 h h2; omega
    · intro h; have : j = k := by omega
      subst this; exact h2
  · rw [h2]
    constructor
    · intro h; rw [h1 k hk] at h; cases h
    · intro h; omega
theorem wd_rng (T : Nat → Int) (p m : Nat) : -1 ≤ wdT T p m ∧ wdT T p m < 21 := lst_rng _ _
/-- at a place: the number of the word that is there, or -1 -/
def wdA (T : Nat → Int) (n p : Nat) : Int := wdT T p (ltE T n p - p)
section XS72
variable {D b k p q s n t : Nat} {f g : Nat → xk_C} {w : Nat × Nat × Nat} {K : Option Value → xk_S → Prop} {R : Md} {x y z : Int} {u v : Int64} {T : Nat → Int}
theorem m_isW (hD : 2 ≤ D) (hT : rT R T n) (h8 : mS R 8 = (p : Nat)) (hp : p ≤ n) (hk : k < 21) (hu : u = jx (wcs.getD k 0 : Nat)) : xk_Cl D 152 [.ref b, .long u] (xm f b R, w) K ↔ K (some (.int (xb (wdA T n (skT T n p) = k)))) (xm f b (sS R 8 (skT T n p : Nat)), w) := by
  rw [m_isWord hD hT h8 hp]
  have hs := sk_rng (T := T) hp
  have hl := (run_rng (T := T) hs.2).2
  have h1 := wm_iff (T := T) (n := n) (p := skT T n p) (m := ltE T n (skT T n p) - skT T n p) hk (fun i hi => reF_all (ltB T n) 400 (skT T n p) (skT T n p + i) (by omega) (by show skT T n p + i < ltE T n (skT T n p); omega))
  have h2 := wd_iff (T := T) (p := skT T n p) (m := ltE T n (skT T n p) - skT T n p) hk
  rw [hu]
  by_cases c : wdA T n (skT T n p) = k
  · rw [xb_t c, xb_t (h1.mpr (h2.mpr c))]
  · rw [xb_f c, xb_f (fun q => c (h2.mp (h1.mp q)))]
theorem m_takesWord (hD : 3 ≤ D) (hT : rT R T n) (h8 : mS R 8 = (p : Nat)) (hp : p ≤ n) (hk : k < 21) (hu : u = jx (wcs.getD k 0 : Nat)) : xk_Cl D 154 [.ref b, .long u] (xm f b R, w) K ↔ K (some (.int (xb (wdA T n (skT T n p) = k)))) (xm f b (sS R 8 (if wdA T n (skT T n p) = k then ltE T n (skT T n p) else skT T n p : Nat)), w) := by
  rw [e154 (by omega)]
  have hs := sk_rng (T := T) hp
  have h8' : mS (sS R 8 (skT T n p : Nat)) 8 = (skT T n p : Nat) := mS_S
  have hT' : rT (sS R 8 (skT T n p : Nat)) T n := hT
  have iw := fun K => m_isW (D := D - 1) (f := f) (b := b) (w := w) (K := K) (by omega) hT h8 hp hk hu
  by_cases c : wdA T n (skT T n p) = k
  · rw [xb_t c, if_pos c]
    simp (disch := omega) only [b154_0, b154_1, b154_2, b154_5, b154_8, b154_9, b154_10, b154_11, b154_14, b154_15, b154_9o, b154_9z, b154_9c, b154_15o, b154_15z, b154_15c, ↓gm_0, ↓gm_1, ↓gm_2, ↓gm_3, ↓gm_4, ↓gm_5, ↓gm_6, ↓gm_7, ↓gm_8, ↓gm_9, ↓gm_10, ↓gm_11, ↓gm_12, ↓gm_13, ↓gm_14, ↓gm_15, ↓gm_16, ↓gm_17, ↓gm_18, ↓gm_19, ↓gm_20, ↓gm_21, ↓gm_22, ↓gm_23, ↓gm_24, ↓gm_25, ↓gm_26, ↓gm_27, ↓gm_28, ↓gm_29, ↓gm_30, ↓gm_31, ↓gm_32, ↓gm_33, ↓gm_34, ↓gm_35, ↓gm_36, ↓gm_37, ↓gm_38, ↓gm_39, ↓gm_40, ↓gm_41, ↓gm_42, ↓gm_43, ↓gm_44, ↓gm_45, ↓gm_46, ↓pm_1, ↓pm_2, ↓pm_8, ↓pm_9, ↓pm_10, ↓pm_11, ↓pm_12, ↓pm_13, ↓pm_14, ↓pm_16, ↓pm_18, ↓pm_21, ↓pm_22, ↓pm_23, ↓pm_24, ↓pm_25, ↓pm_26, ↓pm_28, ↓pm_31, ↓pm_35, ↓pm_36, ↓pm_37, ↓pm_38, ↓pm_40, ↓pm_43, ↓am_0, ↓wm_0, ↓am_3, ↓wm_3, ↓am_4, ↓wm_4, ↓am_5, ↓wm_5, ↓am_6, ↓wm_6, ↓am_7, ↓wm_7, ↓am_15, ↓wm_15, ↓am_17, ↓wm_17, ↓am_19, ↓wm_19, ↓am_20, ↓wm_20, ↓am_27, ↓wm_27, ↓am_29, ↓wm_29, ↓am_30, ↓wm_30, ↓am_32, ↓wm_32, ↓am_33, ↓wm_33, ↓am_34, ↓wm_34, ↓am_39, ↓wm_39, ↓am_41, ↓wm_41, ↓am_42, ↓wm_42, ↓am_44, ↓wm_44, ↓am_45, ↓wm_45, ↓am_46, ↓wm_46, ↓wn_0, ↓wn_46, or_false, false_or, rc_M, List.getElem?_cons_zero, List.getElem?_cons_succ, List.length_cons, List.length_nil, List.set_cons_zero, List.set_cons_succ, true_and, and_true, Option.toList_some, Option.toList_none, List.cons_append, List.nil_append, ↓reduceIte, not_false_eq_true, not_true_eq_false, Nat.reduceAdd, xj0_01, xj1_01, xb_B, xb_True, xb_False, ↓xj_in, xj_nat, Int.toNat_natCast, xj_lt_t, xj_lt_f, xj_le_t, xj_le_f, xj_eq_t, xj_eq_f, xj_lt, xj_le, xj_eq, xj_add, xj_sub, xj_mul, show ¬ xj 1 = xj 0 from by decide, tn_add, tn_mul, tn_sub, Int.toNat_natCast, Int.reduceToNat, mS_S, mS_So, mS_A, mS_J, mA_A, mA_Ao, mA_S, mA_J, mJ_J, mJ_Jo, mJ_S, mJ_A, sS_S, sA_A, sS_A, sS_J, sJ_A, iw, xb_T c, m_passWord _ hT' h8']
  · rw [xb_f c, if_neg c]
    simp (disch := omega) only [b154_0, b154_1, b154_2, b154_5, b154_8, b154_9, b154_10, b154_11, b154_14, b154_15, b154_9o, b154_9z, b154_9c, b154_15o, b154_15z, b154_15c, ↓gm_0, ↓gm_1, ↓gm_2, ↓gm_3, ↓gm_4, ↓gm_5, ↓gm_6, ↓gm_7, ↓gm_8, ↓gm_9, ↓gm_10, ↓gm_11, ↓gm_12, ↓gm_13, ↓gm_14, ↓gm_15, ↓gm_16, ↓gm_17, ↓gm_18, ↓gm_19, ↓gm_20, ↓gm_21, ↓gm_22, ↓gm_23, ↓gm_24, ↓gm_25, ↓gm_26, ↓gm_27, ↓gm_28, ↓gm_29, ↓gm_30, ↓gm_31, ↓gm_32, ↓gm_33, ↓gm_34, ↓gm_35, ↓gm_36, ↓gm_37, ↓gm_38, ↓gm_39, ↓gm_40, ↓gm_41, ↓gm_42, ↓gm_43, ↓gm_44, ↓gm_45, ↓gm_46, ↓pm_1, ↓pm_2, ↓pm_8, ↓pm_9, ↓pm_10, ↓pm_11, ↓pm_12, ↓pm_13, ↓pm_14, ↓pm_16, ↓pm_18, ↓pm_21, ↓pm_22, ↓pm_23, ↓pm_24, ↓pm_25, ↓pm_26, ↓pm_28, ↓pm_31, ↓pm_35, ↓pm_36, ↓pm_37, ↓pm_38, ↓pm_40, ↓pm_43, ↓am_0, ↓wm_0, ↓am_3, ↓wm_3, ↓am_4, ↓wm_4, ↓am_5, ↓wm_5, ↓am_6, ↓wm_6, ↓am_7, ↓wm_7, ↓am_15, ↓wm_15, ↓am_17, ↓wm_17, ↓am_19, ↓wm_19, ↓am_20, ↓wm_20, ↓am_27, ↓wm_27, ↓am_29, ↓wm_29, ↓am_30, ↓wm_30, ↓am_32, ↓wm_32, ↓am_33, ↓wm_33, ↓am_34, ↓wm_34, ↓am_39, ↓wm_39, ↓am_41, ↓wm_41, ↓am_42, ↓wm_42, ↓am_44, ↓wm_44, ↓am_45, ↓wm_45, ↓am_46, ↓wm_46, ↓wn_0, ↓wn_46, or_false, false_or, rc_M, List.getElem?_cons_zero, List.getElem?_cons_succ, List.length_cons, List.length_nil, List.set_cons_zero, List.set_cons_succ, true_and, and_true, Option.toList_some, Option.toList_none, List.cons_append, List.nil_append, ↓reduceIte, not_false_eq_true, not_true_eq_false, Nat.reduceAdd, xj0_01, xj1_01, xb_B, xb_True, xb_False, ↓xj_in, xj_nat, Int.toNat_natCast, xj_lt_t, xj_lt_f, xj_le_t, xj_le_f, xj_eq_t, xj_eq_f, xj_lt, xj_le, xj_eq, xj_add, xj_sub, xj_mul, show ¬ xj 1 = xj 0 from by decide, tn_add, tn_mul, tn_sub, Int.toNat_natCast, Int.reduceToNat, mS_S, mS_So, mS_A, mS_J, mA_A, mA_Ao, mA_S, mA_J, mJ_J, mJ_Jo, mJ_S, mJ_A, sS_S, sA_A, sS_A, sS_J, sJ_A, iw, xb_F c]
theorem m_wordHere (hD : 3 ≤ D) (hT : rT R T n) (h8 : mS R 8 = (p : Nat)) (hp : p ≤ n) : xk_Cl D 156 [.ref b] (xm f b R, w) K ↔ K (some (.int (xj (if wdA T n (skT T n p) < 13 then wdA T n (skT T n p) else -1)))) (xm f b (sS R 8 (skT T n p : Nat)), w) := by
  rw [e156 (by omega)]
  have hs := sk_rng (T := T) hp
  have h8' : mS (sS R 8 (skT T n p : Nat)) 8 = (skT T n p : Nat) := mS_S
  have hT' : rT (sS R 8 (skT T n p : Nat)) T n := hT
  have sk2 : skT T n (skT T n p) = skT T n p := reF_at spB_n (Nat.le_refl _) (fun i h1 h2 => by omega) (reF_end spB_n 400 p (by have := hT.2.1; omega)) 400 (by have := hT.2.1; omega)
  have i0 := fun K => m_isW (D := D - 1) (f := f) (b := b) (w := w) (K := K) (u := 482671093106) (k := 0) (by omega) hT h8 hp (by decide) (by decide)
  have iw : ∀ k, k < 21 → ∀ K, xk_Cl (D - 1) 152 [.ref b, .long (jx (wcs.getD k 0 : Nat))] (xm f b (sS R 8 (skT T n p : Nat)), w) K ↔ K (some (.int (xb (wdA T n (skT T n p) = k)))) (xm f b (sS R 8 (skT T n p : Nat)), w) := fun k hk K => by
    have h := m_isW (D := D - 1) (f := f) (b := b) (w := w) (K := K) (u := jx (wcs.getD k 0 : Nat)) (k := k) (by omega) hT' h8' hs.2 hk rfl
    rw [sk2, sS_S] at h
    exact h
  have wr := wd_rng T (skT T n p) (ltE T n (skT T n p) - skT T n p)
  have wr : -1 ≤ wdA T n (skT T n p) ∧ wdA T n (skT T n p) < 21 := wr
  generalize wdA T n (skT T n p) = wd at *
  have i1 : ∀ K, xk_Cl (D - 1) 152 [.ref b, .long 427020350059] (xm f b (sS R 8 (skT T n p : Nat)), w) K ↔ _ := fun K => iw 1 (by decide) K
  have i2 : ∀ K, xk_Cl (D - 1) 152 [.ref b, .long 32497657166128499] (xm f b (sS R 8 (skT T n p : Nat)), w) K ↔ _ := fun K => iw 2 (by decide) K
  have i3 : ∀ K, xk_Cl (D - 1) 152 [.ref b, .long 6583653] (xm f b (sS R 8 (skT T n p : Nat)), w) K ↔ _ := fun K => iw 3 (by decide) K
  have i4 : ∀ K, xk_Cl (D - 1) 152 [.ref b, .long 512970880104] (xm f b (sS R 8 (skT T n p : Nat)), w) K ↔ _ := fun K => iw 4 (by decide) K
  have i5 : ∀ K, xk_Cl (D - 1) 152 [.ref b, .long 7823737] (xm f b (sS R 8 (skT T n p : Nat)), w) K ↔ _ := fun K => iw 5 (by decide) K
  have i6 : ∀ K, xk_Cl (D - 1) 152 [.ref b, .long 1818584692] (xm f b (sS R 8 (skT T n p : Nat)), w) K ↔ _ := fun K => iw 6 (by decide) K
  have i7 : ∀ K, xk_Cl (D - 1) 152 [.ref b, .long 474147546227] (xm f b (sS R 8 (skT T n p : Nat)), w) K ↔ _ := fun K => iw 7 (by decide) K
  have i8 : ∀ K, xk_Cl (D - 1) 152 [.ref b, .long 422607680115] (xm f b (sS R 8 (skT T n p : Nat)), w) K ↔ _ := fun K => iw 8 (by decide) K
  have i9 : ∀ K, xk_Cl (D - 1) 152 [.ref b, .long 6909547] (xm f b (sS R 8 (skT T n p : Nat)), w) K ↔ _ := fun K => iw 9 (by decide) K
  have i10 : ∀ K, xk_Cl (D - 1) 152 [.ref b, .long 7235938] (xm f b (sS R 8 (skT T n p : Nat)), w) K ↔ _ := fun K => iw 10 (by decide) K
  have i11 : ∀ K, xk_Cl (D - 1) 152 [.ref b, .long 120299592184933] (xm f b (sS R 8 (skT T n p : Nat)), w) K ↔ _ := fun K => iw 11 (by decide) K
  have i12 : ∀ K, xk_Cl (D - 1) 152 [.ref b, .long 108187666181747] (xm f b (sS R 8 (skT T n p : Nat)), w) K ↔ _ := fun K => iw 12 (by decide) K
  have hc : wd = 0 ∨ wd = 1 ∨ wd = 2 ∨ wd = 3 ∨ wd = 4 ∨ wd = 5 ∨ wd = 6 ∨ wd = 7 ∨ wd = 8 ∨ wd = 9 ∨ wd = 10 ∨ wd = 11 ∨ wd = 12 ∨ (wd = -1 ∨ 13 ≤ wd) := by omega
  have n0 : ((0 : Nat) : Int) = 0 := rfl
  have c1 : ((1 : Nat) : Int) = 1 := rfl
  have c2 : ((2 : Nat) : Int) = 2 := rfl
  have c3 : ((3 : Nat) : Int) = 3 := rfl
  have c4 : ((4 : Nat) : Int) = 4 := rfl
  have c5 : ((5 : Nat) : Int) = 5 := rfl
  have c6 : ((6 : Nat) : Int) = 6 := rfl
  have c7 : ((7 : Nat) : Int) = 7 := rfl
  have c8 : ((8 : Nat) : Int) = 8 := rfl
  have c9 : ((9 : Nat) : Int) = 9 := rfl
  have c10 : ((10 : Nat) : Int) = 10 := rfl
  have c11 : ((11 : Nat) : Int) = 11 := rfl
  have c12 : ((12 : Nat) : Int) = 12 := rfl
  rw [n0] at i0
  rw [c1] at i1
  rw [c2] at i2
  rw [c3] at i3
  rw [c4] at i4
  rw [c5] at i5
  rw [c6] at i6
  rw [c7] at i7
  rw [c8] at i8
  rw [c9] at i9
  rw [c10] at i10
  rw [c11] at i11
  rw [c12] at i12
  rcases hc with rfl | rfl | rfl | rfl | rfl | rfl | rfl | rfl | rfl | rfl | rfl | rfl | rfl | hc
  · rw [if_pos (by decide)]
    simp (disch := omega) only [b156_0, b156_1, b156_4, b156_7, b156_10, b156_11, b156_12, b156_13, b156_16, b156_19, b156_22, b156_23, b156_24, b156_25, b156_28, b156_31, b156_34, b156_35, b156_36, b156_37, b156_40, b156_43, b156_46, b156_47, b156_48, b156_49, b156_52, b156_55, b156_58, b156_59, b156_60, b156_61, b156_64, b156_67, b156_70, b156_71, b156_72, b156_73, b156_76, b156_79, b156_82, b156_84, b156_85, b156_86, b156_89, b156_92, b156_95, b156_97, b156_98, b156_99, b156_102, b156_105, b156_108, b156_110, b156_111, b156_112, b156_115, b156_118, b156_121, b156_123, b156_124, b156_125, b156_128, b156_131, b156_134, b156_136, b156_137, b156_138, b156_141, b156_144, b156_147, b156_149, b156_152, b156_153, b156_156, b156_159, b156_162, b156_164, b156_167, b156_168, ↓gm_0, ↓gm_1, ↓gm_2, ↓gm_3, ↓gm_4, ↓gm_5, ↓gm_6, ↓gm_7, ↓gm_8, ↓gm_9, ↓gm_10, ↓gm_11, ↓gm_12, ↓gm_13, ↓gm_14, ↓gm_15, ↓gm_16, ↓gm_17, ↓gm_18, ↓gm_19, ↓gm_20, ↓gm_21, ↓gm_22, ↓gm_23, ↓gm_24, ↓gm_25, ↓gm_26, ↓gm_27, ↓gm_28, ↓gm_29, ↓gm_30, ↓gm_31, ↓gm_32, ↓gm_33, ↓gm_34, ↓gm_35, ↓gm_36, ↓gm_37, ↓gm_38, ↓gm_39, ↓gm_40, ↓gm_41, ↓gm_42, ↓gm_43, ↓gm_44, ↓gm_45, ↓gm_46, ↓pm_1, ↓pm_2, ↓pm_8, ↓pm_9, ↓pm_10, ↓pm_11, ↓pm_12, ↓pm_13, ↓pm_14, ↓pm_16, ↓pm_18, ↓pm_21, ↓pm_22, ↓pm_23, ↓pm_24, ↓pm_25, ↓pm_26, ↓pm_28, ↓pm_31, ↓pm_35, ↓pm_36, ↓pm_37, ↓pm_38, ↓pm_40, ↓pm_43, ↓am_0, ↓wm_0, ↓am_3, ↓wm_3, ↓am_4, ↓wm_4, ↓am_5, ↓wm_5, ↓am_6, ↓wm_6, ↓am_7, ↓wm_7, ↓am_15, ↓wm_15, ↓am_17, ↓wm_17, ↓am_19, ↓wm_19, ↓am_20, ↓wm_20, ↓am_27, ↓wm_27, ↓am_29, ↓wm_29, ↓am_30, ↓wm_30, ↓am_32, ↓wm_32, ↓am_33, ↓wm_33, ↓am_34, ↓wm_34, ↓am_39, ↓wm_39, ↓am_41, ↓wm_41, ↓am_42, ↓wm_42, ↓am_44, ↓wm_44, ↓am_45, ↓wm_45, ↓am_46, ↓wm_46, ↓wn_0, ↓wn_46, or_false, false_or, rc_M, List.getElem?_cons_zero, List.getElem?_cons_succ, List.length_cons, List.length_nil, List.set_cons_zero, List.set_cons_succ, true_and, and_true, Option.toList_some, Option.toList_none, List.cons_append, List.nil_append, ↓reduceIte, not_false_eq_true, not_true_eq_false, Nat.reduceAdd, xj0_01, xj1_01, xb_B, xb_True, xb_False, ↓xj_in, xj_nat, Int.toNat_natCast, xj_lt_t, xj_lt_f, xj_le_t, xj_le_f, xj_eq_t, xj_eq_f, xj_lt, xj_le, xj_eq, xj_add, xj_sub, xj_mul, show ¬ xj 1 = xj 0 from by decide, i0, i1, i2, i3, i4, i5, i6, i7, i8, i9, i10, i11, i12, xb_T, xb_F]
  · rw [if_pos (by decide)]
    simp (disch := omega) only [b156_0, b156_1, b156_4, b156_7, b156_10, b156_11, b156_12, b156_13, b156_16, b156_19, b156_22, b156_23, b156_24, b156_25, b156_28, b156_31, b156_34, b156_35, b156_36, b156_37, b156_40, b156_43, b156_46, b156_47, b156_48, b156_49, b156_52, b156_55, b156_58, b156_59, b156_60, b156_61, b156_64, b156_67, b156_70, b156_71, b156_72, b156_73, b156_76, b156_79, b156_82, b156_84, b156_85, b156_86, b156_89, b156_92, b156_95, b156_97, b156_98, b156_99, b156_102, b156_105, b156_108, b156_110, b156_111, b156_112, b156_115, b156_118, b156_121, b156_123, b156_124, b156_125, b156_128, b156_131, b156_134, b156_136, b156_137, b156_138, b156_141, b156_144, b156_147, b156_149, b156_152, b156_153, b156_156, b156_159, b156_162, b156_164, b156_167, b156_168, ↓gm_0, ↓gm_1, ↓gm_2, ↓gm_3, ↓gm_4, ↓gm_5, ↓gm_6, ↓gm_7, ↓gm_8, ↓gm_9, ↓gm_10, ↓gm_11, ↓gm_12, ↓gm_13, ↓gm_14, ↓gm_15, ↓gm_16, ↓gm_17, ↓gm_18, ↓gm_19, ↓gm_20, ↓gm_21, ↓gm_22, ↓gm_23, ↓gm_24, ↓gm_25, ↓gm_26, ↓gm_27, ↓gm_28, ↓gm_29, ↓gm_30, ↓gm_31, ↓gm_32, ↓gm_33, ↓gm_34, ↓gm_35, ↓gm_36, ↓gm_37, ↓gm_38, ↓gm_39, ↓gm_40, ↓gm_41, ↓gm_42, ↓gm_43, ↓gm_44, ↓gm_45, ↓gm_46, ↓pm_1, ↓pm_2, ↓pm_8, ↓pm_9, ↓pm_10, ↓pm_11, ↓pm_12, ↓pm_13, ↓pm_14, ↓pm_16, ↓pm_18, ↓pm_21, ↓pm_22, ↓pm_23, ↓pm_24, ↓pm_25, ↓pm_26, ↓pm_28, ↓pm_31, ↓pm_35, ↓pm_36, ↓pm_37, ↓pm_38, ↓pm_40, ↓pm_43, ↓am_0, ↓wm_0, ↓am_3, ↓wm_3, ↓am_4, ↓wm_4, ↓am_5, ↓wm_5, ↓am_6, ↓wm_6, ↓am_7, ↓wm_7, ↓am_15, ↓wm_15, ↓am_17, ↓wm_17, ↓am_19, ↓wm_19, ↓am_20, ↓wm_20, ↓am_27, ↓wm_27, ↓am_29, ↓wm_29, ↓am_30, ↓wm_30, ↓am_32, ↓wm_32, ↓am_33, ↓wm_33, ↓am_34, ↓wm_34, ↓am_39, ↓wm_39, ↓am_41, ↓wm_41, ↓am_42, ↓wm_42, ↓am_44, ↓wm_44, ↓am_45, ↓wm_45, ↓am_46, ↓wm_46, ↓wn_0, ↓wn_46, or_false, false_or, rc_M, List.getElem?_cons_zero, List.getElem?_cons_succ, List.length_cons, List.length_nil, List.set_cons_zero, List.set_cons_succ, true_and, and_true, Option.toList_some, Option.toList_none, List.cons_append, List.nil_append, ↓reduceIte, not_false_eq_true, not_true_eq_false, Nat.reduceAdd, xj0_01, xj1_01, xb_B, xb_True, xb_False, ↓xj_in, xj_nat, Int.toNat_natCast, xj_lt_t, xj_lt_f, xj_le_t, xj_le_f, xj_eq_t, xj_eq_f, xj_lt, xj_le, xj_eq, xj_add, xj_sub, xj_mul, show ¬ xj 1 = xj 0 from by decide, i0, i1, i2, i3, i4, i5, i6, i7, i8, i9, i10, i11, i12, show ¬ (1 : Int) = 0 by decide, xb_T, xb_F]
  · rw [if_pos (by decide)]
    simp (disch := omega) only [b156_0, b156_1, b156_4, b156_7, b156_10, b156_11, b156_12, b156_13, b156_16, b156_19, b156_22, b156_23, b156_24, b156_25, b156_28, b156_31, b156_34, b156_35, b156_36, b156_37, b156_40, b156_43, b156_46, b156_47, b156_48, b156_49, b156_52, b156_55, b156_58, b156_59, b156_60, b156_61, b156_64, b156_67, b156_70, b156_71, b156_72, b156_73, b156_76, b156_79, b156_82, b156_84, b156_85, b156_86, b156_89, b156_92, b156_95, b156_97, b156_98, b156_99, b156_102, b156_105, b156_108, b156_110, b156_111, b156_112, b156_115, b156_118, b156_121, b156_123, b156_124, b156_125, b156_128, b156_131, b156_134, b156_136, b156_137, b156_138, b156_141, b156_144, b156_147, b156_149, b156_152, b156_153, b156_156, b156_159, b156_162, b156_164, b156_167, b156_168, ↓gm_0, ↓gm_1, ↓gm_2, ↓gm_3, ↓gm_4, ↓gm_5, ↓gm_6, ↓gm_7, ↓gm_8, ↓gm_9, ↓gm_10, ↓gm_11, ↓gm_12, ↓gm_13, ↓gm_14, ↓gm_15, ↓gm_16, ↓gm_17, ↓gm_18, ↓gm_19, ↓gm_20, ↓gm_21, ↓gm_22, ↓gm_23, ↓gm_24, ↓gm_25, ↓gm_26, ↓gm_27, ↓gm_28, ↓gm_29, ↓gm_30, ↓gm_31, ↓gm_32, ↓gm_33, ↓gm_34, ↓gm_35, ↓gm_36, ↓gm_37, ↓gm_38, ↓gm_39, ↓gm_40, ↓gm_41, ↓gm_42, ↓gm_43, ↓gm_44, ↓gm_45, ↓gm_46, ↓pm_1, ↓pm_2, ↓pm_8, ↓pm_9, ↓pm_10, ↓pm_11, ↓pm_12, ↓pm_13, ↓pm_14, ↓pm_16, ↓pm_18, ↓pm_21, ↓pm_22, ↓pm_23, ↓pm_24, ↓pm_25, ↓pm_26, ↓pm_28, ↓pm_31, ↓pm_35, ↓pm_36, ↓pm_37, ↓pm_38, ↓pm_40, ↓pm_43, ↓am_0, ↓wm_0, ↓am_3, ↓wm_3, ↓am_4, ↓wm_4, ↓am_5, ↓wm_5, ↓am_6, ↓wm_6, ↓am_7, ↓wm_7, ↓am_15, ↓wm_15, ↓am_17, ↓wm_17, ↓am_19, ↓wm_19, ↓am_20, ↓wm_20, ↓am_27, ↓wm_27, ↓am_29, ↓wm_29, ↓am_30, ↓wm_30, ↓am_32, ↓wm_32, ↓am_33, ↓wm_33, ↓am_34, ↓wm_34, ↓am_39, ↓wm_39, ↓am_41, ↓wm_41, ↓am_42, ↓wm_42, ↓am_44, ↓wm_44, ↓am_45, ↓wm_45, ↓am_46, ↓wm_46, ↓wn_0, ↓wn_46, or_false, false_or, rc_M, List.getElem?_cons_zero, List.getElem?_cons_succ, List.length_cons, List.length_nil, List.set_cons_zero, List.set_cons_succ, true_and, and_true, Option.toList_some, Option.toList_none, List.cons_append, List.nil_append, ↓reduceIte, not_false_eq_true, not_true_eq_false, Nat.reduceAdd, xj0_01, xj1_01, xb_B, xb_True, xb_False, ↓xj_in, xj_nat, Int.toNat_natCast, xj_lt_t, xj_lt_f, xj_le_t, xj_le_f, xj_eq_t, xj_eq_f, xj_lt, xj_le, xj_eq, xj_add, xj_sub, xj_mul, show ¬ xj 1 = xj 0 from by decide, i0, i1, i2, i3, i4, i5, i6, i7, i8, i9, i10, i11, i12, show ¬ (2 : Int) = 0 by decide, show ¬ (2 : Int) = 1 by decide, xb_T, xb_F]
  · rw [if_pos (by decide)]
    simp (disch := omega) only [b156_0, b156_1, b156_4, b156_7, b156_10, b156_11, b156_12, b156_13, b156_16, b156_19, b156_22, b156_23, b156_24, b156_25, b156_28, b156_31, b156_34, b156_35, b156_36, b156_37, b156_40, b156_43, b156_46, b156_47, b156_48, b156_49, b156_52, b156_55, b156_58, b156_59, b156_60, b156_61, b156_64, b156_67, b156_70, b156_71, b156_72, b156_73, b156_76, b156_79, b156_82, b156_84, b156_85, b156_86, b156_89, b156_92, b156_95, b156_97, b156_98, b156_99, b156_102, b156_105, b156_108, b156_110, b156_111, b156_112, b156_115, b156_118, b156_121, b156_123, b156_124, b156_125, b156_128, b156_131, b156_134, b156_136, b156_137, b156_138, b156_141, b156_144, b156_147, b156_149, b156_152, b156_153, b156_156, b156_159, b156_162, b156_164, b156_167, b156_168, ↓gm_0, ↓gm_1, ↓gm_2, ↓gm_3, ↓gm_4, ↓gm_5, ↓gm_6, ↓gm_7, ↓gm_8, ↓gm_9, ↓gm_10, ↓gm_11, ↓gm_12, ↓gm_13, ↓gm_14, ↓gm_15, ↓gm_16, ↓gm_17, ↓gm_18, ↓gm_19, ↓gm_20, ↓gm_21, ↓gm_22, ↓gm_23, ↓gm_24, ↓gm_25, ↓gm_26, ↓gm_27, ↓gm_28, ↓gm_29, ↓gm_30, ↓gm_31, ↓gm_32, ↓gm_33, ↓gm_34, ↓gm_35, ↓gm_36, ↓gm_37, ↓gm_38, ↓gm_39, ↓gm_40, ↓gm_41, ↓gm_42, ↓gm_43, ↓gm_44, ↓gm_45, ↓gm_46, ↓pm_1, ↓pm_2, ↓pm_8, ↓pm_9, ↓pm_10, ↓pm_11, ↓pm_12, ↓pm_13, ↓pm_14, ↓pm_16, ↓pm_18, ↓pm_21, ↓pm_22, ↓pm_23, ↓pm_24, ↓pm_25, ↓pm_26, ↓pm_28, ↓pm_31, ↓pm_35, ↓pm_36, ↓pm_37, ↓pm_38, ↓pm_40, ↓pm_43, ↓am_0, ↓wm_0, ↓am_3, ↓wm_3, ↓am_4, ↓wm_4, ↓am_5, ↓wm_5, ↓am_6, ↓wm_6, ↓am_7, ↓wm_7, ↓am_15, ↓wm_15, ↓am_17, ↓wm_17, ↓am_19, ↓wm_19, ↓am_20, ↓wm_20, ↓am_27, ↓wm_27, ↓am_29, ↓wm_29, ↓am_30, ↓wm_30, ↓am_32, ↓wm_32, ↓am_33, ↓wm_33, ↓am_34, ↓wm_34, ↓am_39, ↓wm_39, ↓am_41, ↓wm_41, ↓am_42, ↓wm_42, ↓am_44, ↓wm_44, ↓am_45, ↓wm_45, ↓am_46, ↓wm_46, ↓wn_0, ↓wn_46, or_false, false_or, rc_M, List.getElem?_cons_zero, List.getElem?_cons_succ, List.length_cons, List.length_nil, List.set_cons_zero, List.set_cons_succ, true_and, and_true, Option.toList_some, Option.toList_none, List.cons_append, List.nil_append, ↓reduceIte, not_false_eq_true, not_true_eq_false, Nat.reduceAdd, xj0_01, xj1_01, xb_B, xb_True, xb_False, ↓xj_in, xj_nat, Int.toNat_natCast, xj_lt_t, xj_lt_f, xj_le_t, xj_le_f, xj_eq_t, xj_eq_f, xj_lt, xj_le, xj_eq, xj_add, xj_sub, xj_mul, show ¬ xj 1 = xj 0 from by decide, i0, i1, i2, i3, i4, i5, i6, i7, i8, i9, i10, i11, i12, show ¬ (3 : Int) = 0 by decide, show ¬ (3 : Int) = 1 by decide, show ¬ (3 : Int) = 2 by decide, xb_T, xb_F]
  · rw [if_pos (by decide)]
    simp (disch := omega) only [b156_0, b156_1, b156_4, b156_7, b156_10, b156_11, b156_12, b156_13, b156_16, b156_19, b156_22, b156_23, b156_24, b156_25, b156_28, b156_31, b156_34, b156_35, b156_36, b156_37, b156_40, b156_43, b156_46, b156_47, b156_48, b156_49, b156_52, b156_55, b156_58, b156_59, b156_60, b156_61, b156_64, b156_67, b156_70, b156_71, b156_72, b156_73, b156_76, b156_79, b156_82, b156_84, b156_85, b156_86, b156_89, b156_92, b156_95, b156_97, b156_98, b156_99, b156_102, b156_105, b156_108, b156_110, b156_111, b156_112, b156_115, b156_118, b156_121, b156_123, b156_124, b156_125, b156_128, b156_131, b156_134, b156_136, b156_137, b156_138, b156_141, b156_144, b156_147, b156_149, b156_152, b156_153, b156_156, b156_159, b156_162, b156_164, b156_167, b156_168, ↓gm_0, ↓gm_1, ↓gm_2, ↓gm_3, ↓gm_4, ↓gm_5, ↓gm_6, ↓gm_7, ↓gm_8, ↓gm_9, ↓gm_10, ↓gm_11, ↓gm_12, ↓gm_13, ↓gm_14, ↓gm_15, ↓gm_16, ↓gm_17, ↓gm_18, ↓gm_19, ↓gm_20, ↓gm_21, ↓gm_22, ↓gm_23, ↓gm_24, ↓gm_25, ↓gm_26, ↓gm_27, ↓gm_28, ↓gm_29, ↓gm_30, ↓gm_31, ↓gm_32, ↓gm_33, ↓gm_34, ↓gm_35, ↓gm_36, ↓gm_37, ↓gm_38, ↓gm_39, ↓gm_40, ↓gm_41, ↓gm_42, ↓gm_43, ↓gm_44, ↓gm_45, ↓gm_46, ↓pm_1, ↓pm_2, ↓pm_8, ↓pm_9, ↓pm_10, ↓pm_11, ↓pm_12, ↓pm_13, ↓pm_14, ↓pm_16, ↓pm_18, ↓pm_21, ↓pm_22, ↓pm_23, ↓pm_24, ↓pm_25, ↓pm_26, ↓pm_28, ↓pm_31, ↓pm_35, ↓pm_36, ↓pm_37, ↓pm_38, ↓pm_40, ↓pm_43, ↓am_0, ↓wm_0, ↓am_3, ↓wm_3, ↓am_4, ↓wm_4, ↓am_5, ↓wm_5, ↓am_6, ↓wm_6, ↓am_7, ↓wm_7, ↓am_15, ↓wm_15, ↓am_17, ↓wm_17, ↓am_19, ↓wm_19, ↓am_20, ↓wm_20, ↓am_27, ↓wm_27, ↓am_29, ↓wm_29, ↓am_30, ↓wm_30, ↓am_32, ↓wm_32, ↓am_33, ↓wm_33, ↓am_34, ↓wm_34, ↓am_39, ↓wm_39, ↓am_41, ↓wm_41, ↓am_42, ↓wm_42, ↓am_44, ↓wm_44, ↓am_45, ↓wm_45, ↓am_46, ↓wm_46, ↓wn_0, ↓wn_46, or_false, false_or, rc_M, List.getElem?_cons_zero, List.getElem?_cons_succ, List.length_cons, List.length_nil, List.set_cons_zero, List.set_cons_succ, true_and, and_true, Option.toList_some, Option.toList_none, List.cons_append, List.nil_append, ↓reduceIte, not_false_eq_true, not_true_eq_false, Nat.reduceAdd, xj0_01, xj1_01, xb_B, xb_True, xb_False, ↓xj_in, xj_nat, Int.toNat_natCast, xj_lt_t, xj_lt_f, xj_le_t, xj_le_f, xj_eq_t, xj_eq_f, xj_lt, xj_le, xj_eq, xj_add, xj_sub, xj_mul, show ¬ xj 1 = xj 0 from by decide, i0, i1, i2, i3, i4, i5, i6, i7, i8, i9, i10, i11, i12, show ¬ (4 : Int) = 0 by decide, show ¬ (4 : Int) = 1 by decide, show ¬ (4 : Int) = 2 by decide, show ¬ (4 : Int) = 3 by decide, xb_T, xb_F]
  · rw [if_pos (by decide)]
    simp (disch := omega) only [b156_0, b156_1, b156_4, b156_7, b156_10, b156_11, b156_12, b156_13, b156_16, b156_19, b156_22, b156_23, b156_24, b156_25, b156_28, b156_31, b156_34, b156_35, b156_36, b156_37, b156_40, b156_43, b156_46, b156_47, b156_48, b156_49, b156_52, b156_55, b156_58, b156_59, b156_60, b156_61, b156_64, b156_67, b156_70, b156_71, b156_72, b156_73, b156_76, b156_79, b156_82, b156_84, b156_85, b156_86, b156_89, b156_92, b156_95, b156_97, b156_98, b156_99, b156_102, b156_105, b156_108, b156_110, b156_111, b156_112, b156_115, b156_118, b156_121, b156_123, b156_124, b156_125, b156_128, b156_131, b156_134, b156_136, b156_137, b156_138, b156_141, b156_144, b156_147, b156_149, b156_152, b156_153, b156_156, b156_159, b156_162, b156_164, b156_167, b156_168, ↓gm_0, ↓gm_1, ↓gm_2, ↓gm_3, ↓gm_4, ↓gm_5, ↓gm_6, ↓gm_7, ↓gm_8, ↓gm_9, ↓gm_10, ↓gm_11, ↓gm_12, ↓gm_13, ↓gm_14, ↓gm_15, ↓gm_16, ↓gm_17, ↓gm_18, ↓gm_19, ↓gm_20, ↓gm_21, ↓gm_22, ↓gm_23, ↓gm_24, ↓gm_25, ↓gm_26, ↓gm_27, ↓gm_28, ↓gm_29, ↓gm_30, ↓gm_31, ↓gm_32, ↓gm_33, ↓gm_34, ↓gm_35, ↓gm_36, ↓gm_37, ↓gm_38, ↓gm_39, ↓gm_40, ↓gm_41, ↓gm_42, ↓gm_43, ↓gm_44, ↓gm_45, ↓gm_46, ↓pm_1, ↓pm_2, ↓pm_8, ↓pm_9, ↓pm_10, ↓pm_11, ↓pm_12, ↓pm_13, ↓pm_14, ↓pm_16, ↓pm_18, ↓pm_21, ↓pm_22, ↓pm_23, ↓pm_24, ↓pm_25, ↓pm_26, ↓pm_28, ↓pm_31, ↓pm_35, ↓pm_36, ↓pm_37, ↓pm_38, ↓pm_40, ↓pm_43, ↓am_0, ↓wm_0, ↓am_3, ↓wm_3, ↓am_4, ↓wm_4, ↓am_5, ↓wm_5, ↓am_6, ↓wm_6, ↓am_7, ↓wm_7, ↓am_15, ↓wm_15, ↓am_17, ↓wm_17, ↓am_19, ↓wm_19, ↓am_20, ↓wm_20, ↓am_27, ↓wm_27, ↓am_29, ↓wm_29, ↓am_30, ↓wm_30, ↓am_32, ↓wm_32, ↓am_33, ↓wm_33, ↓am_34, ↓wm_34, ↓am_39, ↓wm_39, ↓am_41, ↓wm_41, ↓am_42, ↓wm_42, ↓am_44, ↓wm_44, ↓am_45, ↓wm_45, ↓am_46, ↓wm_46, ↓wn_0, ↓wn_46, or_false, false_or, rc_M, List.getElem?_cons_zero, List.getElem?_cons_succ, List.length_cons, List.length_nil, List.set_cons_zero, List.set_cons_succ, true_and, and_true, Option.toList_some, Option.toList_none, List.cons_append, List.nil_append, ↓reduceIte, not_false_eq_true, not_true_eq_false, Nat.reduceAdd, xj0_01, xj1_01, xb_B, xb_True, xb_False, ↓xj_in, xj_nat, Int.toNat_natCast, xj_lt_t, xj_lt_f, xj_le_t, xj_le_f, xj_eq_t, xj_eq_f, xj_lt, xj_le, xj_eq, xj_add, xj_sub, xj_mul, show ¬ xj 1 = xj 0 from by decide, i0, i1, i2, i3, i4, i5, i6, i7, i8, i9, i10, i11, i12, show ¬ (5 : Int) = 0 by decide, show ¬ (5 : Int) = 1 by decide, show ¬ (5 : Int) = 2 by decide, show ¬ (5 : Int) = 3 by decide, show ¬ (5 : Int) = 4 by decide, xb_T, xb_F]
  · rw [if_pos (by decide)]
    simp (disch := omega) only [b156_0, b156_1, b156_4, b156_7, b156_10, b156_11, b156_12, b156_13, b156_16, b156_19, b156_22, b156_23, b156_24, b156_25, b156_28, b156_31, b156_34, b156_35, b156_36, b156_37, b156_40, b156_43, b156_46, b156_47, b156_48, b156_49, b156_52, b156_55, b156_58, b156_59, b156_60, b156_61, b156_64, b156_67, b156_70, b156_71, b156_72, b156_73, b156_76, b156_79, b156_82, b156_84, b156_85, b156_86, b156_89, b156_92, b156_95, b156_97, b156_98, b156_99, b156_102, b156_105, b156_108, b156_110, b156_111, b156_112, b156_115, b156_118, b156_121, b156_123, b156_124, b156_125, b156_128, b156_131, b156_134, b156_136, b156_137, b156_138, b156_141, b156_144, b156_147, b156_149, b156_152, b156_153, b156_156, b156_159, b156_162, b156_164, b156_167, b156_168, ↓gm_0, ↓gm_1, ↓gm_2, ↓gm_3, ↓gm_4, ↓gm_5, ↓gm_6, ↓gm_7, ↓gm_8, ↓gm_9, ↓gm_10, ↓gm_11, ↓gm_12, ↓gm_13, ↓gm_14, ↓gm_15, ↓gm_16, ↓gm_17, ↓gm_18, ↓gm_19, ↓gm_20, ↓gm_21, ↓gm_22, ↓gm_23, ↓gm_24, ↓gm_25, ↓gm_26, ↓gm_27, ↓gm_28, ↓gm_29, ↓gm_30, ↓gm_31, ↓gm_32, ↓gm_33, ↓gm_34, ↓gm_35, ↓gm_36, ↓gm_37, ↓gm_38, ↓gm_39, ↓gm_40, ↓gm_41, ↓gm_42, ↓gm_43, ↓gm_44, ↓gm_45, ↓gm_46, ↓pm_1, ↓pm_2, ↓pm_8, ↓pm_9, ↓pm_10, ↓pm_11, ↓pm_12, ↓pm_13, ↓pm_14, ↓pm_16, ↓pm_18, ↓pm_21, ↓pm_22, ↓pm_23, ↓pm_24, ↓pm_25, ↓pm_26, ↓pm_28, ↓pm_31, ↓pm_35, ↓pm_36, ↓pm_37, ↓pm_38, ↓pm_40, ↓pm_43, ↓am_0, ↓wm_0, ↓am_3, ↓wm_3, ↓am_4, ↓wm_4, ↓am_5, ↓wm_5, ↓am_6, ↓wm_6, ↓am_7, ↓wm_7, ↓am_15, ↓wm_15, ↓am_17, ↓wm_17, ↓am_19, ↓wm_19, ↓am_20, ↓wm_20, ↓am_27, ↓wm_27, ↓am_29, ↓wm_29, ↓am_30, ↓wm_30, ↓am_32, ↓wm_32, ↓am_33, ↓wm_33, ↓am_34, ↓wm_34, ↓am_39, ↓wm_39, ↓am_41, ↓wm_41, ↓am_42, ↓wm_42, ↓am_44, ↓wm_44, ↓am_45, ↓wm_45, ↓am_46, ↓wm_46, ↓wn_0, ↓wn_46, or_false, false_or, rc_M, List.getElem?_cons_zero, List.getElem?_cons_succ, List.length_cons, List.length_nil, List.set_cons_zero, List.set_cons_succ, true_and, and_true, Option.toList_some, Option.toList_none, List.cons_append, List.nil_append, ↓reduceIte, not_false_eq_true, not_true_eq_false, Nat.reduceAdd, xj0_01, xj1_01, xb_B, xb_True, xb_False, ↓xj_in, xj_nat, Int.toNat_natCast, xj_lt_t, xj_lt_f, xj_le_t, xj_le_f, xj_eq_t, xj_eq_f, xj_lt, xj_le, xj_eq, xj_add, xj_sub, xj_mul, show ¬ xj 1 = xj 0 from by decide, i0, i1, i2, i3, i4, i5, i6, i7, i8, i9, i10, i11, i12, show ¬ (6 : Int) = 0 by decide, show ¬ (6 : Int) = 1 by decide, show ¬ (6 : Int) = 2 by decide, show ¬ (6 : Int) = 3 by decide, show ¬ (6 : Int) = 4 by decide, show ¬ (6 : Int) = 5 by decide, xb_T, xb_F]
  · rw [if_pos (by decide)]
    simp (disch := omega) only [b156_0, b156_1, b156_4, b156_7, b156_10, b156_11, b156_12, b156_13, b156_16, b156_19, b156_22, b156_23, b156_24, b156_25, b156_28, b156_31, b156_34, b156_35, b156_36, b156_37, b156_40, b156_43, b156_46, b156_47, b156_48, b156_49, b156_52, b156_55, b156_58, b156_59, b156_60, b156_61, b156_64, b156_67, b156_70, b156_71, b156_72, b156_73, b156_76, b156_79, b156_82, b156_84, b156_85, b156_86, b156_89, b156_92, b156_95, b156_97, b156_98, b156_99, b156_102, b156_105, b156_108, b156_110, b156_111, b156_112, b156_115, b156_118, b156_121, b156_123, b156_124, b156_125, b156_128, b156_131, b156_134, b156_136, b156_137, b156_138, b156_141, b156_144, b156_147, b156_149, b156_152, b156_153, b156_156, b156_159, b156_162, b156_164, b156_167, b156_168, ↓gm_0, ↓gm_1, ↓gm_2, ↓gm_3, ↓gm_4, ↓gm_5, ↓gm_6, ↓gm_7, ↓gm_8, ↓gm_9, ↓gm_10, ↓gm_11, ↓gm_12, ↓gm_13, ↓gm_14, ↓gm_15, ↓gm_16, ↓gm_17, ↓gm_18, ↓gm_19, ↓gm_20, ↓gm_21, ↓gm_22, ↓gm_23, ↓gm_24, ↓gm_25, ↓gm_26, ↓gm_27, ↓gm_28, ↓gm_29, ↓gm_30, ↓gm_31, ↓gm_32, ↓gm_33, ↓gm_34, ↓gm_35, ↓gm_36, ↓gm_37, ↓gm_38, ↓gm_39, ↓gm_40, ↓gm_41, ↓gm_42, ↓gm_43, ↓gm_44, ↓gm_45, ↓gm_46, ↓pm_1, ↓pm_2, ↓pm_8, ↓pm_9, ↓pm_10, ↓pm_11, ↓pm_12, ↓pm_13, ↓pm_14, ↓pm_16, ↓pm_18, ↓pm_21, ↓pm_22, ↓pm_23, ↓pm_24, ↓pm_25, ↓pm_26, ↓pm_28, ↓pm_31, ↓pm_35, ↓pm_36, ↓pm_37, ↓pm_38, ↓pm_40, ↓pm_43, ↓am_0, ↓wm_0, ↓am_3, ↓wm_3, ↓am_4, ↓wm_4, ↓am_5, ↓wm_5, ↓am_6, ↓wm_6, ↓am_7, ↓wm_7, ↓am_15, ↓wm_15, ↓am_17, ↓wm_17, ↓am_19, ↓wm_19, ↓am_20, ↓wm_20, ↓am_27, ↓wm_27, ↓am_29, ↓wm_29, ↓am_30, ↓wm_30, ↓am_32, ↓wm_32, ↓am_33, ↓wm_33, ↓am_34, ↓wm_34, ↓am_39, ↓wm_39, ↓am_41, ↓wm_41, ↓am_42, ↓wm_42, ↓am_44, ↓wm_44, ↓am_45, ↓wm_45, ↓am_46, ↓wm_46, ↓wn_0, ↓wn_46, or_false, false_or, rc_M, List.getElem?_cons_zero, List.getElem?_cons_succ, List.length_cons, List.length_nil, List.set_cons_zero, List.set_cons_succ, true_and, and_true, Option.toList_some, Option.toList_none, List.cons_append, List.nil_append, ↓reduceIte, not_false_eq_true, not_true_eq_false, Nat.reduceAdd, xj0_01, xj1_01, xb_B, xb_True, xb_False, ↓xj_in, xj_nat, Int.toNat_natCast, xj_lt_t, xj_lt_f, xj_le_t, xj_le_f, xj_eq_t, xj_eq_f, xj_lt, xj_le, xj_eq, xj_add, xj_sub, xj_mul, show ¬ xj 1 = xj 0 from by decide, i0, i1, i2, i3, i4, i5, i6, i7, i8, i9, i10, i11, i12, show ¬ (7 : Int) = 0 by decide, show ¬ (7 : Int) = 1 by decide, show ¬ (7 : Int) = 2 by decide, show ¬ (7 : Int) = 3 by decide, show ¬ (7 : Int) = 4 by decide, show ¬ (7 : Int) = 5 by decide, show ¬ (7 : Int) = 6 by decide, xb_T, xb_F]
  · rw [if_pos (by decide)]
    simp (disch := omega) only [b156_0, b156_1, b156_4, b156_7, b156_10, b156_11, b156_12, b156_13, b156_16, b156_19, b156_22, b156_23, b156_24, b156_25, b156_28, b156_31, b156_34, b156_35, b156_36, b156_37, b156_40, b156_43, b156_46, b156_47, b156_48, b156_49, b156_52, b156_55, b156_58, b156_59, b156_60, b156_61, b156_64, b156_67, b156_70, b156_71, b156_72, b156_73, b156_76, b156_79, b156_82, b156_84, b156_85, b156_86, b156_89, b156_92, b156_95, b156_97, b156_98, b156_99, b156_102, b156_105, b156_108, b156_110, b156_111, b156_112, b156_115, b156_118, b156_121, b156_123, b156_124, b156_125, b156_128, b156_131, b156_134, b156_136, b156_137, b156_138, b156_141, b156_144, b156_147, b156_149, b156_152, b156_153, b156_156, b156_159, b156_162, b156_164, b156_167, b156_168, ↓gm_0, ↓gm_1, ↓gm_2, ↓gm_3, ↓gm_4, ↓gm_5, ↓gm_6, ↓gm_7, ↓gm_8, ↓gm_9, ↓gm_10, ↓gm_11, ↓gm_12, ↓gm_13, ↓gm_14, ↓gm_15, ↓gm_16, ↓gm_17, ↓gm_18, ↓gm_19, ↓gm_20, ↓gm_21, ↓gm_22, ↓gm_23, ↓gm_24, ↓gm_25, ↓gm_26, ↓gm_27, ↓gm_28, ↓gm_29, ↓gm_30, ↓gm_31, ↓gm_32, ↓gm_33, ↓gm_34, ↓gm_35, ↓gm_36, ↓gm_37, ↓gm_38, ↓gm_39, ↓gm_40, ↓gm_41, ↓gm_42, ↓gm_43, ↓gm_44, ↓gm_45, ↓gm_46, ↓pm_1, ↓pm_2, ↓pm_8, ↓pm_9, ↓pm_10, ↓pm_11, ↓pm_12, ↓pm_13, ↓pm_14, ↓pm_16, ↓pm_18, ↓pm_21, ↓pm_22, ↓pm_23, ↓pm_24, ↓pm_25, ↓pm_26, ↓pm_28, ↓pm_31, ↓pm_35, ↓pm_36, ↓pm_37, ↓pm_38, ↓pm_40, ↓pm_43, ↓am_0, ↓wm_0, ↓am_3, ↓wm_3, ↓am_4, ↓wm_4, ↓am_5, ↓wm_5, ↓am_6, ↓wm_6, ↓am_7, ↓wm_7, ↓am_15, ↓wm_15, ↓am_17, ↓wm_17, ↓am_19, ↓wm_19, ↓am_20, ↓wm_20, ↓am_27, ↓wm_27, ↓am_29, ↓wm_29, ↓am_30, ↓wm_30, ↓am_32, ↓wm_32, ↓am_33, ↓wm_33, ↓am_34, ↓wm_34, ↓am_39, ↓wm_39, ↓am_41, ↓wm_41, ↓am_42, ↓wm_42, ↓am_44, ↓wm_44, ↓am_45, ↓wm_45, ↓am_46, ↓wm_46, ↓wn_0, ↓wn_46, or_false, false_or, rc_M, List.getElem?_cons_zero, List.getElem?_cons_succ, List.length_cons, List.length_nil, List.set_cons_zero, List.set_cons_succ, true_and, and_true, Option.toList_some, Option.toList_none, List.cons_append, List.nil_append, ↓reduceIte, not_false_eq_true, not_true_eq_false, Nat.reduceAdd, xj0_01, xj1_01, xb_B, xb_True, xb_False, ↓xj_in, xj_nat, Int.toNat_natCast, xj_lt_t, xj_lt_f, xj_le_t, xj_le_f, xj_eq_t, xj_eq_f, xj_lt, xj_le, xj_eq, xj_add, xj_sub, xj_mul, show ¬ xj 1 = xj 0 from by decide, i0, i1, i2, i3, i4, i5, i6, i7, i8, i9, i10, i11, i12, show ¬ (8 : Int) = 0 by decide, show ¬ (8 : Int) = 1 by decide, show ¬ (8 : Int) = 2 by decide, show ¬ (8 : Int) = 3 by decide, show ¬ (8 : Int) = 4 by decide, show ¬ (8 : Int) = 5 by decide, show ¬ (8 : Int) = 6 by decide, show ¬ (8 : Int) = 7 by decide, xb_T, xb_F]
  · rw [if_pos (by decide)]
    simp (disch := omega) only [b156_0, b156_1, b156_4, b156_7, b156_10, b156_11, b156_12, b156_13, b156_16, b156_19, b156_22, b156_23, b156_24, b156_25, b156_28, b156_31, b156_34, b156_35, b156_36, b156_37, b156_40, b156_43, b156_46, b156_47, b156_48, b156_49, b156_52, b156_55, b156_58, b156_59, b156_60, b156_61, b156_64, b156_67, b156_70, b156_71, b156_72, b156_73, b156_76, b156_79, b156_82, b156_84, b156_85, b156_86, b156_89, b156_92, b156_95, b156_97, b156_98, b156_99, b156_102, b156_105, b156_108, b156_110, b156_111, b156_112, b156_115, b156_118, b156_121, b156_123, b156_124, b156_125, b156_128, b156_131, b156_134, b156_136, b156_137, b156_138, b156_141, b156_144, b156_147, b156_149, b156_152, b156_153, b156_156, b156_159, b156_162, b156_164, b156_167, b156_168, ↓gm_0, ↓gm_1, ↓gm_2, ↓gm_3, ↓gm_4, ↓gm_5, ↓gm_6, ↓gm_7, ↓gm_8, ↓gm_9, ↓gm_10, ↓gm_11, ↓gm_12, ↓gm_13, ↓gm_14, ↓gm_15, ↓gm_16, ↓gm_17, ↓gm_18, ↓gm_19, ↓gm_20, ↓gm_21, ↓gm_22, ↓gm_23, ↓gm_24, ↓gm_25, ↓gm_26, ↓gm_27, ↓gm_28, ↓gm_29, ↓gm_30, ↓gm_31, ↓gm_32, ↓gm_33, ↓gm_34, ↓gm_35, ↓gm_36, ↓gm_37, ↓gm_38, ↓gm_39, ↓gm_40, ↓gm_41, ↓gm_42, ↓gm_43, ↓gm_44, ↓gm_45, ↓gm_46, ↓pm_1, ↓pm_2, ↓pm_8, ↓pm_9, ↓pm_10, ↓pm_11, ↓pm_12, ↓pm_13, ↓pm_14, ↓pm_16, ↓pm_18, ↓pm_21, ↓pm_22, ↓pm_23, ↓pm_24, ↓pm_25, ↓pm_26, ↓pm_28, ↓pm_31, ↓pm_35, ↓pm_36, ↓pm_37, ↓pm_38, ↓pm_40, ↓pm_43, ↓am_0, ↓wm_0, ↓am_3, ↓wm_3, ↓am_4, ↓wm_4, ↓am_5, ↓wm_5, ↓am_6, ↓wm_6, ↓am_7, ↓wm_7, ↓am_15, ↓wm_15, ↓am_17, ↓wm_17, ↓am_19, ↓wm_19, ↓am_20, ↓wm_20, ↓am_27, ↓wm_27, ↓am_29, ↓wm_29, ↓am_30, ↓wm_30, ↓am_32, ↓wm_32, ↓am_33, ↓wm_33, ↓am_34, ↓wm_34, ↓am_39, ↓wm_39, ↓am_41, ↓wm_41, ↓am_42, ↓wm_42, ↓am_44, ↓wm_44, ↓am_45, ↓wm_45, ↓am_46, ↓wm_46, ↓wn_0, ↓wn_46, or_false, false_or, rc_M, List.getElem?_cons_zero, List.getElem?_cons_succ, List.length_cons, List.length_nil, List.set_cons_zero, List.set_cons_succ, true_and, and_true, Option.toList_some, Option.toList_none, List.cons_append, List.nil_append, ↓reduceIte, not_false_eq_true, not_true_eq_false, Nat.reduceAdd, xj0_01, xj1_01, xb_B, xb_True, xb_False, ↓xj_in, xj_nat, Int.toNat_natCast, xj_lt_t, xj_lt_f, xj_le_t, xj_le_f, xj_eq_t, xj_eq_f, xj_lt, xj_le, xj_eq, xj_add, xj_sub, xj_mul, show ¬ xj 1 = xj 0 from by decide, i0, i1, i2, i3, i4, i5, i6, i7, i8, i9, i10, i11, i12, show ¬ (9 : Int) = 0 by decide, show ¬ (9 : Int) = 1 by decide, show ¬ (9 : Int) = 2 by decide, show ¬ (9 : Int) = 3 by decide, show ¬ (9 : Int) = 4 by decide, show ¬ (9 : Int) = 5 by decide, show ¬ (9 : Int) = 6 by decide, show ¬ (9 : Int) = 7 by decide, show ¬ (9 : Int) = 8 by decide, xb_T, xb_F]
  · rw [if_pos (by decide)]
    simp (disch := omega) only [b156_0, b156_1, b156_4, b156_7, b156_10, b156_11, b156_12, b156_13, b156_16, b156_19, b156_22, b156_23, b156_24, b156_25, b156_28, b156_31, b156_34, b156_35, b156_36, b156_37, b156_40, b156_43, b156_46, b156_47, b156_48, b156_49, b156_52, b156_55, b156_58, b156_59, b156_60, b156_61, b156_64, b156_67, b156_70, b156_71, b156_72, b156_73, b156_76, b156_79, b156_82, b156_84, b156_85, b156_86, b156_89, b156_92, b156_95, b156_97, b156_98, b156_99, b156_102, b156_105, b156_108, b156_110, b156_111, b156_112, b156_115, b156_118, b156_121, b156_123, b156_124, b156_125, b156_128, b156_131, b156_134, b156_136, b156_137, b156_138, b156_141, b156_144, b156_147, b156_149, b156_152, b156_153, b156_156, b156_159, b156_162, b156_164, b156_167, b156_168, ↓gm_0, ↓gm_1, ↓gm_2, ↓gm_3, ↓gm_4, ↓gm_5, ↓gm_6, ↓gm_7, ↓gm_8, ↓gm_9, ↓gm_10, ↓gm_11, ↓gm_12, ↓gm_13, ↓gm_14, ↓gm_15, ↓gm_16, ↓gm_17, ↓gm_18, ↓gm_19, ↓gm_20, ↓gm_21, ↓gm_22, ↓gm_23, ↓gm_24, ↓gm_25, ↓gm_26, ↓gm_27, ↓gm_28, ↓gm_29, ↓gm_30, ↓gm_31, ↓gm_32, ↓gm_33, ↓gm_34, ↓gm_35, ↓gm_36, ↓gm_37, ↓gm_38, ↓gm_39, ↓gm_40, ↓gm_41, ↓gm_42, ↓gm_43, ↓gm_44, ↓gm_45, ↓gm_46, ↓pm_1, ↓pm_2, ↓pm_8, ↓pm_9, ↓pm_10, ↓pm_11, ↓pm_12, ↓pm_13, ↓pm_14, ↓pm_16, ↓pm_18, ↓pm_21, ↓pm_22, ↓pm_23, ↓pm_24, ↓pm_25, ↓pm_26, ↓pm_28, ↓pm_31, ↓pm_35, ↓pm_36, ↓pm_37, ↓pm_38, ↓pm_40, ↓pm_43, ↓am_0, ↓wm_0, ↓am_3, ↓wm_3, ↓am_4, ↓wm_4, ↓am_5, ↓wm_5, ↓am_6, ↓wm_6, ↓am_7, ↓wm_7, ↓am_15, ↓wm_15, ↓am_17, ↓wm_17, ↓am_19, ↓wm_19, ↓am_20, ↓wm_20, ↓am_27, ↓wm_27, ↓am_29, ↓wm_29, ↓am_30, ↓wm_30, ↓am_32, ↓wm_32, ↓am_33, ↓wm_33, ↓am_34, ↓wm_34, ↓am_39, ↓wm_39, ↓am_41, ↓wm_41, ↓am_42, ↓wm_42, ↓am_44, ↓wm_44, ↓am_45, ↓wm_45, ↓am_46, ↓wm_46, ↓wn_0, ↓wn_46, or_false, false_or, rc_M, List.getElem?_cons_zero, List.getElem?_cons_succ, List.length_cons, List.length_nil, List.set_cons_zero, List.set_cons_succ, true_and, and_true, Option.toList_some, Option.toList_none, List.cons_append, List.nil_append, ↓reduceIte, not_false_eq_true, not_true_eq_false, Nat.reduceAdd, xj0_01, xj1_01, xb_B, xb_True, xb_False, ↓xj_in, xj_nat, Int.toNat_natCast, xj_lt_t, xj_lt_f, xj_le_t, xj_le_f, xj_eq_t, xj_eq_f, xj_lt, xj_le, xj_eq, xj_add, xj_sub, xj_mul, show ¬ xj 1 = xj 0 from by decide, i0, i1, i2, i3, i4, i5, i6, i7, i8, i9, i10, i11, i12, show ¬ (10 : Int) = 0 by decide, show ¬ (10 : Int) = 1 by decide, show ¬ (10 : Int) = 2 by decide, show ¬ (10 : Int) = 3 by decide, show ¬ (10 : Int) = 4 by decide, show ¬ (10 : Int) = 5 by decide, show ¬ (10 : Int) = 6 by decide, show ¬ (10 : Int) = 7 by decide, show ¬ (10 : Int) = 8 by decide, show ¬ (10 : Int) = 9 by decide, xb_T, xb_F]
  · rw [if_pos (by decide)]
    simp (disch := omega) only [b156_0, b156_1, b156_4, b156_7, b156_10, b156_11, b156_12, b156_13, b156_16, b156_19, b156_22, b156_23, b156_24, b156_25, b156_28, b156_31, b156_34, b156_35, b156_36, b156_37, b156_40, b156_43, b156_46, b156_47, b156_48, b156_49, b156_52, b156_55, b156_58, b156_59, b156_60, b156_61, b156_64, b156_67, b156_70, b156_71, b156_72, b156_73, b156_76, b156_79, b156_82, b156_84, b156_85, b156_86, b156_89, b156_92, b156_95, b156_97, b156_98, b156_99, b156_102, b156_105, b156_108, b156_110, b156_111, b156_112, b156_115, b156_118, b156_121, b156_123, b156_124, b156_125, b156_128, b156_131, b156_134, b156_136, b156_137, b156_138, b156_141, b156_144, b156_147, b156_149, b156_152, b156_153, b156_156, b156_159, b156_162, b156_164, b156_167, b156_168, ↓gm_0, ↓gm_1, ↓gm_2, ↓gm_3, ↓gm_4, ↓gm_5, ↓gm_6, ↓gm_7, ↓gm_8, ↓gm_9, ↓gm_10, ↓gm_11, ↓gm_12, ↓gm_13, ↓gm_14, ↓gm_15, ↓gm_16, ↓gm_17, ↓gm_18, ↓gm_19, ↓gm_20, ↓gm_21, ↓gm_22, ↓gm_23, ↓gm_24, ↓gm_25, ↓gm_26, ↓gm_27, ↓gm_28, ↓gm_29, ↓gm_30, ↓gm_31, ↓gm_32, ↓gm_33, ↓gm_34, ↓gm_35, ↓gm_36, ↓gm_37, ↓gm_38, ↓gm_39, ↓gm_40, ↓gm_41, ↓gm_42, ↓gm_43, ↓gm_44, ↓gm_45, ↓gm_46, ↓pm_1, ↓pm_2, ↓pm_8, ↓pm_9, ↓pm_10, ↓pm_11, ↓pm_12, ↓pm_13, ↓pm_14, ↓pm_16, ↓pm_18, ↓pm_21, ↓pm_22, ↓pm_23, ↓pm_24, ↓pm_25, ↓pm_26, ↓pm_28, ↓pm_31, ↓pm_35, ↓pm_36, ↓pm_37, ↓pm_38, ↓pm_40, ↓pm_43, ↓am_0, ↓wm_0, ↓am_3, ↓wm_3, ↓am_4, ↓wm_4, ↓am_5, ↓wm_5, ↓am_6, ↓wm_6, ↓am_7, ↓wm_7, ↓am_15, ↓wm_15, ↓am_17, ↓wm_17, ↓am_19, ↓wm_19, ↓am_20, ↓wm_20, ↓am_27, ↓wm_27, ↓am_29, ↓wm_29, ↓am_30, ↓wm_30, ↓am_32, ↓wm_32, ↓am_33, ↓wm_33, ↓am_34, ↓wm_34, ↓am_39, ↓wm_39, ↓am_41, ↓wm_41, ↓am_42, ↓wm_42, ↓am_44, ↓wm_44, ↓am_45, ↓wm_45, ↓am_46, ↓wm_46, ↓wn_0, ↓wn_46, or_false, false_or, rc_M, List.getElem?_cons_zero, List.getElem?_cons_succ, List.length_cons, List.length_nil, List.set_cons_zero, List.set_cons_succ, true_and, and_true, Option.toList_some, Option.toList_none, List.cons_append, List.nil_append, ↓reduceIte, not_false_eq_true, not_true_eq_false, Nat.reduceAdd, xj0_01, xj1_01, xb_B, xb_True, xb_False, ↓xj_in, xj_nat, Int.toNat_natCast, xj_lt_t, xj_lt_f, xj_le_t, xj_le_f, xj_eq_t, xj_eq_f, xj_lt, xj_le, xj_eq, xj_add, xj_sub, xj_mul, show ¬ xj 1 = xj 0 from by decide, i0, i1, i2, i3, i4, i5, i6, i7, i8, i9, i10, i11, i12, show ¬ (11 : Int) = 0 by decide, show ¬ (11 : Int) = 1 by decide, show ¬ (11 : Int) = 2 by decide, show ¬ (11 : Int) = 3 by decide, show ¬ (11 : Int) = 4 by decide, show ¬ (11 : Int) = 5 by decide, show ¬ (11 : Int) = 6 by decide, show ¬ (11 : Int) = 7 by decide, show ¬ (11 : Int) = 8 by decide, show ¬ (11 : Int) = 9 by decide, show ¬ (11 : Int) = 10 by decide, xb_T, xb_F]
  · rw [if_pos (by decide)]
    simp (disch := omega) only [b156_0, b156_1, b156_4, b156_7, b156_10, b156_11, b156_12, b156_13, b156_16, b156_19, b156_22, b156_23, b156_24, b156_25, b156_28, b156_31, b156_34, b156_35, b156_36, b156_37, b156_40, b156_43, b156_46, b156_47, b156_48, b156_49, b156_52, b156_55, b156_58, b156_59, b156_60, b156_61, b156_64, b156_67, b156_70, b156_71, b156_72, b156_73, b156_76, b156_79, b156_82, b156_84, b156_85, b156_86, b156_89, b156_92, b156_95, b156_97, b156_98, b156_99, b156_102, b156_105, b156_108, b156_110, b156_111, b156_112, b156_115, b156_118, b156_121, b156_123, b156_124, b156_125, b156_128, b156_131, b156_134, b156_136, b156_137, b156_138, b156_141, b156_144, b156_147, b156_149, b156_152, b156_153, b156_156, b156_159, b156_162, b156_164, b156_167, b156_168, ↓gm_0, ↓gm_1, ↓gm_2, ↓gm_3, ↓gm_4, ↓gm_5, ↓gm_6, ↓gm_7, ↓gm_8, ↓gm_9, ↓gm_10, ↓gm_11, ↓gm_12, ↓gm_13, ↓gm_14, ↓gm_15, ↓gm_16, ↓gm_17, ↓gm_18, ↓gm_19, ↓gm_20, ↓gm_21, ↓gm_22, ↓gm_23, ↓gm_24, ↓gm_25, ↓gm_26, ↓gm_27, ↓gm_28, ↓gm_29, ↓gm_30, ↓gm_31, ↓gm_32, ↓gm_33, ↓gm_34, ↓gm_35, ↓gm_36, ↓gm_37, ↓gm_38, ↓gm_39, ↓gm_40, ↓gm_41, ↓gm_42, ↓gm_43, ↓gm_44, ↓gm_45, ↓gm_46, ↓pm_1, ↓pm_2, ↓pm_8, ↓pm_9, ↓pm_10, ↓pm_11, ↓pm_12, ↓pm_13, ↓pm_14, ↓pm_16, ↓pm_18, ↓pm_21, ↓pm_22, ↓pm_23, ↓pm_24, ↓pm_25, ↓pm_26, ↓pm_28, ↓pm_31, ↓pm_35, ↓pm_36, ↓pm_37, ↓pm_38, ↓pm_40, ↓pm_43, ↓am_0, ↓wm_0, ↓am_3, ↓wm_3, ↓am_4, ↓wm_4, ↓am_5, ↓wm_5, ↓am_6, ↓wm_6, ↓am_7, ↓wm_7, ↓am_15, ↓wm_15, ↓am_17, ↓wm_17, ↓am_19, ↓wm_19, ↓am_20, ↓wm_20, ↓am_27, ↓wm_27, ↓am_29, ↓wm_29, ↓am_30, ↓wm_30, ↓am_32, ↓wm_32, ↓am_33, ↓wm_33, ↓am_34, ↓wm_34, ↓am_39, ↓wm_39, ↓am_41, ↓wm_41, ↓am_42, ↓wm_42, ↓am_44, ↓wm_44, ↓am_45, ↓wm_45, ↓am_46, ↓wm_46, ↓wn_0, ↓wn_46, or_false, false_or, rc_M, List.getElem?_cons_zero, List.getElem?_cons_succ, List.length_cons, List.length_nil, List.set_cons_zero, List.set_cons_succ, true_and, and_true, Option.toList_some, Option.toList_none, List.cons_append, List.nil_append, ↓reduceIte, not_false_eq_true, not_true_eq_false, Nat.reduceAdd, xj0_01, xj1_01, xb_B, xb_True, xb_False, ↓xj_in, xj_nat, Int.toNat_natCast, xj_lt_t, xj_lt_f, xj_le_t, xj_le_f, xj_eq_t, xj_eq_f, xj_lt, xj_le, xj_eq, xj_add, xj_sub, xj_mul, show ¬ xj 1 = xj 0 from by decide, i0, i1, i2, i3, i4, i5, i6, i7, i8, i9, i10, i11, i12, show ¬ (12 : Int) = 0 by decide, show ¬ (12 : Int) = 1 by decide, show ¬ (12 : Int) = 2 by decide, show ¬ (12 : Int) = 3 by decide, show ¬ (12 : Int) = 4 by decide, show ¬ (12 : Int) = 5 by decide, show ¬ (12 : Int) = 6 by decide, show ¬ (12 : Int) = 7 by decide, show ¬ (12 : Int) = 8 by decide, show ¬ (12 : Int) = 9 by decide, show ¬ (12 : Int) = 10 by decide, show ¬ (12 : Int) = 11 by decide, xb_T, xb_F]
  · have e : (if wd < 13 then wd else -1) = -1 := by split <;> omega
    rw [e]
    have h0 : ¬ wd = 0 := by omega
    have h1 : ¬ wd = 1 := by omega
    have h2 : ¬ wd = 2 := by omega
    have h3 : ¬ wd = 3 := by omega
    have h4 : ¬ wd = 4 := by omega
    have h5 : ¬ wd = 5 := by omega
    have h6 : ¬ wd = 6 := by omega
    have h7 : ¬ wd = 7 := by omega
    have h8 : ¬ wd = 8 := by omega
    have h9 : ¬ wd = 9 := by omega
    have h10 : ¬ wd = 10 := by omega
    have h11 : ¬ wd = 11 := by omega
    have h12 : ¬ wd = 12 := by omega
    simp (disch := omega) only [b156_0, b156_1, b156_4, b156_7, b156_10, b156_11, b156_12, b156_13, b156_16, b156_19, b156_22, b156_23, b156_24, b156_25, b156_28, b156_31, b156_34, b156_35, b156_36, b156_37, b156_40, b156_43, b156_46, b156_47, b156_48, b156_49, b156_52, b156_55, b156_58, b156_59, b156_60, b156_61, b156_64, b156_67, b156_70, b156_71, b156_72, b156_73, b156_76, b156_79, b156_82, b156_84, b156_85, b156_86, b156_89, b156_92, b156_95, b156_97, b156_98, b156_99, b156_102, b156_105, b156_108, b156_110, b156_111, b156_112, b156_115, b156_118, b156_121, b156_123, b156_124, b156_125, b156_128, b156_131, b156_134, b156_136, b156_137, b156_138, b156_141, b156_144, b156_147, b156_149, b156_152, b156_153, b156_156, b156_159, b156_162, b156_164, b156_167, b156_168, ↓gm_0, ↓gm_1, ↓gm_2, ↓gm_3, ↓gm_4, ↓gm_5, ↓gm_6, ↓gm_7, ↓gm_8, ↓gm_9, ↓gm_10, ↓gm_11, ↓gm_12, ↓gm_13, ↓gm_14, ↓gm_15, ↓gm_16, ↓gm_17, ↓gm_18, ↓gm_19, ↓gm_20, ↓gm_21, ↓gm_22, ↓gm_23, ↓gm_24, ↓gm_25, ↓gm_26, ↓gm_27, ↓gm_28, ↓gm_29, ↓gm_30, ↓gm_31, ↓gm_32, ↓gm_33, ↓gm_34, ↓gm_35, ↓gm_36, ↓gm_37, ↓gm_38, ↓gm_39, ↓gm_40, ↓gm_41, ↓gm_42, ↓gm_43, ↓gm_44, ↓gm_45, ↓gm_46, ↓pm_1, ↓pm_2, ↓pm_8, ↓pm_9, ↓pm_10, ↓pm_11, ↓pm_12, ↓pm_13, ↓pm_14, ↓pm_16, ↓pm_18, ↓pm_21, ↓pm_22, ↓pm_23, ↓pm_24, ↓pm_25, ↓pm_26, ↓pm_28, ↓pm_31, ↓pm_35, ↓pm_36, ↓pm_37, ↓pm_38, ↓pm_40, ↓pm_43, ↓am_0, ↓wm_0, ↓am_3, ↓wm_3, ↓am_4, ↓wm_4, ↓am_5, ↓wm_5, ↓am_6, ↓wm_6, ↓am_7, ↓wm_7, ↓am_15, ↓wm_15, ↓am_17, ↓wm_17, ↓am_19, ↓wm_19, ↓am_20, ↓wm_20, ↓am_27, ↓wm_27, ↓am_29, ↓wm_29, ↓am_30, ↓wm_30, ↓am_32, ↓wm_32, ↓am_33, ↓wm_33, ↓am_34, ↓wm_34, ↓am_39, ↓wm_39, ↓am_41, ↓wm_41, ↓am_42, ↓wm_42, ↓am_44, ↓wm_44, ↓am_45, ↓wm_45, ↓am_46, ↓wm_46, ↓wn_0, ↓wn_46, or_false, false_or, rc_M, List.getElem?_cons_zero, List.getElem?_cons_succ, List.length_cons, List.length_nil, List.set_cons_zero, List.set_cons_succ, true_and, and_true, Option.toList_some, Option.toList_none, List.cons_append, List.nil_append, ↓reduceIte, not_false_eq_true, not_true_eq_false, Nat.reduceAdd, xj0_01, xj1_01, xb_B, xb_True, xb_False, ↓xj_in, xj_nat, Int.toNat_natCast, xj_lt_t, xj_lt_f, xj_le_t, xj_le_f, xj_eq_t, xj_eq_f, xj_lt, xj_le, xj_eq, xj_add, xj_sub, xj_mul, show ¬ xj 1 = xj 0 from by decide, i0, i1, i2, i3, i4, i5, i6, i7, i8, i9, i10, i11, i12, h0, h1, h2, h3, h4, h5, h6, h7, h8, h9, h10, h11, h12, xb_F]
end XS72
