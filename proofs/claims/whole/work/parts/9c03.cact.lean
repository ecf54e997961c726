/-! the acts: both sides do alike -/
theorem hist_push {H : Hi} {d : Dy} (hH : xw_Hi H) (j : Nat) (hj : j < (pushHi H d).2.1) : hist (pushHi H d) j = pushH H.2.1 (hist H) d j := by
  obtain ⟨h1, h2, h3⟩ := hH
  have e1 : (pushHi H d).2.1 = min (H.2.1 + 1) 20 := rfl
  have e2 : hist (pushHi H d) j = (if ((H.1 + 1) % 20 + 20 - min (H.2.1 + 1) 20 + j) % 20 = H.1 then d else H.2.2 (((H.1 + 1) % 20 + 20 - min (H.2.1 + 1) 20 + j) % 20)) := rfl
  rw [e2]
  unfold pushH hist
  by_cases c : H.2.1 = 20
  · rw [if_pos c]
    by_cases c2 : j < 19
    · rw [if_pos c2, if_neg (by omega)]
      exact congrArg H.2.2 (by omega)
    · rw [if_neg c2, if_pos (by omega)]
  · rw [if_neg c]
    by_cases c2 : j < H.2.1
    · rw [if_pos c2, if_neg (by omega)]
      exact congrArg H.2.2 (by omega)
    · rw [if_neg c2, if_pos (by omega)]
theorem hist_pop {H : Hi} (hH : xw_Hi H) (h0 : 0 < H.2.1) (j : Nat) (hj : j < H.2.1 - 1) : hist (popHi H) j = hist H j := by
  obtain ⟨h1, h2, h3⟩ := hH
  show H.2.2 ((popH H + 20 - (H.2.1 - 1) + j) % 20) = H.2.2 ((H.1 + 20 - H.2.1 + j) % 20)
  unfold popH
  exact congrArg H.2.2 (by omega)
theorem hist_top {H : Hi} (hH : xw_Hi H) (h0 : 0 < H.2.1) : hist H (H.2.1 - 1) = H.2.2 (popH H) := by
  obtain ⟨h1, h2, h3⟩ := hH
  show H.2.2 ((H.1 + 20 - H.2.1 + (H.2.1 - 1)) % 20) = _
  unfold popH
  exact congrArg H.2.2 (by omega)
theorem rH_cg {R : Md} {O : Of} {n : Nat} {H H' : Nat → Dy} (e : ∀ j, j < n → H' j = H j) (h : rH R O n H) : rH R O n H' := ⟨h.1, h.2.1, fun j hj => by rw [e j hj]; exact h.2.2 j hj⟩
section XS9c03
variable {D a b n nr p k : Nat} {f : Nat → xk_C} {w : Nat × Nat × Nat} {T : Nat → Int} {ru : Nat → Ru} {S : Dk} {H : Hi} {im : Nat → Int} {I : Nat → Dk} {R R0 R1 : Md} {d : Dy} {x y z : Int}
theorem pX_act (ht : of_told S.1 = 1) (h : pX n nr T ru S H im I) (hd : xw_Day S.1 d) (hz : xz_Day d) (hv : DW S.1 d) : pX n nr T ru (dkD S d) (pushHi H S.2.1) im I := by
  obtain ⟨h1, h2, h3, ⟨⟨w1, w2, w3, w4, w5⟩, v1, v2⟩, h5, h6, h7, h8, h9⟩ := h
  refine ⟨h1, h2, h3, ⟨⟨w1, w2, hd, hz, w5⟩, hv.1, v2⟩, hv, xw_pushHi h6 w4, fun j hj => ?_, h8, h9.1, fun q => absurd ht q⟩
  show DW S.1 _
  rw [hist_push h6 j hj]
  have hj2 : j < min (H.2.1 + 1) 20 := hj
  have h20 := h6.2.1
  unfold pushH
  by_cases c : H.2.1 = 20
  · rw [if_pos c]
    show DW S.1 (if j < 19 then hist H (j + 1) else S.2.1)
    split
    · exact h7 _ (by omega)
    · exact h5
  · rw [if_neg c]
    show DW S.1 (if j < H.2.1 then hist H j else S.2.1)
    split
    · exact h7 _ (by omega)
    · exact h5
theorem rM_act (ht : of_told S.1 = 1) (h : rM R n nr T ru S H im I) (hH : xw_Hi H) (hL : S.2.2.1.1 ≤ 10) (f0 : frT R R0) (hk0 : rK R0 S.1 S.2.1) (hk1 : rK R1 S.1 d) (fs : ∀ j, mS R1 j = mS (keepR R0 H.2.1) j) (fa : ∀ j, j ≠ 20 → mA R1 j = mA (keepR R0 H.2.1) j) (f20 : ∀ i, 32 ≤ i → mA R1 20 i = mA R0 20 i) : rM R1 n nr T ru (dkD S d) (pushHi H S.2.1) im I := by
  obtain ⟨h1, h2, h3, h4, h5, h6, h7, h8, h9⟩ := rM_frT h hL f0 (by rw [mD_1 ht]; exact hk0)
  refine ⟨rT_ext ((fs 1).trans (kp_S _ _ (by decide))) ((fa 0 (by decide)).trans (kp_A _ _ (by decide))) h1, ((fs 2).trans (kp_S _ _ (by decide))).trans h2, fun k hk => rRu_ext ((fa 3 (by decide)).trans (kp_A _ _ (by decide))) ((fa 5 (by decide)).trans (kp_A _ _ (by decide))) ((fa 6 (by decide)).trans (kp_A _ _ (by decide))) (h3 k hk), by rw [show mD (dkD S d).1 (dkD S d).2.1 = d from mD_1 ht]; exact hk1, rL_ext hL (fun i i1 i2 => f20 i (by omega)) h5, ((fs 21).trans (kp_S _ _ (by decide))).trans h6, ((fs 22).trans (kp_S _ _ (by decide))).trans h7, ?_, rI_ext ((fa 44 (by decide)).trans (kp_A _ _ (by decide))) ((fa 45 (by decide)).trans (kp_A _ _ (by decide))) ((fa 46 (by decide)).trans (kp_A _ _ (by decide))) h9⟩
  exact rH_ext (fs 28) (fa 27 (by decide)) (rH_cg (fun j hj => hist_push hH j hj) (rH_keep hk0 h8))
theorem DW_write {O : Of} {q : Nat} (hw : xw_Off O) (hd : DW O d) (hc : canF O d p = true) : DW O (writeD O d p q) := by
  refine ⟨fun i hi => ?_, fun h0 => ?_⟩
  · by_cases e : i = p
    · subst e; exact wr_sign
    · rw [wr_vo e] at hi
      rw [wr_sg e]
      exact hd.1 i hi
  · have hcp := of_decide_eq_true hc
    have hs := hw.2.2.2.2.2.2 p (by omega)
    omega
theorem a_sign (hD : 50 ≤ D) (hab : a + 204 ≤ b) (h : REL f a b) (x1 : -2147483648 ≤ x) (x2 : x ≤ 2147483647) : AG D a b 107 208 [.int (xj x)] f w := by
  obtain ⟨n, nr, T, ru, S, H, im, I, R, hp, hm, hr, hx⟩ := h
  have hk := hr.2.2.2.1
  have hw := hx.2.2.2.1
  have hL := hw.1.2.2.2.2.1.1
  have h22 := hr.2.2.2.2.2.2.1
  have hh := hr.2.2.2.2.2.2.2.1
  refine p_sign (by omega) hp hw.1 hx.2.2.2.2.2.1 x1 x2 (fun hc f' e hp' => ag_cl hab hm e ?_) (fun p hxp hc f' e hp' => ag_cl hab hm e ?_)
  · by_cases c : 0 ≤ x ∧ x < of_np S.1
    · obtain ⟨p, rfl⟩ : ∃ p : Nat, x = p := ⟨x.toNat, by omega⟩
      have ht := told_np hw.1.1 (show p < of_np S.1 by omega)
      rw [mD_1 ht] at hk
      refine (m_sign_nc (by omega) hk (by omega) hc).mpr ⟨_, rfl, rfl, rel_mk hab hp' (rM_frT hr hL ?_ (by rw [mD_1 ht]; exact rK_can hk)) hx⟩
      unfold canR
      split
      · exact frT_r R
      · exact frT_reck
    · exact (m_sign_np (by omega) hk x1 x2 c).mpr ⟨_, rfl, rfl, rel_mk hab hp' hr hx⟩
  · subst hxp
    have hcp := of_decide_eq_true hc
    have hpn : p < of_np S.1 := by omega
    have ht := told_np hw.1.1 hpn
    rw [mD_1 ht] at hk
    have hn := hw.1.1.2.2.2.1
    have hk0 : rK (reckR R S.1 S.2.1 p) S.1 S.2.1 := rK_reck hk
    have hk1 : rK (keepR (reckR R S.1 S.2.1 p) H.2.1) S.1 S.2.1 := rK_of (kp_20 _ _) hk0
    have lo : ∀ (g : Nat → Int) i, 32 ≤ i → signG S.1 S.2.1 p 63 g i = g i := fun g i hi => by
      unfold signG
      rw [up_n (by omega), up_n (by omega), up_n (by omega), up_n (by omega), up_n (by omega), up_n (by omega)]
    refine (m_sign (q := 63) (by omega) hk hpn hc h22 (by decide) hx.2.2.2.2.2.1.2.1 hh.1).mpr ⟨_, rfl, rfl, rel_mk hab hp' (rM_act ht hr hx.2.2.2.2.2.1 hL frT_reck hk0 (rK_sign hk1 hpn hc) (fun j => rfl) (fun j hj => mA_Ao hj) (fun i hi => ?_)) (pX_act ht hx (xw_writeD hw.1.1 hw.1.2.2.1 hc) (xz_writeD hw.1.2.2.2.1 (by omega)) (DW_write hw.1.1 hx.2.2.2.2.1 hc))⟩
    unfold signR
    rw [mA_A, lo _ i hi, kp_20]
theorem a_blank (hD : 50 ≤ D) (hab : a + 204 ≤ b) (h : REL f a b) (x1 : -2147483648 ≤ x) (x2 : x ≤ 2147483647) : AG D a b 108 209 [.int (xj x)] f w := by
  obtain ⟨n, nr, T, ru, S, H, im, I, R, hp, hm, hr, hx⟩ := h
  have hk := hr.2.2.2.1
  have hw := hx.2.2.2.1
  have hL := hw.1.2.2.2.2.1.1
  have hh := hr.2.2.2.2.2.2.2.1
  have hn := hw.1.1.2.2.2.1
  have w3 := hw.1.2.2.1
  refine p_blank (by omega) hp hw.1 hx.2.2.2.2.2.1 x1 x2 (fun hc => ag_cl hab hm (fun _ _ => rfl) ?_) (fun p hxp hpn c1 c2 f' e hp' => ag_cl hab hm e ?_)
  · exact (m_blank_no (by omega) hk x1 x2 (fun q => hc (by rw [mD_1 (told_np hw.1.1 (show x.toNat < of_np S.1 by omega))] at q; exact q))).mpr ⟨_, rfl, rfl, rel_mk hab hp hr hx⟩
  · subst hxp
    have ht := told_np hw.1.1 hpn
    rw [mD_1 ht] at hk
    have hb : (blankD S.2.1 p).2.2.2.2.2.2.1 < 2 ^ of_np S.1 := Nat.or_lt_two_pow w3.2.2.2.2.2.2.2.2.2.2.1 (Nat.pow_lt_pow_right (by decide) hpn)
    have ec : cnt (fun i => (blankD S.2.1 p).2.2.2.2.2.2.1.testBit i) (of_np S.1) = bcF (blankD S.2.1 p).2.2.2.2.2.2.1 := (cnt_six 6 hn (fun i hi => Nat.testBit_lt_two_pow (Nat.lt_of_lt_of_le hb (Nat.pow_le_pow_right (by decide) hi)))).symm
    have hk1 : rK (sA (keepR R H.2.1) 20 (upI (mA R 20) (14 + 3 * p + 2) 1)) S.1 (blankD S.2.1 p) := rK_of (R := sA R 20 (upI (mA R 20) (14 + 3 * p + 2) 1)) (by rw [mA_A, mA_A]) (rK_blank hk hpn)
    refine (m_blank (by omega) hk hpn c1 c2 hx.2.2.2.2.2.1.2.1 hh.1).mpr ⟨_, by rw [ec], rfl, rel_mk hab hp' (rM_act ht hr hx.2.2.2.2.2.1 hL (frT_r R) hk hk1 (fun j => rfl) (fun j hj => mA_Ao hj) (fun i hi => ?_)) (pX_act ht hx ⟨w3.1, w3.2.1, w3.2.2.1, w3.2.2.2.1, w3.2.2.2.2.1, w3.2.2.2.2.2.1, w3.2.2.2.2.2.2.1, w3.2.2.2.2.2.2.2.1, w3.2.2.2.2.2.2.2.2.1, w3.2.2.2.2.2.2.2.2.2.1, hb, w3.2.2.2.2.2.2.2.2.2.2.2⟩ hw.1.2.2.2.1 hx.2.2.2.2.1)⟩
    rw [mA_A, up_n (by omega)]
theorem a_await (hD : 50 ≤ D) (hab : a + 204 ≤ b) (h : REL f a b) (x1 : -2147483648 ≤ x) (x2 : x ≤ 2147483647) : AG D a b 109 210 [.int (xj x)] f w := by
  obtain ⟨n, nr, T, ru, S, H, im, I, R, hp, hm, hr, hx⟩ := h
  have hk := hr.2.2.2.1
  have hw := hx.2.2.2.1
  have hL := hw.1.2.2.2.2.1.1
  have hh := hr.2.2.2.2.2.2.2.1
  have w3 := hw.1.2.2.1
  refine p_await (by omega) hp hw.1 hx.2.2.2.2.2.1 x1 x2 (fun hc => ag_cl hab hm (fun _ _ => rfl) ?_) (fun c1 c2 c3 c4 f' e hp' => ag_cl hab hm e ?_)
  · exact (m_await_no (by omega) hk x1 x2 (fun q => hc (by rw [mD_1 q.1] at q; exact q))).mpr ⟨_, rfl, rfl, rel_mk hab hp hr hx⟩
  · have ht := c1
    rw [mD_1 ht] at hk
    have w31 := w3.1
    have hk1 : rK (sA (keepR R H.2.1) 20 (upI (mA R 20) 10 (S.2.1.1 + x))) S.1 (minD S.2.1 x) := rK_of (R := sA R 20 (upI (mA R 20) 10 (S.2.1.1 + x))) (by rw [mA_A, mA_A]) (rK_min hk (by omega) c4)
    refine (m_await (by omega) hk c1 c2 c3 c4 hx.2.2.2.2.2.1.2.1 hh.1).mpr ⟨_, rfl, rfl, rel_mk hab hp' (rM_act ht hr hx.2.2.2.2.2.1 hL (frT_r R) hk hk1 (fun j => rfl) (fun j hj => mA_Ao hj) (fun i hi => ?_)) (pX_act ht hx ⟨by show 0 ≤ S.2.1.1 + x; omega, c4, w3.2.2⟩ hw.1.2.2.2.1 hx.2.2.2.2.1)⟩
    rw [mA_A, up_n (by omega)]
theorem a_filling (hD : 50 ≤ D) (hab : a + 204 ≤ b) (h : REL f a b) : AG D a b 110 211 [] f w := by
  obtain ⟨n, nr, T, ru, S, H, im, I, R, hp, hm, hr, hx⟩ := h
  have hk := hr.2.2.2.1
  have hw := hx.2.2.2.1
  have hL := hw.1.2.2.2.2.1.1
  have hh := hr.2.2.2.2.2.2.2.1
  have w3 := hw.1.2.2.1
  have hs := hw.1.1.sm
  refine p_filling (by omega) hp hw.1 hx.2.2.2.2.2.1 (fun hc => ag_cl hab hm (fun _ _ => rfl) ?_) (fun c1 c2 c3 f' e hp' => ag_cl hab hm e ?_)
  · exact (m_filling_no (by omega) hk (fun q => hc (by rw [mD_1 q.1] at q; exact q))).mpr ⟨_, rfl, rfl, rel_mk hab hp hr hx⟩
  · have ht := c1
    rw [mD_1 ht] at hk
    have w31 := w3.1
    have hk1 : rK (sA (keepR R H.2.1) 20 (upI (upI (mA R 20) 12 (of_ink S.1)) 10 (S.2.1.1 + of_fill S.1))) S.1 (fillD S.1 S.2.1) := rK_of (R := sA R 20 (upI (upI (mA R 20) 12 (of_ink S.1)) 10 (S.2.1.1 + of_fill S.1))) (by rw [mA_A, mA_A]) (rK_fill hk c3)
    refine (m_filling (by omega) hk c1 c2 c3 hx.2.2.2.2.2.1.2.1 hh.1).mpr ⟨_, rfl, rfl, rel_mk hab hp' (rM_act ht hr hx.2.2.2.2.2.1 hL (frT_r R) hk hk1 (fun j => rfl) (fun j hj => mA_Ao hj) (fun i hi => ?_)) (pX_act ht hx hk1.2.1 hw.1.2.2.2.1 hx.2.2.2.2.1)⟩
    rw [mA_A, up_n (by omega), up_n (by omega)]
theorem a_change (hD : 50 ≤ D) (hab : a + 204 ≤ b) (h : REL f a b) : AG D a b 111 212 [] f w := by
  obtain ⟨n, nr, T, ru, S, H, im, I, R, hp, hm, hr, hx⟩ := h
  have hk := hr.2.2.2.1
  have hw := hx.2.2.2.1
  have hL := hw.1.2.2.2.2.1.1
  have hh := hr.2.2.2.2.2.2.2.1
  refine p_change (by omega) hp hw.1 hx.2.2.2.2.2.1 (fun hc => ag_cl hab hm (fun _ _ => rfl) ?_) (fun c1 c2 c3 f' e hp' => ag_cl hab hm e ?_)
  · exact (m_change_no (by omega) hk (fun q => hc (by rw [mD_1 q.1] at q; exact q))).mpr ⟨_, rfl, rfl, rel_mk hab hp hr hx⟩
  · have ht := c1
    rw [mD_1 ht] at hk
    have hk1 : rK (sA (keepR R H.2.1) 20 (upI (upI (mA R 20) 13 (of_nib S.1)) 10 (S.2.1.1 + 3))) S.1 (changeD S.1 S.2.1) := rK_of (R := sA R 20 (upI (upI (mA R 20) 13 (of_nib S.1)) 10 (S.2.1.1 + 3))) (by rw [mA_A, mA_A]) (rK_change hk c3)
    refine (m_change (by omega) hk c1 c2 c3 hx.2.2.2.2.2.1.2.1 hh.1).mpr ⟨_, rfl, rfl, rel_mk hab hp' (rM_act ht hr hx.2.2.2.2.2.1 hL (frT_r R) hk hk1 (fun j => rfl) (fun j hj => mA_Ao hj) (fun i hi => ?_)) (pX_act ht hx hk1.2.1 hw.1.2.2.2.1 hx.2.2.2.2.1)⟩
    rw [mA_A, up_n (by omega), up_n (by omega)]
theorem a_undo (hD : 50 ≤ D) (hab : a + 204 ≤ b) (h : REL f a b) : AG D a b 112 207 [] f w := by
  obtain ⟨n, nr, T, ru, S, H, im, I, R, hp, hm, hr, hx⟩ := h
  have hx0 := hx
  obtain ⟨h1, h2, h3, h4, h5, h6, h7, h8, h9⟩ := hr
  obtain ⟨g1, g2, g3, ⟨⟨w1, w2, w3, w4, w5, w6⟩, v1, v2⟩, g5, g6, g7, g8, g9⟩ := hx
  have hL := w5.1
  refine p_undo (by omega) hp g6 w4 (fun hc => ag_cl hab hm (fun _ _ => rfl) ?_) (fun hc f' e hp' => ag_cl hab hm e ?_)
  · exact (m_undo_no (by omega) (by rw [h8.1, hc]; rfl)).mpr ⟨_, rfl, rfl, rel_mk hab hp ⟨h1, h2, h3, h4, h5, h6, h7, h8, h9⟩ hx0⟩
  · have ht : of_told S.1 = 1 := Classical.byContradiction (fun q => by have := g9.2 q; omega)
    rw [mD_1 ht] at h4
    obtain ⟨k, hk⟩ : ∃ k, H.2.1 = k + 1 := ⟨H.2.1 - 1, by omega⟩
    have hn := g6.2.1
    have et : H.2.1 - 1 = k := by omega
    have hb := h8.2.2 k (by omega)
    have tp := hist_top g6 hc
    have hd := g7 k (by omega)
    rw [et] at tp ⊢
    rw [tp] at hb hd
    have hk1 : rK (sS (sA R 20 (cpI (mA R 20) (mA R 27) 10 (22 * k) 22)) 28 (k : Nat)) S.1 (H.2.2 (popH H)) := rK_of (R := sA R 20 (cpI (mA R 20) (mA R 27) 10 (22 * k) 22)) rfl (rK_lay h4 hb)
    refine (m_undo (by omega) (by omega) (by rw [h8.1, hk])).mpr ⟨_, rfl, rfl, rel_mk hab hp' ⟨rT_ext (mS_So (by decide)) (mA_Ao (by decide)) h1, (mS_So (by decide)).trans h2, fun k hk => rRu_ext (mA_Ao (by decide)) (mA_Ao (by decide)) (mA_Ao (by decide)) (h3 k hk), by rw [show mD (dkD S (H.2.2 (popH H))).1 (dkD S (H.2.2 (popH H))).2.1 = H.2.2 (popH H) from mD_1 ht]; exact hk1, ?_, (mS_So (by decide)).trans h6, (mS_So (by decide)).trans h7, ?_, rI_ext (mA_Ao (by decide)) (mA_Ao (by decide)) (mA_Ao (by decide)) h9⟩ ?_⟩
    · refine rL_ext hL (fun i i1 i2 => ?_) h5
      show cpI (mA R 20) (mA R 27) 10 (22 * k) 22 i = _
      unfold cpI
      rw [if_neg (by omega)]
    · refine ⟨?_, by show H.2.1 - 1 ≤ 20; omega, fun j hj => ?_⟩
      · show mS (sS _ 28 (k : Nat)) 28 = ((H.2.1 - 1 : Nat) : Int)
        rw [mS_S, et]
      · have hj : j < H.2.1 - 1 := hj
        rw [hist_pop g6 hc j hj]
        exact h8.2.2 j (by omega)
    · have hz : xz_Day (H.2.2 (popH H)) := g6.2.2 _ (Nat.mod_lt _ (by decide))
      refine ⟨g1, g2, g3, ⟨⟨w1, w2, hb.1, hz, w5, w6⟩, hd.1, v2⟩, hd, ⟨Nat.mod_lt _ (by decide), by show H.2.1 - 1 ≤ 20; omega, g6.2.2⟩, fun j hj => ?_, g8, g9.1, fun q => absurd ht q⟩
      have hj : j < H.2.1 - 1 := hj
      show DW S.1 _
      rw [hist_pop g6 hc j hj]
      exact g7 j (by omega)
end XS9c03
