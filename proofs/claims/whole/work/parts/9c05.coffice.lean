/-! the tape, the office, the rules: both sides do alike -/
section XS9c05
variable {D a b n nr p k : Nat} {f : Nat → xk_C} {w : Nat × Nat × Nat} {T : Nat → Int} {ru : Nat → Ru} {S : Dk} {H : Hi} {im : Nat → Int} {I : Nat → Dk} {R R0 R1 : Md} {d : Dy} {x y z : Int} {L : Lg} {g A : Nat → Int} {O : Of}
theorem tOK_of (h : rT R T n) : tOK T n := ⟨h.2.1, fun i hi => (h.2.2 i hi).2⟩
theorem a_feed {u1 u2 u3 u4 u5 : Int32} (hD : 50 ≤ D) (hab : a + 204 ≤ b) (h : REL f a b) : AG D a b 99 146 [.int u1, .int u2, .int u3, .int u4, .int u5] f w := by
  obtain ⟨n, nr, T, ru, S, H, im, I, R, hp, hm, hr, hx⟩ := h
  refine p_feed (by omega) hp hx.1.1 (fun hc => ag_cl hab hm (fun _ _ => rfl) ?_) (fun hc f' e hp' => ag_cl hab hm e ?_)
  · exact (m_feed_no (by omega) hr.1 hc).mpr ⟨_, rfl, rfl, rel_mk hab hp hr hx⟩
  · obtain ⟨h1, h2, h3, h4, h5, h6, h7, h8, h9⟩ := hr
    exact u_feed (by omega) h1 hc (fun R' fr hT => ⟨_, rfl, rfl, rel_mk hab hp' ⟨hT, (fr.1 2 (by decide)).trans h2, fun k hk => rRu_ext (fr.2 3 (by decide)) (fr.2 5 (by decide)) (fr.2 6 (by decide)) (h3 k hk), rK_of (fr.2 20 (by decide)) h4, by rw [fr.2 20 (by decide)]; exact h5, (fr.1 21 (by decide)).trans h6, (fr.1 22 (by decide)).trans h7, rH_ext (fr.1 28 (by decide)) (fr.2 27 (by decide)) h8, rI_ext (fr.2 44 (by decide)) (fr.2 45 (by decide)) (fr.2 46 (by decide)) h9⟩ ⟨tOK_of hT, hx.2⟩⟩)
theorem a_end (hD : 50 ≤ D) (hab : a + 204 ≤ b) (h : REL f a b) (x1 : -2147483648 ≤ x) (x2 : x ≤ 2147483647) : AG D a b 101 147 [.int (xj x)] f w := by
  obtain ⟨n, nr, T, ru, S, H, im, I, R, hp, hm, hr, hx⟩ := h
  refine p_end (by omega) hp hx.1.1 x1 x2 (fun hc => ag_cl hab hm (fun _ _ => rfl) ?_) (fun k hxk hk f' e hp' => ag_cl hab hm e ?_)
  · exact (m_end_no (by omega) hr.1 x1 x2 hc).mpr ⟨_, rfl, rfl, rel_mk hab hp hr hx⟩
  · subst hxk
    obtain ⟨h1, h2, h3, h4, h5, h6, h7, h8, h9⟩ := hr
    have hn := hx.1.1
    have hT : rT (sS R 1 (k : Nat)) T k := ⟨mS_S, by omega, fun i hi => h1.2.2 i (by omega)⟩
    exact (m_end (by omega) h1 hk).mpr ⟨_, rfl, rfl, rel_mk hab hp' ⟨hT, (mS_So (by decide)).trans h2, fun k hk => rRu_ext (R := R) rfl rfl rfl (h3 k hk), h4, h5, (mS_So (by decide)).trans h6, (mS_So (by decide)).trans h7, rH_ext (mS_So (by decide)) rfl h8, h9⟩ ⟨tOK_of hT, hx.2⟩⟩
theorem a_rule (hD : 50 ≤ D) (hab : a + 204 ≤ b) (h : REL f a b) : AG D a b 103 181 [] f w := by
  obtain ⟨n, nr, T, ru, S, H, im, I, R, hp, hm, hr, hx⟩ := h
  have hr0 := hr
  obtain ⟨h1, h2, h3, h4, h5, h6, h7, h8, h9⟩ := hr
  have fin : ∀ (R' : Md), nr < 6 → frU nr R R' → rT R' T 0 ∧ (∀ k, k < nr → rRu R' k (ru k)) ∧ rK R' S.1 (mD S.1 S.2.1) ∧ rL (mA R' 20) S.2.2.1 ∧ mS R' 21 = S.2.2.2 ∧ mS R' 22 = 63 ∧ rH R' S.1 H.2.1 (hist H) ∧ rI R' im I := fun R' hn fr => ⟨⟨fr.2.2.2.2.2, by omega, fun i hi => absurd hi (Nat.not_lt_zero i)⟩, fun k hk => rRu_fr fr (by omega) (h3 k hk), rK_of (fr.2.1 20 (by omega)) h4, by rw [fr.2.1 20 (by omega)]; exact h5, (fr.1 21 (by omega)).trans h6, (fr.1 22 (by omega)).trans h7, rH_ext (fr.1 28 (by omega)) (fr.2.1 27 (by omega)) h8, rI_ext (fr.2.1 44 (by omega)) (fr.2.1 45 (by omega)) (fr.2.1 46 (by omega)) h9⟩
  have t0 : tOK T 0 := ⟨by omega, fun i hi => absurd hi (Nat.not_lt_zero i)⟩
  refine p_rule (by omega) hp hx.1 hx.2.1 (fun hc => ag_cl hab hm (fun _ _ => rfl) ?_) (fun hn e he f' e' hp' => ag_cl hab hm e' ?_) (fun hn ru' hru f' e' hp' => ag_cl hab hm e' ?_)
  · exact (m_rule_no (by omega) (by rw [h2, hc]; rfl)).mpr ⟨_, rfl, rfl, rel_mk hab hp hr0 hx⟩
  · refine u_rule (by omega) h1 h2 hn (fun ru2 g2 => by rw [he] at g2; cases g2) (fun e2 g2 R' fr s2 b1 b2 => ?_)
    rw [he] at g2
    cases g2
    obtain ⟨f1, f3, f4⟩ := fin R' hn fr
    exact ⟨_, rfl, rfl, rel_mk hab hp' ⟨f1, s2, f3, f4⟩ ⟨t0, hx.2⟩⟩
  · refine u_rule (by omega) h1 h2 hn (fun ru2 g2 R' fr s2 r2 => ?_) (fun e2 g2 => by rw [hru] at g2; cases g2)
    rw [hru] at g2
    cases g2
    obtain ⟨f1, f3, f4⟩ := fin R' hn fr
    refine ⟨_, rfl, rfl, rel_mk hab hp' ⟨f1, s2, fun k hk => ?_, f4⟩ ⟨t0, by omega, fun k hk => ?_, hx.2.2.2⟩⟩
    · show rRu R' k (if k = nr then ru' else ru k)
      by_cases c : k = nr
      · rw [if_pos c, c]; exact r2
      · rw [if_neg c]; exact f3 k (by omega)
    · show ruOK (if k = nr then ru' else ru k)
      by_cases c : k = nr
      · rw [if_pos c]; exact r2.2.2.2
      · rw [if_neg c]; exact hx.2.2.1 k (by omega)
theorem off_O (hd : drR A O) (hA : 0 < A 0) (hw : xw_Off O) : rO (offG A g) O := by
  obtain ⟨r1, r2, r3, r4, r5, r6, r7, r8⟩ := hd
  have b1 := hw.2.1
  have b2 := hw.2.2.1
  have b3 := hw.2.2.2.1
  have v : ∀ i, (i < 10 ∨ (32 ≤ i ∧ i < 84)) → offG A g i = A i := fun i hi => by
    unfold offG
    rw [nnG_o 6 (fun q hq => by omega), up_n (by omega), up_n (by omega), up_n (by omega), oG1_v (by omega)]
  obtain ⟨q1, q2, q3⟩ := r2 hA
  refine ⟨by rw [v 0 (by omega), q1], by rw [v 1 (by omega), q2], by rw [v 2 (by omega), q3], by rw [v 3 (by omega)]; exact r3, by rw [v 4 (by omega)]; exact r4, by rw [v 5 (by omega)]; exact r5, fun c hc => ?_, fun k hk => ?_, fun p hp => ?_⟩
  · rw [v _ (by omega), r6 c hc]
  · obtain ⟨q4, q5, q6⟩ := r7 k hk
    rw [v _ (by omega), v _ (by omega), v _ (by omega)]
    exact ⟨q4.symm, q5.symm, q6.symm⟩
  · obtain ⟨q4, q5, q6, q7, q8⟩ := r8 p hp
    rw [v _ (by omega), v _ (by omega), v _ (by omega), v _ (by omega), v _ (by omega), show 54 + 5 * p + 4 = 58 + 5 * p by omega]
    exact ⟨q4.symm, q5.symm, q6.symm, q7.symm, q8.symm⟩
theorem off_D (hd : drR A O) (hA : 0 < A 0) (hw : xw_Off O) (hm : ∀ i, 6 ≤ i → i < 32 → A i = 0) : rD (offG A g) O (openD O) := by
  obtain ⟨r1, r2, r3, r4, r5, r6, r7, r8⟩ := hd
  have b1 := hw.2.1
  have b3 := hw.2.2.2.1
  obtain ⟨q1, q2, q3⟩ := r2 hA
  refine ⟨?_, ?_, ?_, ?_, fun h => ?_, fun p hp => ?_⟩
  · show offG A g 10 = 0
    unfold offG
    rw [nnG_o 6 (fun q hq => by omega), up_n (by omega), up_n (by omega), up_n (by omega), oG1_v (by omega), hm 10 (by omega) (by omega)]
  · show offG A g 11 = (if 0 < of_nc O then 0 else -1)
    unfold offG
    rw [nnG_o 6 (fun q hq => by omega), up_n (by omega), up_n (by omega), up_e, r3]
    by_cases c : 0 < of_nc O
    · rw [if_pos c, if_pos (by omega)]
    · rw [if_neg c, if_neg (by omega)]
  · show offG A g 12 = of_ink O
    unfold offG
    rw [nnG_o 6 (fun q hq => by omega), up_n (by omega), up_e, q1]
  · show offG A g 13 = of_nib O
    unfold offG
    rw [nnG_o 6 (fun q hq => by omega), up_e, q2]
  · show 0 ≤ (if 0 < of_nc O then (0 : Int) else -1) ∧ (if 0 < of_nc O then (0 : Int) else -1) < of_nc O
    rw [if_pos h]
    omega
  · have e0 : offG A g (14 + 3 * p + 0) = -1 := by unfold offG; exact nnG_y 6 (by omega)
    have e1 : offG A g (14 + 3 * p + 1) = 0 := by
      unfold offG
      rw [nnG_o 6 (fun q hq => by omega), up_n (by omega), up_n (by omega), up_n (by omega), oG1_v (by omega), hm _ (by omega) (by omega)]
    have e2 : offG A g (14 + 3 * p + 2) = 0 := by
      unfold offG
      rw [nnG_o 6 (fun q hq => by omega), up_n (by omega), up_n (by omega), up_n (by omega), oG1_v (by omega), hm _ (by omega) (by omega)]
    have e3 : (openD O).2.2.2.2.2.2.2 p = -1 := by
      show mixI 6 (fun _ => -1) (fun _ => 0) p = -1
      unfold mixI
      rw [if_pos (by omega)]
    rw [e0, e1, e2, e3]
    refine ⟨rfl, ?_, ?_, ?_, fun h => ?_⟩
    · show (0 : Int) = if Nat.testBit 0 p = true then 1 else 0
      rw [Nat.zero_testBit]; rfl
    · show (0 : Int) = if Nat.testBit 0 p = true then 1 else 0
      rw [Nat.zero_testBit]; rfl
    · show Nat.testBit 0 p = decide ((0 : Int) ≤ -1)
      rw [Nat.zero_testBit]; rfl
    · have h : Nat.testBit 0 p = true := h
      rw [Nat.zero_testBit] at h; cases h
theorem off_L : rL (offG A g) (0, L.2) := by
  refine ⟨?_, fun k hk => absurd hk (Nat.not_lt_zero k)⟩
  show offG A g 114 = 0
  unfold offG
  rw [nnG_o 6 (fun q hq => by omega), up_n (by omega), up_n (by omega), up_n (by omega), oG1_w (by omega) (by omega)]
theorem a_office (hD : 50 ≤ D) (hab : a + 204 ≤ b) (h : REL f a b) : AG D a b 102 182 [] f w := by
  obtain ⟨n, nr, T, ru, S, H, im, I, R, hp, hm, hr, hx⟩ := h
  obtain ⟨h1, h2, h3, h4, h5, h6, h7, h8, h9⟩ := hr
  obtain ⟨g1, g2, g3, g4, g5, g6, g7, g8, g9⟩ := hx
  have t0 : tOK T 0 := ⟨by omega, fun i hi => absurd hi (Nat.not_lt_zero i)⟩
  have hA : ∀ i, i < 84 → cpI (mA R 7) z0F 0 0 84 i = 0 := fun i hi => by unfold cpI z0F; rw [if_pos (by omega)]
  refine p_office (A := cpI (mA R 7) z0F 0 0 84) (by omega) hp g1 g4.1 hA (fun e he f' e' hp' => ag_cl hab hm e' ?_) (fun A' O' he hd hz h0 z' w' f' e' hp' => ag_cl hab hm e' ?_)
  · refine u_office (by omega) h1 (fun A2 g => by rw [he] at g; cases g) (fun e2 g R' fr a20 s28 b1 b2 => ?_)
    rw [he] at g
    cases g
    exact ⟨_, rfl, rfl, rel_mk hab hp' ⟨⟨fr.2.2, by omega, fun i hi => absurd hi (Nat.not_lt_zero i)⟩, (fr.1 2 (by omega)).trans h2, fun k hk => rRu_ext (fr.2.1 3 (by omega)) (fr.2.1 5 (by omega)) (fr.2.1 6 (by omega)) (h3 k hk), rK_of a20 h4, by rw [a20]; exact h5, (fr.1 21 (by omega)).trans h6, (fr.1 22 (by omega)).trans h7, rH_ext s28 (fr.2.1 27 (by omega)) h8, rI_ext (fr.2.1 44 (by omega)) (fr.2.1 45 (by omega)) (fr.2.1 46 (by omega)) h9⟩ ⟨t0, g2, g3, g4, g5, g6, g7, g8, g9⟩⟩
  · refine u_office (by omega) h1 (fun A2 g zw2 p2 R' fr a20 s28 => ?_) (fun e2 g => by rw [he] at g; cases g)
    rw [he] at g
    cases g
    have mid : ∀ i, 6 ≤ i → i < 32 → A' i = 0 := fun i i1 i2 => by rw [of_mid _ _ _ _ he i i1 i2]; exact hA i (by omega)
    obtain ⟨⟨w1, w2, w3, w4, w5, w6, w7, w8⟩, v1, v2⟩ := g4
    refine ⟨_, by rw [hd.2.2.2.2.1], rfl, rel_mk hab hp' ⟨⟨fr.2.2, by omega, fun i hi => absurd hi (Nat.not_lt_zero i)⟩, (fr.1 2 (by omega)).trans h2, fun k hk => rRu_ext (fr.2.1 3 (by omega)) (fr.2.1 5 (by omega)) (fr.2.1 6 (by omega)) (h3 k hk), by rw [show mD O' (openD O') = openD O' from mD_1 hd.1]; exact ⟨w', xw_openD w', by rw [a20]; exact off_O hd h0 w', by rw [a20]; exact off_D hd h0 w' mid⟩, by rw [a20]; exact off_L, (fr.1 21 (by omega)).trans h6, (fr.1 22 (by omega)).trans h7, ⟨s28, by show 0 ≤ 20; omega, fun j hj => absurd hj (Nat.not_lt_zero j)⟩, rI_ext (fr.2.1 44 (by omega)) (fr.2.1 45 (by omega)) (fr.2.1 46 (by omega)) h9⟩ ⟨t0, g2, g3, ⟨⟨w', z', xw_openD w', xz_openD, ⟨Nat.zero_le _, fun k hk => absurd hk (Nat.not_lt_zero k)⟩, w6, w7, w8⟩, fun i hi => ?_, fun k hk => absurd hk (Nat.not_lt_zero k)⟩, ⟨fun i hi => ?_, fun hc => ?_⟩, ⟨g6.1, by show 0 ≤ 20; omega, g6.2.2⟩, fun j hj => absurd hj (Nat.not_lt_zero j), g8, g9.1, fun q => absurd hd.1 q⟩⟩
    · have hi : Nat.testBit 0 i = true := hi
      rw [Nat.zero_testBit] at hi; cases hi
    · have hi : Nat.testBit 0 i = true := hi
      rw [Nat.zero_testBit] at hi; cases hi
    · have hc : of_nc O' = 0 := hc
      show (if 0 < of_nc O' then (0 : Int) else -1) = -1
      rw [if_neg (by omega)]
end XS9c05
