/-! what is told: feed, end, office, rule, seed, log, image, back: both sides do alike -/
theorem cell_u {T : Nat → Int} {n i p : Nat} {lo hi : Int} {A : Nat → Int} {p' : Nat} {A' : Nat → Int} (h : gCell T n i lo hi p A = .inr (p', A')) : ∃ v, A' = upI A i v := by
  unfold gCell at h
  obtain ⟨p1, v, g1, hg⟩ := bdN_inr h
  cases hg
  exact ⟨v, rfl⟩
theorem line_mid {T : Nat → Int} {n p : Nat} {A : Nat → Int} {q : Nat × (Nat → Int)} (h : gLine T n p A = .inr q) (i : Nat) (h1 : 6 ≤ i) (h2 : i < 32) : q.2 i = A i := by
  unfold gLine at h
  split at h
  · unfold gOffL at h
    split at h
    · cases h
    · obtain ⟨p1, v, g1, h⟩ := bdN_inr h
      obtain ⟨p2, A2, g2, h⟩ := bdQ_inr h
      obtain ⟨p3, A3, g3, h⟩ := bdQ_inr h
      obtain ⟨v2, rfl⟩ := cell_u g2
      obtain ⟨v3, rfl⟩ := cell_u g3
      cases h
      show upI (upI (upI A 1 v2) 2 v3) 0 v i = _
      rw [up_n (by omega), up_n (by omega), up_n (by omega)]
  · split at h
    · cases h
    · split at h
      · unfold gClkL at h
        split at h
        · cases h
        · obtain ⟨p2, A2, g2, h⟩ := bdQ_inr h
          obtain ⟨v2, rfl⟩ := cell_u g2
          cases h
          show upI (upI A (32 + (A 3).toNat) v2) 3 _ i = _
          rw [up_n (by omega), up_n (by omega)]
      · split at h
        · unfold gAwyL at h
          split at h
          · cases h
          · obtain ⟨p1, A1, g1, h⟩ := bdQ_inr h
            obtain ⟨p2, A2, g2, h⟩ := bdQ_inr h
            obtain ⟨p3, A3, g3, h⟩ := bdQ_inr h
            obtain ⟨v1, rfl⟩ := cell_u g1
            obtain ⟨v2, rfl⟩ := cell_u g2
            obtain ⟨v3, rfl⟩ := cell_u g3
            cases h
            show upI (upI (upI (upI A (36 + 3 * (A 4).toNat) v1) (36 + 3 * (A 4).toNat + 1) v2) (36 + 3 * (A 4).toNat + 2) v3) 4 _ i = _
            rw [up_n (by omega), up_n (by omega), up_n (by omega), up_n (by omega)]
        · split at h
          · unfold gPapL at h
            split at h
            · cases h
            · obtain ⟨p1, A1, g1, h⟩ := bdQ_inr h
              obtain ⟨p2, A2, g2, h⟩ := bdQ_inr h
              obtain ⟨p3, A3, g3, h⟩ := bdQ_inr h
              obtain ⟨p4, A4, g4, h⟩ := bdQ_inr h
              obtain ⟨v1, rfl⟩ := cell_u g1
              obtain ⟨v2, rfl⟩ := cell_u g2
              obtain ⟨v3, rfl⟩ := cell_u g3
              obtain ⟨v4, rfl⟩ := cell_u g4
              cases h
              show upI (upI (upI (upI (upI (upI A (54 + 5 * (A 5).toNat) v1) (54 + 5 * (A 5).toNat + 1) v2) (54 + 5 * (A 5).toNat + 2) v3) (54 + 5 * (A 5).toNat + 3) v4) (54 + 5 * (A 5).toNat + 4) 0) 5 _ i = _
              rw [up_n (by omega), up_n (by omega), up_n (by omega), up_n (by omega), up_n (by omega), up_n (by omega)]
          · unfold gRstL at h
            obtain ⟨p1, v1, g1, h⟩ := bdN_inr h
            obtain ⟨p2, v2, g2, h⟩ := bdN_inr h
            split at h
            · cases h
            · cases h
              show upI A (58 + 5 * v1.toNat) _ i = _
              rw [up_n (by omega)]
theorem of_mid {T : Nat → Int} {n : Nat} {A' : Nat → Int} : ∀ (f k p : Nat) (A : Nat → Int), gOf T n f k p A = .inr A' → ∀ i, 6 ≤ i → i < 32 → A' i = A i := by
  intro f
  induction f with
  | zero => intro k p A h; cases h
  | succ f ih =>
    intro k p A h i h1 h2
    have h : gOn T n (gOf T n f (k + 1)) (gOC T n k p A) = .inr A' := h
    cases hr : gOC T n k p A with
    | inl e => rw [hr] at h; cases h
    | inr q =>
      rw [hr] at h
      have hq : q.2 i = A i := by
        unfold gOC at hr
        split at hr
        · split at hr
          · cases hr
          · exact line_mid hr i h1 h2
        · cases hr
      unfold gOn at h
      dsimp only at h
      split at h
      · rw [ih _ _ _ h i h1 h2, hq]
      · split at h
        · cases h; exact hq
        · cases h
theorem rK_84 {R : Md} {O : Of} {d : Dy} {g : Nat → Int} (h : ∀ i, i < 84 → g i = mA R 20 i) (hk : rK R O d) : rK (sA R 20 g) O d := ⟨hk.1, hk.2.1, by rw [mA_A]; exact rO_ext hk.1 (fun i hi => h i (by omega)) hk.2.2.1, by rw [mA_A]; exact rD_ext hk.1 (fun i h1 h2 => h i (by omega)) hk.2.2.2⟩
theorem rS_ext {g g' : Nat → Int} {S : Dk} (hw : xw_Off S.1) (hL : S.2.2.1.1 ≤ 10) (h : ∀ i, i < 115 → g' i = g i) (hs : rS g S) : rS g' S := ⟨rO_ext hw (fun i hi => h i (by omega)) hs.1, rD_ext hw (fun i h1 h2 => h i (by omega)) hs.2.1, rL_ext hL (fun i h1 h2 => h i h2) hs.2.2⟩
section XS9c04
variable {D a b n nr p k : Nat} {f : Nat → xk_C} {w : Nat × Nat × Nat} {T : Nat → Int} {ru : Nat → Ru} {S : Dk} {H : Hi} {im : Nat → Int} {I : Nat → Dk} {R R0 R1 : Md} {d : Dy} {x y z : Int} {L : Lg} {g A : Nat → Int} {O : Of}
theorem a_seed (hD : 50 ≤ D) (hab : a + 204 ≤ b) (h : REL f a b) (x1 : -2147483648 ≤ x) (x2 : x ≤ 2147483647) : AG D a b 130 246 [.int (xj x)] f w := by
  obtain ⟨n, nr, T, ru, S, H, im, I, R, hp, hm, hr, hx⟩ := h
  refine p_seed (by omega) hp x1 x2 (fun hc => ag_cl hab hm (fun _ _ => rfl) ?_) (fun hc f' e hp' => ag_cl hab hm e ?_)
  · exact (m_seed_no (by omega) x1 hc).mpr ⟨_, rfl, rfl, rel_mk hab hp hr hx⟩
  · obtain ⟨h1, h2, h3, h4, h5, h6, h7, h8, h9⟩ := hr
    obtain ⟨g1, g2, g3, ⟨⟨w1, w2, w3, w4, w5, w6, w7, w8⟩, v1, v2⟩, g5⟩ := hx
    exact (m_seed (by omega) hc x2).mpr ⟨_, by rw [h6], rfl, rel_mk hab hp' ⟨rT_ext (mS_So (by decide)) rfl h1, (mS_So (by decide)).trans h2, fun k hk => rRu_ext (R := R) rfl rfl rfl (h3 k hk), h4, h5, mS_S, (mS_So (by decide)).trans h7, rH_ext (mS_So (by decide)) rfl h8, h9⟩ ⟨g1, g2, g3, ⟨⟨w1, w2, w3, w4, w5, w6, hc, x2⟩, v1, v2⟩, g5⟩⟩
theorem rM_log (h : rM R n nr T ru S H im I) (hk : ∀ i, i < 84 → g i = mA R 20 i) (hl : rL g L) : rM (sA R 20 g) n nr T ru (S.1, S.2.1, L, S.2.2.2) H im I := by
  obtain ⟨h1, h2, h3, h4, h5, h6, h7, h8, h9⟩ := h
  exact ⟨rT_ext rfl (mA_Ao (by decide)) h1, h2, fun k hk => rRu_ext (mA_Ao (by decide)) (mA_Ao (by decide)) (mA_Ao (by decide)) (h3 k hk), rK_84 hk h4, by rw [mA_A]; exact hl, h6, h7, rH_ext rfl (mA_Ao (by decide)) h8, rI_ext (mA_Ao (by decide)) (mA_Ao (by decide)) (mA_Ao (by decide)) h9⟩
theorem a_log (hD : 50 ≤ D) (hab : a + 204 ≤ b) (h : REL f a b) (z1 : -2147483648 ≤ z) (z2 : z ≤ 2147483647) (x1 : -2147483648 ≤ x) (x2 : x ≤ 2147483647) (y1 : -2147483648 ≤ y) (y2 : y ≤ 2147483647) : AG D a b 127 236 [.int (xj z), .int (xj x), .int (xj y)] f w := by
  obtain ⟨n, nr, T, ru, S, H, im, I, R, hp, hm, hr, hx⟩ := h
  have hk := hr.2.2.2.1
  have hl := hr.2.2.2.2.1
  have hx0 := hx
  obtain ⟨g1, g2, g3, ⟨⟨w1, w2, w3, w4, w5, w6, w7, w8⟩, v1, v2⟩, g5⟩ := hx
  have hL := w5.1
  refine p_log (by omega) hp ⟨w1, w2, w3, w4, w5, w6, w7, w8⟩ z1 z2 x1 x2 y1 y2 (fun hc f' e hp' => ag_cl hab hm e ?_) (fun hc hc2 => ag_cl hab hm (fun _ _ => rfl) ?_) (fun hc c1 c2 f' e hp' => ag_cl hab hm e ?_)
  · subst hc
    refine (m_log_clear (by omega)).mpr ⟨_, rfl, rfl, rel_mk hab hp' (rM_log hr (fun i hi => up_n (by omega)) ⟨up_e, fun k hk => absurd hk (Nat.not_lt_zero k)⟩) ⟨g1, g2, g3, ⟨⟨w1, w2, w3, w4, ⟨Nat.zero_le _, fun k hk => absurd hk (Nat.not_lt_zero k)⟩, w6, w7, w8⟩, v1, fun k hk => absurd hk (Nat.not_lt_zero k)⟩, g5⟩⟩
  · exact (m_log_no (by omega) hk hl hL hc z1 z2 x1 x2 y1 y2 hc2).mpr ⟨_, rfl, rfl, rel_mk hab hp hr hx0⟩
  · have cm := of_decide_eq_true c1
    have hn := w1.2.2.2.1
    refine (m_log (by omega) hk hl c1 c2 x1 x2 y1 y2).mpr ⟨_, rfl, rfl, rel_mk hab hp' (rM_log hr (fun i hi => ?_) ⟨?_, fun k hk2 => ?_⟩) ⟨g1, g2, g3, ⟨⟨w1, w2, w3, w4, ⟨by show S.2.2.1.1 + 1 ≤ 10; omega, fun k hk2 => ?_⟩, fun i hi => ?_, w7, w8⟩, v1, fun k hk2 => ?_⟩, g5⟩⟩
    · unfold logG
      rw [up_n (by omega), up_n (by omega), up_n (by omega), up_n (by omega)]
    · exact up_e
    · have hk2 : k < S.2.2.1.1 + 1 := hk2
      unfold logG
      show _ = upI S.2.2.1.2.1 S.2.2.1.1 z k ∧ _ = upI S.2.2.1.2.2.1 S.2.2.1.1 x k ∧ _ = upI S.2.2.1.2.2.2 S.2.2.1.1 y k
      by_cases ck : k = S.2.2.1.1
      · subst ck
        rw [up_e, up_e, up_e]
        refine ⟨?_, ?_, ?_⟩
        · rw [up_n (by omega), up_n (by omega), up_n (by omega), up_e]
        · rw [up_n (by omega), up_n (by omega), up_e]
        · rw [up_n (by omega), up_e]
      · obtain ⟨l1, l2, l3⟩ := hl.2 k (by omega)
        rw [up_n ck, up_n ck, up_n ck]
        refine ⟨?_, ?_, ?_⟩
        · rw [up_n (by omega), up_n (by omega), up_n (by omega), up_n (by omega)]; exact l1
        · rw [up_n (by omega), up_n (by omega), up_n (by omega), up_n (by omega)]; exact l2
        · rw [up_n (by omega), up_n (by omega), up_n (by omega), up_n (by omega)]; exact l3
    · have hk2 : k < S.2.2.1.1 + 1 := hk2
      show 0 ≤ upI S.2.2.1.2.1 S.2.2.1.1 z k ∧ upI S.2.2.1.2.1 S.2.2.1.1 z k ≤ 2 ∧ 0 ≤ upI S.2.2.1.2.2.1 S.2.2.1.1 x k ∧ upI S.2.2.1.2.2.1 S.2.2.1.1 x k < of_np S.1 ∧ 0 ≤ upI S.2.2.1.2.2.2 S.2.2.1.1 y k ∧ upI S.2.2.1.2.2.2 S.2.2.1.1 y k ≤ 99
      by_cases ck : k = S.2.2.1.1
      · subst ck
        rw [up_e, up_e, up_e]
        omega
      · rw [up_n ck, up_n ck, up_n ck]
        exact w5.2 k (by omega)
    · show upI S.2.2.1.2.1 S.2.2.1.1 z i = 0 ∧ upI S.2.2.1.2.2.1 S.2.2.1.1 x i = 0 ∧ upI S.2.2.1.2.2.2 S.2.2.1.1 y i = 0
      rw [up_n (by omega), up_n (by omega), up_n (by omega)]
      exact w6 i hi
    · have hk2 : k < S.2.2.1.1 + 1 := hk2
      show mayF S.1 (upI S.2.2.1.2.1 S.2.2.1.1 z k) (upI S.2.2.1.2.2.1 S.2.2.1.1 x k) (upI S.2.2.1.2.2.2 S.2.2.1.1 y k) = true
      by_cases ck : k = S.2.2.1.1
      · subst ck
        rw [up_e, up_e, up_e]
        exact c1
      · rw [up_n ck, up_n ck, up_n ck]
        exact v2 k (by omega)
theorem a_image (hD : 50 ≤ D) (hab : a + 204 ≤ b) (h : REL f a b) (x1 : -2147483648 ≤ x) (x2 : x ≤ 2147483647) : AG D a b 133 251 [.int (xj x)] f w := by
  obtain ⟨n, nr, T, ru, S, H, im, I, R, hp, hm, hr, hx⟩ := h
  have hr0 := hr
  have hx0 := hx
  obtain ⟨g1, g2, g3, g4, g5, g6, g7, g8, g9⟩ := hx
  refine p_image (by omega) hp g4.1 (fun k hk => (g9.1 k hk).1.1) x1 x2 (fun hc => ag_cl hab hm (fun _ _ => rfl) ?_) (fun k hxk hk f' e hp' => ag_cl hab hm e ?_)
  · exact (m_image_no (by omega) x1 x2 hc).mpr ⟨_, rfl, rfl, rel_mk hab hp hr hx0⟩
  · subst hxk
    obtain ⟨h1, h2, h3, h4, h5, h6, h7, h8, h9⟩ := hr
    have a20 : mA (imgR R k) 20 = mA R 20 := by unfold imgR; rw [mA_Ao (by decide), mA_Ao (by decide), mA_Ao (by decide)]
    have aj : ∀ j, j < 44 → mA (imgR R k) j = mA R j := fun j hj => by unfold imgR; rw [mA_Ao (by omega), mA_Ao (by omega), mA_Ao (by omega)]
    refine (m_image (by omega) hk).mpr ⟨_, by rw [h4.2.2.2.1, mD_m], rfl, rel_mk hab hp' ⟨rT_ext rfl (aj 0 (by omega)) h1, h2, fun k hk => rRu_ext (aj 3 (by omega)) (aj 5 (by omega)) (aj 6 (by omega)) (h3 k hk), rK_of a20 h4, by rw [a20]; exact h5, h6, h7, rH_ext rfl (aj 27 (by omega)) h8, fun j hj => ?_⟩ ⟨g1, g2, g3, g4, g5, g6, g7, fun j hj => ?_, fun j hj => ?_, g9.2⟩⟩
    · have e46 : mA (imgR R k) 46 = upI (mA R 46) k 1 := by unfold imgR; rw [mA_Ao (by decide), mA_Ao (by decide), mA_A]
      have e45 : mA (imgR R k) 45 = upI (mA R 45) k (mS R 21) := by unfold imgR; rw [mA_Ao (by decide), mA_A]
      have e44 : mA (imgR R k) 44 = cpI (mA R 44) (mA R 20) (115 * k) 0 115 := mA_A
      rw [e46, e45, e44]
      by_cases ck : j = k
      · subst ck
        rw [up_e, up_e, up_e]
        refine ⟨rfl, fun _ => ?_⟩
        have ei : (fun j' => if j' = j then S else I j') j = S := if_pos rfl
        rw [ei]
        refine ⟨h6, rS_ext (g := mA R 20) g4.1.1 g4.1.2.2.2.2.1.1 (fun i hi => ?_) ⟨h4.2.2.1, h4.2.2.2, h5⟩⟩
        unfold cpI
        rw [if_pos (by omega)]
        congr 1
        omega
      · rw [up_n ck, up_n ck, up_n ck]
        have ei : (fun j' => if j' = k then S else I j') j = I j := if_neg ck
        rw [ei]
        refine ⟨(h9 j hj).1, fun hi => ⟨((h9 j hj).2 hi).1, rS_ext (g9.1 j hj).1.1.1 (g9.1 j hj).1.1.2.2.2.2.1.1 (fun i hi => ?_) ((h9 j hj).2 hi).2⟩⟩
        unfold cpI
        rw [if_neg (by omega)]
    · by_cases ck : j = k
      · subst ck; rw [up_e]; exact Or.inr rfl
      · rw [up_n ck]; exact g8 j hj
    · by_cases ck : j = k
      · have ei : (fun j' => if j' = k then S else I j') j = S := if_pos ck
        rw [ei]; exact ⟨g4, g5⟩
      · have ei : (fun j' => if j' = k then S else I j') j = I j := if_neg ck
        rw [ei]; exact g9.1 j hj
theorem a_back (hD : 50 ≤ D) (hab : a + 204 ≤ b) (h : REL f a b) (x1 : -2147483648 ≤ x) (x2 : x ≤ 2147483647) : AG D a b 134 252 [.int (xj x)] f w := by
  obtain ⟨n, nr, T, ru, S, H, im, I, R, hp, hm, hr, hx⟩ := h
  have hr0 := hr
  have hx0 := hx
  obtain ⟨g1, g2, g3, g4, g5, g6, g7, g8, g9⟩ := hx
  obtain ⟨h1, h2, h3, h4, h5, h6, h7, h8, h9⟩ := hr
  refine p_back (by omega) hp g4.1 (fun k hk => (g9.1 k hk).1.1) g8 x1 x2 (fun hc => ag_cl hab hm (fun _ _ => rfl) ?_) (fun k hxk hk hi f' e hp' => ag_cl hab hm e ?_)
  · refine (m_back_no (by omega) x1 x2 (fun q => hc ⟨q.1, ?_⟩) (fun i hi => by rw [(h9 i hi).1]; exact g8 i hi)).mpr ⟨_, rfl, rfl, rel_mk hab hp hr0 hx0⟩
    have q2 := q.2
    rw [(h9 x.toNat (by omega)).1] at q2
    rcases g8 x.toNat (by omega) with c | c
    · exact absurd c q2
    · exact c
  · subst hxk
    obtain ⟨i1, i2⟩ := (h9 k hk).2 hi
    have gk := g9.1 k hk
    have e20 : mA (backR R k) 20 = cpI (mA R 20) (mA R 44) 0 (115 * k) 115 := mA_A
    have v20 : ∀ i, i < 115 → cpI (mA R 20) (mA R 44) 0 (115 * k) 115 i = mA R 44 (115 * k + i) := fun i hi => by
      unfold cpI
      rw [if_pos (by omega), Nat.sub_zero]
    have rs := rS_ext gk.1.1.1 gk.1.1.2.2.2.2.1.1 v20 i2
    refine (m_back (by omega) hk (by rw [(h9 k hk).1]; exact hi)).mpr ⟨_, by rw [← mD_m (I k).1, ← i2.2.1.1], rfl, rel_mk hab hp' ⟨rT_ext (R := R) rfl (mA_Ao (by decide)) h1, h2, fun k hk => rRu_ext (R := R) (mA_Ao (by decide)) (mA_Ao (by decide)) (mA_Ao (by decide)) (h3 k hk), ⟨gk.1.1.1, xw_mD gk.1.1.2.2.1, by rw [e20]; exact rs.1, by rw [e20]; exact rs.2.1⟩, by rw [e20]; exact rs.2.2, i1, h7, ⟨rfl, by show 0 ≤ 20; omega, fun j hj => absurd hj (Nat.not_lt_zero j)⟩, rI_ext (mA_Ao (by decide)) (mA_Ao (by decide)) (mA_Ao (by decide)) h9⟩ ⟨g1, g2, g3, gk.1, gk.2, ⟨g6.1, by show 0 ≤ 20; omega, g6.2.2⟩, fun j hj => absurd hj (Nat.not_lt_zero j), g8, g9.1, fun _ => rfl⟩⟩
end XS9c04
