/-! the model: a test as the grammar reads it -/
def gT (T : Nat → Int) (n : Nat) (s : Ps) : Pr := gTest T n (gFact T n 10) s
theorem bdP_r (s : Ps) (k : Ps → Pr) : bdP (.inr s) k = k s := rfl
section XS82
variable {D b k p q n t c v : Nat} {f g : Nat → xk_C} {w : Nat × Nat × Nat} {K : Option Value → xk_S → Prop} {R : Md} {x y z : Int} {T : Nat → Int} {s : Ps} {σ : List Nat} {j : Value} {R0 : Md} {F : Ps → Pr} {e : Nat}
theorem ts_L (hD : 8 ≤ D) (hn : n ≤ 400) (he : e ≤ 10) (hF : PF D b f w K T n t R0 e F) (hFr : ∀ s s', F s = .inr s' → rmP T n s s' ∧ s.1 < s'.1) (ho : okS σ) (ht : tpS σ) (hl : σ.length ≤ 3 * e) (hd : dpS σ = e) : ∀ (fu : Nat) (a wt : Bool) (p c : Nat) (ms : List St) (R : Md) (l2 : Value), n + 1 ≤ p + fu → frX t R0 R → rP R T n t (p, c, ms) → sgR R (pnS a wt ++ σ) → (ms ++ bO a).length + nO wt < p → (∀ (a' wt' : Bool) (p' c' : Nat) (ms' : List St) (R' : Md) (l2' : Value), frX t R0 R' → rP R' T n t (p', c', ms') → sgR R' (pnS a' wt' ++ σ) → wdA T n p' ≠ 18 → wdA T n p' ≠ 19 → (ms' ++ bO a').length + nO wt' < p' → tsF T n F fu wt (p, c, ms ++ bO a) = .inr (p', c', (ms' ++ bO a') ++ eO wt') → Dn D b f w K l2' R') → (∀ er : Nat, tsF T n F fu wt (p, c, ms ++ bO a) = .inl er → ∀ R', frX t R0 R' → mS R' 9 = (er : Nat) → K (some (.int (xj 0))) (xm f b R', w)) → Dn D b f w K l2 R := by
  intro fu
  induction fu with
  | zero =>
    intro a wt p c ms R l2 h1 hf hp
    have h2 : p ≤ n := (rP_at hp).1
    omega
  | succ fu ih =>
    intro a wt p c ms R l2 h1 hf hp hg hr hend hno
    have h2 : p ≤ n := (rP_at hp).1
    have hln := pn_len a wt σ
    have hna := nO_le a
    have hnw := nO_le wt
    have hms : ms.length ≤ (ms ++ bO a).length := by rw [List.length_append]; omega
    have ho2 : okS (pnS a wt ++ σ) := pn_ok ho
    have hp8 : rP (sS R 8 (p : Nat)) T n t (p, c, ms) := rP_8 hp h2 (at_sk hn (rP_at hp))
    have hg8 : sgR (sS R 8 (p : Nat)) (pnS a wt ++ σ) := hg
    have hf8 : frX t R0 (sS R 8 (p : Nat)) := frX_t hf (frX_S (by omega))
    by_cases c1 : wdA T n p = 18
    · have ht1 : tsF T n F (fu + 1) wt (p, c, ms ++ bO a) = bdP (F (nxT T n p, c, (ms ++ bO a) ++ eO wt)) (tsF T n F fu true) := if_pos c1
      rw [ht1] at hend hno
      refine dn_q (by omega) hg ht (by omega) (cl_out (by omega) hp hg ho2 (by omega) (Or.inl (wd_see (by show 0 ≤ wdA T n p; omega)).2) ?_)
      refine td_or (a := a) (wt := wt) (σ := σ) (by omega) hp8 mS_S hg8 ht (by omega) (by omega) c1 (fun R2 l2' j' f2 p2 g2 => ?_)
      obtain ⟨n1, n2, n3⟩ := nx_rng (T := T) hn (wd_lt (T := T) (n := n) (p := p) (by omega)).1
      have hlen : ((ms ++ bO a) ++ eO wt).length = (ms ++ bO a).length + nO wt := by rw [List.length_append, eO_len]
      have h01 : nO false = 0 := rfl
      have h02 : nO true = 1 := rfl
      have hl3 := pn_len false true σ
      refine hF (nxT T n p, c, (ms ++ bO a) ++ eO wt) (pnS false true ++ σ) R2 l2' j' (frX_t hf8 f2) p2 g2 (pn_ok ho) (by omega) (by rw [pn_dp, hd]) (by show ((ms ++ bO a) ++ eO wt).length < nxT T n p; omega) (fun s1 hs1 R3 l3 f3 p3 g3 => ?_) (fun er hs1 R3 f3 m9 => ?_)
      · rw [hs1] at hend hno
        obtain ⟨⟨q1, q2, q3, q4⟩, q5⟩ := hFr _ _ hs1
        have q4 : s1.2.2.length + nxT T n p ≤ ((ms ++ bO a) ++ eO wt).length + s1.1 := q4
        have q5 : nxT T n p < s1.1 := q5
        have en : s1.2.2 ++ bO false = s1.2.2 := List.append_nil _
        exact ih false true s1.1 s1.2.1 s1.2.2 R3 l3 (by omega) f3 p3 g3 (by rw [en]; omega) (by rw [en]; exact hend) (by rw [en]; exact hno)
      · exact hno er (by rw [hs1]; rfl) R3 f3 m9
    · by_cases c2 : wdA T n p = 19
      · have ht1 : tsF T n F (fu + 1) wt (p, c, ms ++ bO a) = bdP (F (nxT T n p, c, ms ++ bO a)) (fun s1 => tsF T n F fu wt (s1.1, s1.2.1, s1.2.2 ++ [(12, 0)])) := (if_neg c1).trans (if_pos c2)
        rw [ht1] at hend hno
        refine dn_q (by omega) hg ht (by omega) (cl_out (by omega) hp hg ho2 (by omega) (Or.inl (wd_see (by show 0 ≤ wdA T n p; omega)).2) ?_)
        refine td_and (a := a) (wt := wt) (σ := σ) (by omega) hp8 mS_S hg8 ht (by omega) (by omega) c2 (fun R2 l2' j' f2 p2 g2 => ?_)
        obtain ⟨n1, n2, n3⟩ := nx_rng (T := T) hn (wd_lt (T := T) (n := n) (p := p) (by omega)).1
        have h02 : nO true = 1 := rfl
        have hl3 := pn_len true wt σ
        refine hF (nxT T n p, c, ms ++ bO a) (pnS true wt ++ σ) R2 l2' j' (frX_t hf8 f2) p2 g2 (pn_ok ho) (by omega) (by rw [pn_dp, hd]) (by show (ms ++ bO a).length < nxT T n p; omega) (fun s1 hs1 R3 l3 f3 p3 g3 => ?_) (fun er hs1 R3 f3 m9 => ?_)
        · rw [hs1] at hend hno
          obtain ⟨⟨q1, q2, q3, q4⟩, q5⟩ := hFr _ _ hs1
          have q4 : s1.2.2.length + nxT T n p ≤ (ms ++ bO a).length + s1.1 := q4
          have q5 : nxT T n p < s1.1 := q5
          have el : (s1.2.2 ++ bO true).length = s1.2.2.length + 1 := by rw [List.length_append]; rfl
          exact ih true wt s1.1 s1.2.1 s1.2.2 R3 l3 (by omega) f3 p3 g3 (by omega) hend hno
        · exact hno er (by rw [hs1]; rfl) R3 f3 m9
      · have ht1 : tsF T n F (fu + 1) wt (p, c, ms ++ bO a) = .inr (p, c, (ms ++ bO a) ++ eO wt) := (if_neg c1).trans (if_neg c2)
        exact hend a wt p c ms R l2 hf hp hg c1 c2 hr ht1
theorem u_fact (hD : 8 ≤ D) (hn : n ≤ 400) : ∀ d e : Nat, e + d = 10 → PF D b f w K T n t R0 e (gFact T n d) := by
  intro d
  induction d with
  | zero =>
    intro e he s σ R l2 j hf hp hg ho hl hd hr hok hno
    by_cases c1 : wdA T n s.1 = 20
    · exact fc_not (by omega) hp hg (by omega) (by omega) c1 (fun h => by omega) (fun _ R' f1 m9 => hno _ (if_pos c1) R' (frX_t hf f1) m9)
    · by_cases c2 : seeF T n s.1 = 91
      · exact fc_br (by omega) hp hg (by omega) (by omega) c2 (fun h => by omega) (fun _ R' f1 m9 => hno _ ((if_neg c1).trans (if_pos c2)) R' (frX_t hf f1) m9)
      · have e1 : gFact T n 0 s = gCmp T n s := (if_neg c1).trans (if_neg c2)
        exact fc_cmp hD hp hg hr c1 c2 (fun s' hs R' f1 p1 g1 => hok s' (e1.trans hs) R' l2 (frX_t hf f1) p1 g1) (fun er hs R' f1 m9 => hno er (e1.trans hs) R' (frX_t hf f1) m9)
  | succ d ih =>
    intro e he s σ R l2 j hf hp hg ho hl hd hr hok hno
    by_cases c1 : wdA T n s.1 = 20
    · have e1 : gFact T n (d + 1) s = bdP (gFact T n d (nxT T n s.1, s.2)) (fun s1 => .inr (s1.1, s1.2.1, s1.2.2 ++ [(14, 0)])) := if_pos c1
      rw [e1] at hok hno
      obtain ⟨n1, n2, n3⟩ := nx_rng (T := T) hn (wd_lt (T := T) (n := n) (p := s.1) (by omega)).1
      refine fc_not (by omega) hp hg (by omega) (by omega) c1 (fun _ R1 j' f1 p1 g1 => ?_) (fun h => by omega)
      refine ih (e + 1) (by omega) (nxT T n s.1, s.2) (11 :: σ) R1 l2 j' (frX_t hf f1) p1 g1 (fun x hx => ?_) (by show σ.length + 1 ≤ _; omega) (by show (if 11 = 11 ∨ 11 = 91 then 1 else 0) + dpS σ = e + 1; rw [if_pos (Or.inl rfl)]; omega) (by show s.2.2.length < nxT T n s.1; omega) (fun s1 hs1 R2 l3 f2 p2 g2 => ?_) (fun er hs1 R2 f2 m9 => ?_)
      · rcases List.mem_cons.mp hx with h | h
        · omega
        · exact ho x h
      · rw [hs1] at hok
        obtain ⟨⟨q1, q2, q3, q4⟩, q5⟩ := gFact_rm hn d _ _ hs1
        have q4 : s1.2.2.length + nxT T n s.1 ≤ s.2.2.length + s1.1 := q4
        exact dn_not (p := s1.1) (c := s1.2.1) (ms := s1.2.2) (by omega) p2 g2 (by omega) (by omega) (fun R3 f3 p3 g3 => hok _ rfl R3 l3 (frX_t f2 f3) p3 g3)
      · exact hno er (by rw [hs1]; rfl) R2 f2 m9
    · by_cases c2 : seeF T n s.1 = 91
      · have e1 : gFact T n (d + 1) s = bdP (gTest T n (gFact T n d) (nxT T n s.1, s.2)) (fun s1 => if seeF T n s1.1 = 93 then .inr (nxT T n s1.1, s1.2) else .inl (1 + 8 * s1.1)) := (if_neg c1).trans (if_pos c2)
        rw [e1] at hok hno
        obtain ⟨n1, n2, n3⟩ := nx_rng (T := T) hn (see_lt (T := T) (n := n) (p := s.1) (by omega))
        have hd1 : dpS (91 :: σ) = e + 1 := by show (if 91 = 11 ∨ 91 = 91 then 1 else 0) + dpS σ = e + 1; rw [if_pos (Or.inr rfl)]; omega
        have ho1 : okS (91 :: σ) := fun x hx => by
          rcases List.mem_cons.mp hx with h | h
          · omega
          · exact ho x h
        have hl1 : (91 :: σ).length = σ.length + 1 := rfl
        refine fc_br (by omega) hp hg (by omega) (by omega) c2 (fun _ R1 j' f1 p1 g1 => ?_) (fun h => by omega)
        refine ih (e + 1) (by omega) (nxT T n s.1, s.2) (91 :: σ) R1 l2 j' (frX_t hf f1) p1 g1 ho1 (by omega) hd1 (by show s.2.2.length < nxT T n s.1; omega) (fun s1 hs1 R2 l3 f2 p2 g2 => ?_) (fun er hs1 R2 f2 m9 => ?_)
        · have e2 : gTest T n (gFact T n d) (nxT T n s.1, s.2) = tsF T n (gFact T n d) 401 false s1 := by unfold gTest; rw [hs1, bdP_r]
          rw [e2] at hok hno
          obtain ⟨⟨q1, q2, q3, q4⟩, q5⟩ := gFact_rm hn d _ _ hs1
          have q4 : s1.2.2.length + nxT T n s.1 ≤ s.2.2.length + s1.1 := q4
          have en : s1.2.2 ++ bO false = s1.2.2 := List.append_nil _
          refine ts_L hD hn (by omega) (ih (e + 1) (by omega)) (gFact_rm hn d) ho1 (Or.inr ⟨σ, rfl⟩) (by omega) hd1 401 false false s1.1 s1.2.1 s1.2.2 R2 l3 (by omega) f2 p2 g2 (by rw [en]; show s1.2.2.length + 0 < s1.1; omega) (fun a' wt' p' c' ms' R3 l4 f3 p3 g3 w1 w2 r3 hts => ?_) (fun er hts R3 f3 m9 => ?_)
          · rw [en] at hts
            have hts : tsF T n (gFact T n d) 401 false s1 = .inr (p', c', (ms' ++ bO a') ++ eO wt') := hts
            rw [hts] at hok hno
            have h2 : p' ≤ n := (rP_at p3).1
            have hms : ms'.length ≤ (ms' ++ bO a').length := by rw [List.length_append]; omega
            have hl3 := pn_len a' wt' (91 :: σ)
            have hna := nO_le a'
            have hnw := nO_le wt'
            by_cases c3 : seeF T n p' = 93
            · have hok : ∀ s', (if seeF T n p' = 93 then (Sum.inr (nxT T n p', c', (ms' ++ bO a') ++ eO wt') : Pr) else .inl (1 + 8 * p')) = .inr s' → ∀ R' l2', frX t R0 R' → rP R' T n t s' → sgR R' σ → Dn D b f w K l2' R' := hok
              rw [if_pos c3] at hok
              exact dn_q (by omega) g3 (Or.inr ⟨σ, rfl⟩) (by omega) (cl_in (by omega) hn p3 g3 (pn_ok ho1) (by omega) (by show (ms' ++ bO a').length < 400; omega) c3 (fun R4 f4 p4 g4 => hok _ rfl R4 l4 (frX_t f3 f4) p4 g4))
            · have hno : ∀ er : Nat, (if seeF T n p' = 93 then (Sum.inr (nxT T n p', c', (ms' ++ bO a') ++ eO wt') : Pr) else .inl (1 + 8 * p')) = .inl er → ∀ R', frX t R0 R' → mS R' 9 = (er : Nat) → K (some (.int (xj 0))) (xm f b R', w) := hno
              rw [if_neg c3] at hno
              have p8 : rP (sS R3 8 (p' : Nat)) T n t (p', c', ms') := rP_8 p3 h2 (at_sk hn (rP_at p3))
              have g8 : sgR (sS R3 8 (p' : Nat)) (pnS a' wt' ++ 91 :: σ) := g3
              exact dn_q (by omega) g3 (Or.inr ⟨σ, rfl⟩) (by omega) (cl_out (by omega) p3 g3 (pn_ok ho1) (by omega) (Or.inl c3) (td_in (by omega) p8 mS_S g8 (pn_ok ho1) (by omega) (List.mem_append_right _ List.mem_cons_self) w1 w2 (fun R4 f4 m9 => hno _ rfl R4 (frX_t f3 (frX_t (frX_S (by omega)) f4)) m9)))
          · rw [en] at hts
            have hts : tsF T n (gFact T n d) 401 false s1 = .inl er := hts
            rw [hts] at hno
            exact hno er rfl R3 f3 m9
        · exact hno er (by unfold gTest; rw [hs1]; rfl) R2 f2 m9
      · have e1 : gFact T n (d + 1) s = gCmp T n s := (if_neg c1).trans (if_neg c2)
        exact fc_cmp hD hp hg hr c1 c2 (fun s' hs R' f1 p1 g1 => hok s' (e1.trans hs) R' l2 (frX_t hf f1) p1 g1) (fun er hs R' f1 m9 => hno er (e1.trans hs) R' (frX_t hf f1) m9)
theorem gT_rm {s s' : Ps} (hn : n ≤ 400) (h : gT T n s = .inr s') : rmP T n s s' ∧ s.1 < s'.1 := gTest_rm hn (gFact_rm hn 10) h
theorem u_tested (hD : 9 ≤ D) (hp : rP R T n t s) (hr : s.2.2.length < s.1) (hok : ∀ s', gT T n s = .inr s' → ∀ R', frX t R R' → rP R' T n t s' → K (some (.int (xj 1))) (xm f b R', w)) (hno : ∀ e : Nat, gT T n s = .inl e → ∀ R', frX t R R' → mS R' 9 = (e : Nat) → K (some (.int (xj 0))) (xm f b R', w)) : xk_Cl D 169 [.ref b] (xm f b R, w) K := by
  have hn := hp.1.2.1
  rw [e169 (by omega)]
  have hp0 : rP (sS (sS R 16 0) 13 0) T n t s := hp
  have hg0 : sgR (sS (sS R 16 0) 13 0) [] := ⟨by rw [mS_So (by decide), mS_S]; rfl, by rw [mS_S]; rfl, trivial⟩
  have hf0 : frX t R (sS (sS R 16 0) 13 0) := frX_t (frX_S (by omega)) (frX_S (by omega))
  have ho0 : okS [] := fun x hx => by cases hx
  have po : Fc (D - 1) b f w K xk_dd xk_dd (sS (sS R 16 0) 13 0) := by
    refine u_fact (R0 := R) (by omega) hn 10 0 (by omega) s [] _ xk_dd xk_dd hf0 hp0 hg0 ho0 (by show 0 ≤ _; omega) rfl hr (fun s1 hs1 R2 l3 f2 p2 g2 => ?_) (fun er hs1 R2 f2 m9 => ?_)
    · have e2 : gT T n s = tsF T n (gFact T n 10) 401 false s1 := by unfold gT gTest; rw [hs1, bdP_r]
      rw [e2] at hok hno
      obtain ⟨⟨q1, q2, q3, q4⟩, q5⟩ := gFact_rm hn 10 _ _ hs1
      have en : s1.2.2 ++ bO false = s1.2.2 := List.append_nil _
      refine ts_L (by omega) hn (by omega) (u_fact (by omega) hn 10 0 (by omega)) (gFact_rm hn 10) ho0 (Or.inl rfl) (by show 0 ≤ _; omega) rfl 401 false false s1.1 s1.2.1 s1.2.2 R2 l3 (by omega) f2 p2 g2 (by rw [en]; show s1.2.2.length + 0 < s1.1; omega) (fun a' wt' p' c' ms' R3 l4 f3 p3 g3 w1 w2 r3 hts => ?_) (fun er hts R3 f3 m9 => ?_)
      · rw [en] at hts
        have h2 : p' ≤ n := (rP_at p3).1
        have hms : ms'.length ≤ (ms' ++ bO a').length := by rw [List.length_append]; omega
        have p8 : rP (sS R3 8 (p' : Nat)) T n t (p', c', ms') := rP_8 p3 h2 (at_sk hn (rP_at p3))
        have g8 : sgR (sS R3 8 (p' : Nat)) (pnS a' wt' ++ []) := g3
        exact dn_q (by omega) g3 (Or.inl rfl) (by show 0 < 398; omega) (cl_out (by omega) p3 g3 (pn_ok ho0) (by cases a' <;> cases wt' <;> decide) (Or.inr (by cases a' <;> cases wt' <;> decide)) (td_end (by omega) p8 mS_S g8 (by omega) w1 w2 (fun R4 f4 p4 => hok _ hts R4 (frX_t f3 (frX_t (frX_S (by omega)) f4)) p4)))
      · rw [en] at hts
        exact hno er hts R3 f3 m9
    · exact hno er (by unfold gT gTest; rw [hs1]; rfl) R2 f2 m9
  unfold Fc at po
  simp (disch := omega) only [b169_0, b169_1, b169_2, b169_5, b169_6, b169_7, b169_10, b169_11, b169_12, b169_13, b169_16, ↓gm_0, ↓gm_1, ↓gm_2, ↓gm_3, ↓gm_4, ↓gm_5, ↓gm_6, ↓gm_7, ↓gm_8, ↓gm_9, ↓gm_10, ↓gm_11, ↓gm_12, ↓gm_13, ↓gm_14, ↓gm_15, ↓gm_16, ↓gm_17, ↓gm_18, ↓gm_19, ↓gm_20, ↓gm_21, ↓gm_22, ↓gm_23, ↓gm_24, ↓gm_25, ↓gm_26, ↓gm_27, ↓gm_28, ↓gm_29, ↓gm_30, ↓gm_31, ↓gm_32, ↓gm_33, ↓gm_34, ↓gm_35, ↓gm_36, ↓gm_37, ↓gm_38, ↓gm_39, ↓gm_40, ↓gm_41, ↓gm_42, ↓gm_43, ↓gm_44, ↓gm_45, ↓gm_46, ↓pm_1, ↓pm_2, ↓pm_8, ↓pm_9, ↓pm_10, ↓pm_11, ↓pm_12, ↓pm_13, ↓pm_14, ↓pm_16, ↓pm_18, ↓pm_21, ↓pm_22, ↓pm_23, ↓pm_24, ↓pm_25, ↓pm_26, ↓pm_28, ↓pm_31, ↓pm_35, ↓pm_36, ↓pm_37, ↓pm_38, ↓pm_40, ↓pm_43, ↓am_0, ↓wm_0, ↓am_3, ↓wm_3, ↓am_4, ↓wm_4, ↓am_5, ↓wm_5, ↓am_6, ↓wm_6, ↓am_7, ↓wm_7, ↓am_15, ↓wm_15, ↓am_17, ↓wm_17, ↓am_19, ↓wm_19, ↓am_20, ↓wm_20, ↓am_27, ↓wm_27, ↓am_29, ↓wm_29, ↓am_30, ↓wm_30, ↓am_32, ↓wm_32, ↓am_33, ↓wm_33, ↓am_34, ↓wm_34, ↓am_39, ↓wm_39, ↓am_41, ↓wm_41, ↓am_42, ↓wm_42, ↓am_44, ↓wm_44, ↓am_45, ↓wm_45, ↓am_46, ↓wm_46, ↓wn_0, ↓wn_46, or_false, false_or, rc_M, List.getElem?_cons_zero, List.getElem?_cons_succ, List.length_cons, List.length_nil, List.set_cons_zero, List.set_cons_succ, true_and, and_true, Option.toList_some, Option.toList_none, List.cons_append, List.nil_append, ↓reduceIte, not_false_eq_true, not_true_eq_false, Nat.reduceAdd, xj0_01, xj1_01, xb_B, xb_True, xb_False, ↓xj_in, xj_nat, Int.toNat_natCast, xj_lt_t, xj_lt_f, xj_le_t, xj_le_f, xj_eq_t, xj_eq_f, xj_lt, xj_le, xj_eq, xj_add, xj_sub, xj_mul, show ¬ xj 1 = xj 0 from by decide]
  rw [b169_17, rc_M, true_and, e166 (by omega)]
  simp (disch := omega) only [b166_0, b166_1, List.getElem?_cons_zero, List.getElem?_cons_succ, List.length_cons, List.length_nil, List.set_cons_zero, List.set_cons_succ, true_and, and_true, Option.toList_some, Option.toList_none, List.cons_append, List.nil_append, ↓reduceIte, not_false_eq_true, not_true_eq_false, Nat.reduceAdd, xj0_01, xj1_01, xb_B, xb_True, xb_False]
  exact po
end XS82
