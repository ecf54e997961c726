/-! what is read is well made -/
def pcL (s s' : Ps) : Prop := pcC s'.2.2 + s.2.1 ≤ pcC s.2.2 + s'.2.1 ∧ (s.2.1 ≤ 60 → s'.2.1 ≤ 60)
def tyR (b : Bool) (s s' : Ps) : Prop := (∀ ts, tyC s.2.2 [] = some ts → tyC s'.2.2 [] = some (b :: ts)) ∧ pcL s s'
def tyL (b : Bool) (s s' : Ps) : Prop := (∀ ts, tyC s.2.2 [] = some (b :: ts) → tyC s'.2.2 [] = some (b :: ts)) ∧ pcL s s'
theorem pcL_t {s s1 s2 : Ps} (h : pcL s s1) (h' : pcL s1 s2) : pcL s s2 := ⟨by have := h.1; have := h'.1; omega, fun q => h'.2 (h.2 q)⟩
theorem ty_snoc {cs : List St} {c : St} {ts ts' : List Bool} (h : tyC cs [] = some ts) (h1 : ty1 c ts = some ts') : tyC (cs ++ [c]) [] = some ts' := by
  rw [tyC_app, h]
  show (match ty1 c ts with | some ts' => tyC [] ts' | none => none) = some ts'
  rw [h1]
  rfl
theorem pc_snoc (cs : List St) (c : St) : pcC (cs ++ [c]) = pcC cs + (if c.1 ≤ 1 then 1 else 0) := by rw [pcC_app]; rfl
theorem pc_snoc2 {cs : List St} {c : St} (h : 2 ≤ c.1) : pcC (cs ++ [c]) = pcC cs := by rw [pc_snoc, if_neg (by omega)]; rfl
theorem ty1_num {o : Nat} {ts : List Bool} (h1 : 2 ≤ o) (h2 : o ≤ 6) : ty1 (o, 0) (false :: false :: ts) = some (false :: ts) := by
  unfold ty1
  show (if o = 0 then _ else if o = 1 then _ else if o = 14 then _ else if o ≤ 6 then _ else _) = _
  rw [if_neg (by omega), if_neg (by omega), if_neg (by omega), if_pos h2]
theorem ty1_cmp {o : Nat} {ts : List Bool} (h1 : 7 ≤ o) (h2 : o ≤ 11) : ty1 (o, 0) (false :: false :: ts) = some (true :: ts) := by
  unfold ty1
  show (if o = 0 then _ else if o = 1 then _ else if o = 14 then _ else if o ≤ 6 then _ else if o ≤ 11 then _ else _) = _
  rw [if_neg (by omega), if_neg (by omega), if_neg (by omega), if_neg (by omega), if_pos h2]
theorem gVal_ty {T : Nat → Int} {n : Nat} {s s' : Ps} (h : gVal T n s = .inr s') : tyR false s s' := by
  unfold gVal at h
  split at h
  · rename_i hk
    split at h
    · cases h
    · rename_i hv
      split at h
      · cases h
      · rename_i h60
        cases h
        have hva : vaT T n s.1 = if 5 < dgE T n s.1 - s.1 then -1 else nvF T s.1 (dgE T n s.1 - s.1) := by unfold vaT; rw [if_neg (by omega), if_pos hk]
        have hr := nv_rng2 (T := T) (n := n) (p := s.1) (dgE T n s.1 - s.1) (fun i hi => reF_all (dgB T n) 400 s.1 (s.1 + i) (by omega) (by show s.1 + i < dgE T n s.1; omega))
        have hb : (vaT T n s.1).toNat < 100000 := by
          rw [hva]
          split
          · decide
          · omega
        refine ⟨fun ts ht => ty_snoc ht ?_, ?_, fun _ => by show s.2.1 + 1 ≤ 60; omega⟩
        · show (if (vaT T n s.1).toNat < 100000 then some (false :: ts) else none) = _
          rw [if_pos hb]
        · show pcC (s.2.2 ++ [_]) + s.2.1 ≤ pcC s.2.2 + (s.2.1 + 1)
          rw [pc_snoc, if_pos (Nat.zero_le _)]
          omega
  · split at h
    · rename_i hk
      split at h
      · cases h
      · rename_i h60
        cases h
        refine ⟨fun ts ht => ty_snoc ht ?_, ?_, fun _ => by show s.2.1 + 1 ≤ 60; omega⟩
        · show (if (vaT T n s.1).toNat < 13 then some (false :: ts) else none) = _
          rw [if_pos (by omega)]
        · show pcC (s.2.2 ++ [_]) + s.2.1 ≤ pcC s.2.2 + (s.2.1 + 1)
          rw [pc_snoc, if_pos (Nat.le_refl _)]
          omega
    · cases h
theorem opM_v {T : Nat → Int} {n p : Nat} (h : opM T n p ≠ 0) : 2 ≤ opM T n p ∧ opM T n p ≤ 6 := by
  revert h
  unfold opM
  split
  · split
    · omega
    · split
      · omega
      · split <;> omega
  · omega
theorem opS_v {T : Nat → Int} {n p : Nat} (h : opS T n p ≠ 0) : 2 ≤ opS T n p ∧ opS T n p ≤ 6 := by
  revert h
  unfold opS
  split
  · split
    · omega
    · split <;> omega
  · omega
theorem opC_v {T : Nat → Int} {n p : Nat} (h : opC T n p ≠ 0) : 7 ≤ opC T n p ∧ opC T n p ≤ 11 := by
  revert h
  unfold opC
  split
  · split
    · omega
    · split
      · omega
      · split
        · omega
        · split
          · omega
          · split <;> omega
  · omega
theorem tm_ty {T : Nat → Int} {n : Nat} : ∀ f (s s' : Ps), tmF T n f s = .inr s' → tyL false s s' := by
  intro f
  induction f with
  | zero => intro s s' h; cases h; exact ⟨fun _ q => q, Nat.le_refl _, fun q => q⟩
  | succ f ih =>
    intro s s' h
    unfold tmF at h
    split at h
    · cases h; exact ⟨fun _ q => q, Nat.le_refl _, fun q => q⟩
    · rename_i ho
      obtain ⟨s1, h1, h2⟩ := bd_inr h
      have v1 := gVal_ty h1
      have v2 := ih _ _ h2
      have ov := opM_v ho
      have pl : pcL s1 (s1.1, s1.2.1, s1.2.2 ++ [(opM T n s.1, 0)]) := ⟨by show pcC (s1.2.2 ++ [(opM T n s.1, 0)]) + _ ≤ _; rw [pc_snoc2 ov.1]; exact Nat.le_refl _, fun q => q⟩
      exact ⟨fun ts q => v2.1 ts (ty_snoc (v1.1 _ q) (ty1_num ov.1 ov.2)), pcL_t (show pcL s s1 from v1.2) (pcL_t pl v2.2)⟩
theorem gTerm_ty {T : Nat → Int} {n : Nat} {s s' : Ps} (h : gTerm T n s = .inr s') : tyR false s s' := by
  obtain ⟨s1, h1, h2⟩ := bd_inr h
  have v1 := gVal_ty h1
  have v2 := tm_ty _ _ _ h2
  exact ⟨fun ts q => v2.1 ts (v1.1 ts q), pcL_t v1.2 v2.2⟩
theorem su_ty {T : Nat → Int} {n : Nat} : ∀ f (s s' : Ps), suF T n f s = .inr s' → tyL false s s' := by
  intro f
  induction f with
  | zero => intro s s' h; cases h; exact ⟨fun _ q => q, Nat.le_refl _, fun q => q⟩
  | succ f ih =>
    intro s s' h
    unfold suF at h
    split at h
    · cases h; exact ⟨fun _ q => q, Nat.le_refl _, fun q => q⟩
    · rename_i ho
      obtain ⟨s1, h1, h2⟩ := bd_inr h
      have v1 := gTerm_ty h1
      have v2 := ih _ _ h2
      have ov := opS_v ho
      have pl : pcL s1 (s1.1, s1.2.1, s1.2.2 ++ [(opS T n s.1, 0)]) := ⟨by show pcC (s1.2.2 ++ [(opS T n s.1, 0)]) + _ ≤ _; rw [pc_snoc2 ov.1]; exact Nat.le_refl _, fun q => q⟩
      exact ⟨fun ts q => v2.1 ts (ty_snoc (v1.1 _ q) (ty1_num ov.1 ov.2)), pcL_t (show pcL s s1 from v1.2) (pcL_t pl v2.2)⟩
theorem gSum_ty {T : Nat → Int} {n : Nat} {s s' : Ps} (h : gSum T n s = .inr s') : tyR false s s' := by
  obtain ⟨s1, h1, h2⟩ := bd_inr h
  have v1 := gTerm_ty h1
  have v2 := su_ty _ _ _ h2
  exact ⟨fun ts q => v2.1 ts (v1.1 ts q), pcL_t v1.2 v2.2⟩
theorem gCmp_ty {T : Nat → Int} {n : Nat} {s s' : Ps} (h : gCmp T n s = .inr s') : tyR true s s' := by
  obtain ⟨s1, h1, h2⟩ := bd_inr h
  have v1 := gSum_ty h1
  split at h2
  · cases h2
  · rename_i hop
    split at h2
    · cases h2
    · rename_i h60
      obtain ⟨s2, h3, h4⟩ := bd_inr h2
      cases h4
      have v2 := gSum_ty h3
      have ov := opC_v hop
      obtain ⟨a1, a2, a3⟩ := v1
      obtain ⟨b1, b2, b3⟩ := v2
      have b2 : pcC s2.2.2 + (s1.2.1 + 1) ≤ pcC s1.2.2 + s2.2.1 := b2
      refine ⟨fun ts q => ty_snoc (b1 _ (a1 ts q)) (ty1_cmp ov.1 ov.2), ?_, fun q => b3 (by show s1.2.1 + 1 ≤ 60; omega)⟩
      show pcC (s2.2.2 ++ [(opC T n s1.1, 0)]) + s.2.1 ≤ pcC s.2.2 + s2.2.1
      rw [pc_snoc2 (by show 2 ≤ opC T n s1.1; omega)]
      omega
theorem ty1_bin {o : Nat} {ts : List Bool} (h : o = 12 ∨ o = 13) : ty1 (o, 0) (true :: true :: ts) = some (true :: ts) := by
  rcases h with h | h <;> subst h <;> rfl
theorem ts_ty {T : Nat → Int} {n : Nat} {F : Ps → Pr} (hn : n ≤ 400) (hFr : ∀ s s', F s = .inr s' → rmP T n s s' ∧ s.1 < s'.1) (hF : ∀ s s', F s = .inr s' → tyR true s s') : ∀ f (wt : Bool) (s s' : Ps), n + 1 ≤ s.1 + f → s.1 ≤ n → tsF T n F f wt s = .inr s' → (∀ ts, tyC s.2.2 [] = some (true :: (if wt = true then true :: ts else ts)) → tyC s'.2.2 [] = some (true :: ts)) ∧ pcL s s' := by
  intro f
  induction f with
  | zero => intro wt s s' h1 h2; omega
  | succ f ih =>
    intro wt s s' h1 h2 h
    have pe : pcL s (s.1, s.2.1, s.2.2 ++ (if wt = true then [(13, 0)] else [])) := by
      refine ⟨?_, fun q => q⟩
      show pcC (s.2.2 ++ _) + s.2.1 ≤ pcC s.2.2 + s.2.1
      rw [pcC_app]
      cases wt <;> exact Nat.le_refl _
    have te : ∀ ts, tyC s.2.2 [] = some (true :: (if wt = true then true :: ts else ts)) → tyC (s.2.2 ++ (if wt = true then [(13, 0)] else [])) [] = some (true :: ts) := by
      intro ts q
      cases wt
      · show tyC (s.2.2 ++ []) [] = _
        rw [List.append_nil]; exact q
      · exact ty_snoc q (ty1_bin (Or.inr rfl))
    unfold tsF at h
    by_cases c : wdA T n s.1 = 18
    · rw [if_pos c] at h
      obtain ⟨s1, h3, h4⟩ := bd_inr h
      obtain ⟨⟨g1, g2, g3, g4⟩, g5⟩ := hFr _ _ h3
      obtain ⟨n1, n2, n3⟩ := nx_rng (T := T) hn (wd_lt (T := T) (n := n) (p := s.1) (by omega)).1
      have g5 : nxT T n s.1 < s1.1 := g5
      obtain ⟨a1, a2⟩ := hF _ _ h3
      obtain ⟨b1, b2⟩ := ih true s1 s' (by omega) g2 h4
      exact ⟨fun ts q => b1 ts (a1 _ (te ts q)), pcL_t pe (pcL_t (show pcL (s.1, s.2.1, s.2.2 ++ (if wt = true then [(13, 0)] else [])) s1 from a2) b2)⟩
    · rw [if_neg c] at h
      by_cases c2 : wdA T n s.1 = 19
      · rw [if_pos c2] at h
        obtain ⟨s1, h3, h4⟩ := bd_inr h
        obtain ⟨⟨g1, g2, g3, g4⟩, g5⟩ := hFr _ _ h3
        obtain ⟨n1, n2, n3⟩ := nx_rng (T := T) hn (wd_lt (T := T) (n := n) (p := s.1) (by omega)).1
        have g5 : nxT T n s.1 < s1.1 := g5
        obtain ⟨a1, a2⟩ := hF _ _ h3
        obtain ⟨b1, b2⟩ := ih wt (s1.1, s1.2.1, s1.2.2 ++ [(12, 0)]) s' (by show n + 1 ≤ s1.1 + f; omega) g2 h4
        have pl : pcL s1 (s1.1, s1.2.1, s1.2.2 ++ [(12, 0)]) := ⟨by show pcC (s1.2.2 ++ [(12, 0)]) + _ ≤ _; rw [pc_snoc2 (by decide)]; exact Nat.le_refl _, fun q => q⟩
        exact ⟨fun ts q => b1 ts (ty_snoc (a1 _ q) (ty1_bin (Or.inl rfl))), pcL_t (show pcL s s1 from a2) (pcL_t pl b2)⟩
      · rw [if_neg c2] at h
        cases h
        exact ⟨te, pe⟩
theorem gTest_ty {T : Nat → Int} {n : Nat} {F : Ps → Pr} (hn : n ≤ 400) (hFr : ∀ s s', F s = .inr s' → rmP T n s s' ∧ s.1 < s'.1) (hF : ∀ s s', F s = .inr s' → tyR true s s') {s s' : Ps} (h : gTest T n F s = .inr s') : tyR true s s' := by
  obtain ⟨s1, h3, h4⟩ := bd_inr h
  obtain ⟨⟨g1, g2, g3, g4⟩, g5⟩ := hFr _ _ h3
  obtain ⟨a1, a2⟩ := hF _ _ h3
  obtain ⟨b1, b2⟩ := ts_ty hn hFr hF 401 false s1 s' (by omega) g2 h4
  exact ⟨fun ts q => b1 ts (a1 _ q), pcL_t a2 b2⟩
theorem gFact_ty {T : Nat → Int} {n : Nat} (hn : n ≤ 400) : ∀ d (s s' : Ps), gFact T n d s = .inr s' → tyR true s s' := by
  intro d
  induction d with
  | zero =>
    intro s s' h
    unfold gFact at h
    by_cases c : wdA T n s.1 = 20
    · rw [if_pos c] at h; cases h
    · rw [if_neg c] at h
      by_cases c2 : seeF T n s.1 = 91
      · rw [if_pos c2] at h; cases h
      · rw [if_neg c2] at h; exact gCmp_ty h
  | succ d ih =>
    intro s s' h
    unfold gFact at h
    by_cases c : wdA T n s.1 = 20
    · rw [if_pos c] at h
      obtain ⟨s1, h3, h4⟩ := bd_inr h
      cases h4
      obtain ⟨a1, a2⟩ := ih _ _ h3
      have pl : pcL s1 (s1.1, s1.2.1, s1.2.2 ++ [(14, 0)]) := ⟨by show pcC (s1.2.2 ++ [(14, 0)]) + _ ≤ _; rw [pc_snoc2 (by decide)]; exact Nat.le_refl _, fun q => q⟩
      exact ⟨fun ts q => ty_snoc (a1 ts q) rfl, pcL_t (show pcL s s1 from a2) pl⟩
    · rw [if_neg c] at h
      by_cases c2 : seeF T n s.1 = 91
      · rw [if_pos c2] at h
        obtain ⟨s1, h3, h4⟩ := bd_inr h
        have a := gTest_ty hn (gFact_rm hn d) ih h3
        split at h4
        · cases h4
          exact a
        · cases h4
      · rw [if_neg c2] at h; exact gCmp_ty h
theorem gT_ty {T : Nat → Int} {n : Nat} {s s' : Ps} (hn : n ≤ 400) (h : gT T n s = .inr s') : tyR true s s' := gTest_ty hn (gFact_rm hn 10) (gFact_ty hn 10) h
/-! what stands ahead of it in the row is left as it was -/
def mpP (cs : List St) : Pr → Pr
  | .inl e => .inl e
  | .inr s => .inr (s.1, s.2.1, cs ++ s.2.2)
def shP (G : Ps → Pr) : Prop := ∀ (p c : Nat) (cs es : List St), G (p, c, cs ++ es) = mpP cs (G (p, c, es))
theorem sh_bd {cs : List St} {r : Pr} {k k' : Ps → Pr} (h : ∀ s : Ps, k (s.1, s.2.1, cs ++ s.2.2) = mpP cs (k' s)) : bdP (mpP cs r) k = mpP cs (bdP r k') := by
  cases r with
  | inl e => rfl
  | inr s => exact h s
theorem sh_if {cs : List St} {c : Prop} [Decidable c] {a a' b b' : Pr} (h1 : c → a = mpP cs a') (h2 : ¬ c → b = mpP cs b') : (if c then a else b) = mpP cs (if c then a' else b') := by
  by_cases h : c
  · rw [if_pos h, if_pos h]; exact h1 h
  · rw [if_neg h, if_neg h]; exact h2 h
theorem sh_as {cs es : List St} {x : St} {p c : Nat} : (Sum.inr (p, c, (cs ++ es) ++ [x]) : Pr) = mpP cs (.inr (p, c, es ++ [x])) := by
  show (Sum.inr (p, c, (cs ++ es) ++ [x]) : Pr) = .inr (p, c, cs ++ (es ++ [x]))
  rw [List.append_assoc]
theorem gVal_sh (T : Nat → Int) (n : Nat) : shP (gVal T n) := by
  intro p c cs es
  unfold gVal
  exact sh_if (fun _ => sh_if (fun _ => rfl) (fun _ => sh_if (fun _ => rfl) (fun _ => sh_as))) (fun _ => sh_if (fun _ => sh_if (fun _ => rfl) (fun _ => sh_as)) (fun _ => rfl))
theorem tm_sh (T : Nat → Int) (n : Nat) : ∀ f, shP (tmF T n f) := by
  intro f
  induction f with
  | zero => intro p c cs es; rfl
  | succ f ih =>
    intro p c cs es
    unfold tmF
    refine sh_if (fun _ => rfl) (fun _ => ?_)
    show bdP (gVal T n (nxT T n p, c, cs ++ es)) _ = _
    rw [gVal_sh]
    refine sh_bd (fun s => ?_)
    show tmF T n f (s.1, s.2.1, (cs ++ s.2.2) ++ [_]) = _
    rw [List.append_assoc, ih]
theorem gTerm_sh (T : Nat → Int) (n : Nat) : shP (gTerm T n) := by
  intro p c cs es
  unfold gTerm
  rw [gVal_sh]
  exact sh_bd (fun s => tm_sh T n 401 s.1 s.2.1 cs s.2.2)
theorem su_sh (T : Nat → Int) (n : Nat) : ∀ f, shP (suF T n f) := by
  intro f
  induction f with
  | zero => intro p c cs es; rfl
  | succ f ih =>
    intro p c cs es
    unfold suF
    refine sh_if (fun _ => rfl) (fun _ => ?_)
    show bdP (gTerm T n (nxT T n p, c, cs ++ es)) _ = _
    rw [gTerm_sh]
    refine sh_bd (fun s => ?_)
    show suF T n f (s.1, s.2.1, (cs ++ s.2.2) ++ [_]) = _
    rw [List.append_assoc, ih]
theorem gSum_sh (T : Nat → Int) (n : Nat) : shP (gSum T n) := by
  intro p c cs es
  unfold gSum
  rw [gTerm_sh]
  exact sh_bd (fun s => su_sh T n 401 s.1 s.2.1 cs s.2.2)
theorem gCmp_sh (T : Nat → Int) (n : Nat) : shP (gCmp T n) := by
  intro p c cs es
  unfold gCmp
  rw [gSum_sh]
  refine sh_bd (fun s => ?_)
  refine sh_if (fun _ => rfl) (fun _ => sh_if (fun _ => rfl) (fun _ => ?_))
  show bdP (gSum T n (nxT T n s.1, s.2.1 + 1, cs ++ s.2.2)) _ = _
  rw [gSum_sh]
  exact sh_bd (fun s2 => sh_as)
theorem ts_sh (T : Nat → Int) (n : Nat) {F : Ps → Pr} (hF : shP F) : ∀ f wt, shP (tsF T n F f wt) := by
  intro f
  induction f with
  | zero => intro wt p c cs es; rfl
  | succ f ih =>
    intro wt p c cs es
    unfold tsF
    refine sh_if (fun _ => ?_) (fun _ => sh_if (fun _ => ?_) (fun _ => ?_))
    · show bdP (F (nxT T n p, c, (cs ++ es) ++ _)) _ = _
      rw [List.append_assoc, hF]
      exact sh_bd (fun s => ih true s.1 s.2.1 cs s.2.2)
    · show bdP (F (nxT T n p, c, cs ++ es)) _ = _
      rw [hF]
      refine sh_bd (fun s => ?_)
      show tsF T n F f wt (s.1, s.2.1, (cs ++ s.2.2) ++ [_]) = _
      rw [List.append_assoc, ih]
    · show (Sum.inr (p, c, (cs ++ es) ++ _) : Pr) = .inr (p, c, cs ++ (es ++ _))
      rw [List.append_assoc]
theorem gTest_sh (T : Nat → Int) (n : Nat) {F : Ps → Pr} (hF : shP F) : shP (gTest T n F) := by
  intro p c cs es
  unfold gTest
  rw [hF]
  exact sh_bd (fun s => ts_sh T n hF 401 false s.1 s.2.1 cs s.2.2)
theorem gFact_sh (T : Nat → Int) (n : Nat) : ∀ d, shP (gFact T n d) := by
  intro d
  induction d with
  | zero =>
    intro p c cs es
    unfold gFact
    exact sh_if (fun _ => rfl) (fun _ => sh_if (fun _ => rfl) (fun _ => gCmp_sh T n p c cs es))
  | succ d ih =>
    intro p c cs es
    unfold gFact
    refine sh_if (fun _ => ?_) (fun _ => sh_if (fun _ => ?_) (fun _ => gCmp_sh T n p c cs es))
    · show bdP (gFact T n d (nxT T n p, c, cs ++ es)) _ = _
      rw [ih]
      exact sh_bd (fun s => sh_as)
    · show bdP (gTest T n (gFact T n d) (nxT T n p, c, cs ++ es)) _ = _
      rw [gTest_sh T n ih]
      refine sh_bd (fun s => ?_)
      exact sh_if (fun _ => rfl) (fun _ => rfl)
theorem gT_sh (T : Nat → Int) (n : Nat) : shP (gT T n) := gTest_sh T n (gFact_sh T n 10)
