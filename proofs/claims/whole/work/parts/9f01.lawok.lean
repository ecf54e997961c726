/-! the law: from its start to its end -/
section XS9f01
variable {L a s2 : Nat} {xs : Nat → Int32} {f g : Nat → xk_C} {w : Nat × Nat × Nat}
theorem xw_of0 : xw_Off of0 := ⟨Or.inr ⟨rfl, rfl, rfl, rfl, rfl, rfl, rfl⟩, by decide, by decide, by decide, fun i hi => absurd hi (Nat.not_lt_zero i), fun i hi => absurd hi (Nat.not_lt_zero i), fun i hi => absurd hi (Nat.not_lt_zero i)⟩
theorem xw_d00 : xw_Day of0 d00 := ⟨by decide, by decide, by decide, by decide, by decide, by decide, by decide, by decide, by decide, by decide, by decide, fun p hp => absurd hp (Nat.not_lt_zero p)⟩
theorem pw_dk0 : PW dk0 ∧ DW dk0.1 dk0.2.1 := by
  have vs : vsD d00 := fun p hp => by
    have hp : Nat.testBit 0 p = true := hp
    rw [Nat.zero_testBit] at hp; cases hp
  exact ⟨⟨⟨xw_of0, of0_z, xw_d00, fun _ _ => rfl, ⟨Nat.zero_le _, fun k hk => absurd hk (Nat.not_lt_zero k)⟩, fun _ _ => ⟨rfl, rfl, rfl⟩, by decide, by decide⟩, vs, fun k hk => absurd hk (Nat.not_lt_zero k)⟩, vs, fun _ => rfl⟩
theorem rel_0 (hp : xv_Pen g a 0 0 (fun _ => 0) (fun _ => []) dk0 (0, 0, fun _ => d00) (fun _ => 0) (fun _ => dk0)) : REL (xm g (a + 204) md0) a (a + 204) := by
  have em : mD of0 d00 = (0, 0, 0, 0, 0, 0, 0, fun _ => 0) := if_neg (by decide)
  refine ⟨0, 0, fun _ => 0, fun _ => [], dk0, (0, 0, fun _ => d00), fun _ => 0, fun _ => dk0, md0, pen_fr hp (fun x q => xm_ne (by omega)), xm_xm, ⟨⟨rfl, by decide, fun i hi => absurd hi (Nat.not_lt_zero i)⟩, rfl, fun k hk => absurd hk (Nat.not_lt_zero k), ⟨xw_of0, xw_mD xw_d00, ⟨rfl, rfl, rfl, rfl, rfl, rfl, fun i hi => absurd hi (Nat.not_lt_zero i), fun i hi => absurd hi (Nat.not_lt_zero i), fun i hi => absurd hi (Nat.not_lt_zero i)⟩, ?_⟩, ⟨rfl, fun i hi => absurd hi (Nat.not_lt_zero i)⟩, rfl, rfl, ⟨rfl, by show 0 ≤ 20; decide, fun i hi => absurd hi (Nat.not_lt_zero i)⟩, fun k hk => ⟨rfl, fun q => by cases q⟩⟩, ⟨⟨by decide, fun i hi => absurd hi (Nat.not_lt_zero i)⟩, by decide, fun k hk => absurd hk (Nat.not_lt_zero k), pw_dk0.1, pw_dk0.2, ⟨by show 0 < 20; decide, by show 0 ≤ 20; decide, fun k hk i hi => rfl⟩, fun i hi => absurd hi (Nat.not_lt_zero i), fun k hk => Or.inl rfl, fun k hk => pw_dk0, fun _ => rfl⟩⟩
  show rD (fun _ => 0) of0 (mD of0 d00)
  rw [em]
  exact ⟨rfl, rfl, rfl, rfl, fun h => absurd h (Nat.lt_irrefl 0), fun p hp => absurd hp (Nat.not_lt_zero p)⟩
theorem lb_new {b pc idx ci : Nat} {ρ st : List Value} {Q : xk_S → Prop} (h : xk_lins pc = some (.new idx, 3)) (hk : xk_kls xk_lo idx = some ci) (k : xk_LB b L xs (pc + 3) ρ (.ref w.1 :: st) (va_up f w.1 (.inr (ci, xk_dv ci)), w.1 + 1, w.2.1 + xk_nf ci, w.2.2) Q) : xk_LB b L xs pc ρ st (f, w) Q := by
  refine lb_heap h rfl (xk_pure_no rfl rfl (fun _ _ => rfl) (fun _ _ => rfl)) rfl ?_ k
  unfold xk_heap; simp [hk]
theorem lb_init {b pc idx z o : Nat} {ρ st : List Value} {σ : xk_S} {Q : xk_S → Prop} (h : xk_lins pc = some (.invokespecial idx, 3)) (hq : xk_oin xk_lo idx = false) (hc : xk_call xk_lo (.invokespecial idx) 3 (.ref o :: st) σ = some (z, [.ref o], st)) (k : xk_Cl 200 z [.ref o] σ (fun v σ' => xk_LB b L xs (pc + 3) ρ (v.toList ++ st) σ' Q)) : xk_LB b L xs pc ρ (.ref o :: st) σ Q := by
  refine lb_call h rfl (xk_pure_no rfl rfl (fun _ _ => rfl) (fun _ _ => rfl)) rfl ?_ hc k
  unfold xk_heap
  simp [hq]
theorem law_ok : xk_lawOK := by
  intro b L B0 SA xs hL hb
  suffices h : xk_LB b L xs 0 [.ref b, xk_dd, xk_dd, xk_dd] [] (fun _ => xk_no, B0, 0, SA) (fun σ => σ.2.1 - B0 ≤ 600000 ∧ σ.2.2.1 ≤ 7302250) by
    obtain ⟨n, σf, h1, h2, h3⟩ := h
    exact ⟨n, σf, h1, h2, h3⟩
  refine lb_new (ci := 11) (show xk_lins 0 = some (.new 7, 3) by decide +kernel) (by decide +kernel) ?_
  refine lb_pure (ρ' := [.ref b, xk_dd, xk_dd, xk_dd]) (st' := [.ref B0, .ref B0]) (show xk_lins 3 = some (.dup, 1) by decide +kernel) rfl rfl ?_
  refine lb_init (z := 98) (show xk_lins 4 = some (.invokespecial 9, 3) by decide +kernel) (by decide +kernel) rfl ?_
  refine i_Pen (by omega) (up_s _ _ _) (fun g s2 _ hs hp => ?_)
  have hs : s2 ≤ 0 + 15 + 20000 := hs
  refine lb_pure (ρ' := [.ref b, .ref B0, xk_dd, xk_dd]) (st' := []) (show xk_lins 7 = some (.astore_n 1, 1) by decide +kernel) rfl rfl ?_
  refine lb_new (ci := 12) (show xk_lins 8 = some (.new 10, 3) by decide +kernel) (by decide +kernel) ?_
  refine lb_pure (ρ' := [.ref b, .ref B0, xk_dd, xk_dd]) (st' := [.ref (B0 + 204), .ref (B0 + 204)]) (show xk_lins 11 = some (.dup, 1) by decide +kernel) rfl rfl ?_
  refine lb_init (z := 140) (show xk_lins 12 = some (.invokespecial 12, 3) by decide +kernel) (by decide +kernel) rfl ?_
  refine i_Mod (by omega) (up_s _ _ _) ?_
  refine lb_pure (ρ' := [.ref b, .ref B0, .ref (B0 + 204), xk_dd]) (st' := []) (show xk_lins 15 = some (.astore_n 2, 1) by decide +kernel) rfl rfl ?_
  refine lb_pure (ρ' := [.ref b, .ref B0, .ref (B0 + 204), xk_dd]) (st' := [.int (xj 0)]) (show xk_lins 16 = some (.iconst 0, 1) by decide +kernel) rfl rfl ?_
  refine lb_pure (ρ' := [.ref b, .ref B0, .ref (B0 + 204), .int (xj 0)]) (st' := []) (show xk_lins 17 = some (.istore_n 3, 1) by decide +kernel) rfl rfl ?_
  have hp2 := pen_fr (f' := va_up g (B0 + 204) (.inr (12, xk_dv 12))) hp (fun x q => up_ne (by omega))
  have key := law_loop (bs := b) (L := L) (xs := xs) (w := (B0 + 204 + 23, s2 + 47 + 4928, SA)) hL (Nat.le_refl _) L 0 _ (by omega) (by omega) (rel_0 hp2)
  obtain ⟨n, σf, h1, h2⟩ := key
  refine ⟨n, σf, h1, ?_⟩
  show σf.2.1 - B0 ≤ 600000 ∧ σf.2.2.1 ≤ 7302250
  rw [h2]
  exact ⟨by show B0 + 204 + 23 - B0 ≤ 600000; omega, by show s2 + 47 + 4928 ≤ 7302250; omega⟩
end XS9f01
