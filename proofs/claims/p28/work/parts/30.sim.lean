/-! addProduct, and the start, side by side -/
theorem rf_12 (mu : Rm) (np : Nat) (hnp : np < 20) (v : Int32) : ∀ n, n ≤ 5 → ∀ x, (r_fillP mu (5 * nI np) v n).1 12 x = if 5 * np ≤ x ∧ x < 5 * np + n then v else mu.1 12 x
  | 0, _, x => (if_neg (fun z => by omega)).symm
  | n + 1, h, x => by
    have hix : (5 * nI np + nI n).toNatClampNeg = 5 * np + n := by
      rw [show (5 : Int32) * nI np + nI n = nI (5 * np + n) from (congrArg (fun z => z + nI n) (pk_mul 5 np)).trans (nI_add _ _), nI_clamp (by omega)]
    show (rI (r_fillP mu (5 * nI np) v n) 12 (5 * nI np + nI n).toNatClampNeg v).1 12 x = _
    rw [hix, rI_s, rf_12 mu np hnp v n (by omega) x]
    by_cases e : x = 5 * np + n
    · rw [if_pos e, if_pos (by omega)]
    · rw [if_neg e]
      by_cases e2 : 5 * np ≤ x ∧ x < 5 * np + n
      · rw [if_pos e2, if_pos (by omega)]
      · rw [if_neg e2, if_neg (by omega)]
theorem gPrice_at (v : Int32) {j : Nat} (hj : j < 5) : gPrice v j = v := by
  rcases (show j = 0 ∨ j = 1 ∨ j = 2 ∨ j = 3 ∨ j = 4 by omega) with rfl | rfl | rfl | rfl | rfl <;> rfl
theorem sim_addProduct {c : Nat} {sg : Sg} {mu : Rm} (R : RA c sg mu) {i v : Nat} (hi : i < sN sg 2) (hv : v ≤ 100000) (hN : sN sg 3 < 20) :
    RA c (c_add (n_prod sg i (nI v)) 1) (rI (r_fillP (rI (rI mu 25 0 0) 11 (nI (sN sg 3)).toNatClampNeg (nI i)) (5 * nI (sN sg 3)) (nI v) 5) 10 0 (nI (sN sg 3) + 1)) := by
  obtain ⟨⟨⟨⟨n2, n2'⟩, ⟨n3, n3'⟩, n4, ⟨n5, n5'⟩, d, hd0, hd1, hd2⟩, rt, rl, rm, rp, rs, lws⟩, ru, hs⟩ := R
  have hn : (nI (sN sg 3)).toNatClampNeg = sN sg 3 := nI_clamp (by omega)
  rw [hn]
  generalize hM : rI (r_fillP (rI (rI mu 25 0 0) 11 (sN sg 3) (nI i)) (5 * nI (sN sg 3)) (nI v) 5) 10 0 (nI (sN sg 3) + 1) = mu'
  generalize hS : c_add (n_prod sg i (nI v)) 1 = sg'
  have s1 : ∀ k, k ≠ 7 → k ≠ 9 → sg'.1 k = sg.1 k := fun k h7 h9 => by
    rw [← hS, c_add_1o _ _ _ h9]
    funext a
    exact if_neg (fun z => h7 z.1)
  have s17 : ∀ x, sg'.1 7 x = if x = sN sg 3 then gPrice (nI v) else sg.1 7 x := fun x => by
    rw [← hS, c_add_1o _ _ _ (by decide)]
    show (if 7 = 7 ∧ x = sN sg 3 then _ else _) = _
    simp
  have s2 : ∀ k x f, k ≠ 3 → (k = 20 → x ≠ 3) → (k < 21 ∨ x ≠ 1) → sg'.2 k x f = sg.2 k x f := fun k x f h3 h20 h21 => by
    rw [← hS, c_add_2o _ _ _ _ _ h21]
    exact (if_neg (fun w => h20 w.1 w.2.1)).trans (if_neg (fun w => h3 w.1))
  have s23 : ∀ x, sg'.2 3 x 1 = if x = sN sg 3 then i else sg.2 3 x 1 := fun x => by
    rw [← hS, c_add_2o _ _ _ _ _ (Or.inl (by decide)), n_prod_r]
    unfold up3
    simp
  have sN3 : sN sg' 3 = sN sg 3 + 1 := by
    rw [← hS]; rfl
  have hN' : ∀ k, k ≠ 3 → sN sg' k = sN sg k := fun k h => s2 20 k 0 (by decide) (fun _ => h) (Or.inl (by decide))
  have m1 : ∀ f, f ≠ 10 → f ≠ 11 → f ≠ 12 → f ≠ 25 → mu'.1 f = mu.1 f := fun f h10 h11 h12 h25 => by
    rw [← hM, rI_o _ _ _ _ h10, r_fillP_ne _ _ _ f h12, rI_o _ _ _ _ h11, rI_o _ _ _ _ h25]
  have m10 : mu'.1 10 0 = nI (sN sg 3 + 1) := by
    rw [← hM]
    exact rI_at.trans (nI_1 _)
  have m11 : ∀ x, mu'.1 11 x = if x = sN sg 3 then nI i else mu.1 11 x := fun x => by
    rw [← hM, rI_o _ _ _ _ (show 11 ≠ 10 by decide), r_fillP_ne _ _ _ 11 (by decide), rI_s, rI_o _ _ _ _ (show 11 ≠ 25 by decide)]
  have m12 : ∀ x, mu'.1 12 x = if 5 * sN sg 3 ≤ x ∧ x < 5 * sN sg 3 + 5 then nI v else mu.1 12 x := fun x => by
    rw [← hM, rI_o _ _ _ _ (show 12 ≠ 10 by decide), rf_12 _ _ hN _ 5 (Nat.le_refl _), rI_o _ _ _ _ (show 12 ≠ 11 by decide), rI_o _ _ _ _ (show 12 ≠ 25 by decide)]
  have mr : mu'.2 = mu.2 := by rw [← hM]; rfl
  have lw1 : lw sg' 1 := by
    obtain ⟨w1, w2, w3, w4, w5⟩ := lws 1 (by decide)
    have w2 : sF sg 1 = sN sg 3 := w2
    have w3 : sN sg 3 ≤ sC sg 1 := w3
    rw [← hS]
    exact c_add_lw (S := n_prod sg i (nI v)) (L := 1) (w1.trans w2.symm) (show sN sg 3 + 1 = sF sg 1 + 1 by rw [w2]) (show sF sg 1 ≤ sC sg 1 by omega) w4 (show sF sg 1 < 6000 by omega) w5
  refine ⟨⟨?_, ?_, fun x hx => (rl x hx).cg (by rw [s1 1 (by decide) (by decide)]) (by rw [s1 1 (by decide) (by decide)]) (by rw [s1 1 (by decide) (by decide)]) (by rw [m1 1 (by decide) (by decide) (by decide) (by decide)]) (by rw [m1 2 (by decide) (by decide) (by decide) (by decide)]) (by rw [m1 3 (by decide) (by decide) (by decide) (by decide)]), fun x hx => ?_, fun x hx => ?_, fun x hx => ?_, fun L hL => ?_⟩, fun x hx => ?_, ?_⟩
  · unfold RN
    rw [sN3, hN' 2 (by decide), hN' 4 (by decide), hN' 5 (by decide), m10, m1 4 (by decide) (by decide) (by decide) (by decide), m1 13 (by decide) (by decide) (by decide) (by decide), m1 15 (by decide) (by decide) (by decide) (by decide), m1 0 (by decide) (by decide) (by decide) (by decide), s1 0 (by decide) (by decide)]
    exact ⟨⟨n2, n2'⟩, ⟨rfl, by omega⟩, n4, ⟨n5, n5'⟩, d, hd0, hd1, hd2⟩
  · unfold RT
    rw [m1 23 (by decide) (by decide) (by decide) (by decide), m1 24 (by decide) (by decide) (by decide) (by decide), s1 0 (by decide) (by decide)]
    exact rt
  · rw [hN' 2 (by decide)] at hx
    exact (rm x hx).cg (by rw [s1 2 (by decide) (by decide)]) (by rw [s1 6 (by decide) (by decide)]) (m1 5 (by decide) (by decide) (by decide) (by decide)) (m1 6 (by decide) (by decide) (by decide) (by decide)) (m1 7 (by decide) (by decide) (by decide) (by decide)) (m1 8 (by decide) (by decide) (by decide) (by decide)) (m1 9 (by decide) (by decide) (by decide) (by decide))
  · rw [sN3] at hx
    by_cases e : x = sN sg 3
    · subst e
      have g := (s23 (sN sg 3)).trans (if_pos rfl)
      have g7 := (s17 (sN sg 3)).trans (if_pos rfl)
      have q11 := (m11 (sN sg 3)).trans (if_pos rfl)
      unfold RP
      rw [g, g7, q11, hN' 2 (by decide)]
      exact ⟨hi, rfl, fun j hj => ⟨v, hv, gPrice_at _ hj, (m12 _).trans (if_pos (by omega))⟩⟩
    · obtain ⟨y1, y2, y3⟩ := rp x (by omega)
      have g := (s23 x).trans (if_neg e)
      have g7 := (s17 x).trans (if_neg e)
      have q11 := (m11 x).trans (if_neg e)
      unfold RP
      rw [g, g7, q11, hN' 2 (by decide)]
      refine ⟨y1, y2, fun j hj => ?_⟩
      obtain ⟨w, w0, w1, w2⟩ := y3 j hj
      exact ⟨w, w0, w1, ((m12 _).trans (if_neg (by omega))).trans w2⟩
  · rw [hN' 4 (by decide)] at hx
    exact (rs x hx).cg (by rw [s1 4 (by decide) (by decide)]) (s2 4 x 0 (by decide) (fun z => absurd z (by decide)) (Or.inl (by decide))) (s2 4 x 1 (by decide) (fun z => absurd z (by decide)) (Or.inl (by decide))) (hN' 2 (by decide)) (by rw [mr])
  · by_cases e : L = 1
    · subst e; exact lw1
    · exact lw_of (hN' (2 + L) (by omega)) (s2 21 L 0 (by decide) (fun z => absurd z (by decide)) (Or.inr e)) (s2 22 L 0 (by decide) (fun z => absurd z (by decide)) (Or.inr e)) (s2 23 L 0 (by decide) (fun z => absurd z (by decide)) (Or.inr e)) (lws L hL)
  · rw [hN' 5 (by decide)] at hx
    obtain ⟨a1, a2, a3⟩ := ru x hx
    have k0 := s2 5 x 0 (by decide) (fun z => absurd z (by decide)) (Or.inl (by decide))
    have k2 := s2 5 x 2 (by decide) (fun z => absurd z (by decide)) (Or.inl (by decide))
    unfold RU
    rw [k0, k2, sN3, s1 5 (by decide) (by decide), m1 16 (by decide) (by decide) (by decide) (by decide), m1 17 (by decide) (by decide) (by decide) (by decide), m1 18 (by decide) (by decide) (by decide) (by decide), m1 19 (by decide) (by decide) (by decide) (by decide), m1 20 (by decide) (by decide) (by decide) (by decide), m1 21 (by decide) (by decide) (by decide) (by decide), m1 22 (by decide) (by decide) (by decide) (by decide)]
    exact ⟨a1, by omega, a3⟩
  · rw [hN' 4 (by decide), hN' 5 (by decide), payN_cg (sg := sg) (sg' := sg') _ (fun u hu => by rw [s1 5 (by decide) (by decide)])]
    exact hs
theorem sim_init : RA 0 sg0 rz ∧ RZ (sN sg0 2) rz := by
  refine ⟨⟨⟨⟨⟨rfl, by decide⟩, ⟨rfl, by decide⟩, rfl, ⟨rfl, by decide⟩, 0, by decide, rfl, rfl⟩, ⟨rfl, rfl⟩, fun j hj => ⟨⟨0, by decide, rfl, rfl⟩, ⟨0, by decide, rfl, rfl⟩, rfl⟩, fun i hi => absurd hi (Nat.not_lt_zero i), fun i hi => absurd hi (Nat.not_lt_zero i), fun i hi => absurd hi (Nat.not_lt_zero i), fun L hL => ⟨rfl, rfl, Nat.le_refl _, Or.inl rfl, Nat.zero_le _⟩⟩, fun i hi => absurd hi (Nat.not_lt_zero i), Nat.zero_le _⟩, fun i _ _ => ⟨rfl, rfl, rfl, fun m hm => rfl⟩⟩
