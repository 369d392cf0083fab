/-! what adds things, side by side -/
theorem sim_subscribe {c : Nat} {sg : Sg} {mu : Rm} (R : RA c sg mu) {i j dv : Nat} {b : Int32} (hi : i < sN sg 3) (hj : j < 5) (d1 : 1 ≤ dv) (d2 : dv ≤ 60) (hb : b = 0 ∨ b = 1) (hN : sN sg 5 < 40) :
    RA c (c_add (n_sub sg j i (gSub b (sg.1 0 0 5 + nI dv))) 3) (rI (rI (rI (rI (rI (rI (rI (rI (rI mu 25 0 0) 16 (mu.1 15 0).toNatClampNeg (nI i)) 17 (mu.1 15 0).toNatClampNeg (nI j)) 18 (mu.1 15 0).toNatClampNeg (mu.1 0 0 + nI dv)) 19 (mu.1 15 0).toNatClampNeg 0) 20 (mu.1 15 0).toNatClampNeg 0) 21 (mu.1 15 0).toNatClampNeg (if b = 0 then 0 else 1)) 22 (mu.1 15 0).toNatClampNeg 0) 15 0 (mu.1 15 0 + 1)) := by
  obtain ⟨⟨⟨⟨n2, n2'⟩, ⟨n3, n3'⟩, n4, ⟨n5, n5'⟩, d, hd0, hd1, hd2⟩, rt, rl, rm, rp, rs, lws⟩, ru, hs⟩ := R
  have hn : (mu.1 15 0).toNatClampNeg = sN sg 5 := by rw [n5, nI_clamp (by omega)]
  rw [hn, hd2, hd1, nI_add]
  generalize hM : rI (rI (rI (rI (rI (rI (rI (rI (rI mu 25 0 0) 16 (sN sg 5) (nI i)) 17 (sN sg 5) (nI j)) 18 (sN sg 5) (nI (d + dv))) 19 (sN sg 5) 0) 20 (sN sg 5) 0) 21 (sN sg 5) (if b = 0 then 0 else 1)) 22 (sN sg 5) 0) 15 0 (mu.1 15 0 + 1) = mu'
  generalize hS : c_add (n_sub sg j i (gSub b (nI (d + dv)))) 3 = sg'
  have s1 : ∀ k, k ≠ 5 → k ≠ 9 → sg'.1 k = sg.1 k := fun k h5 h9 => by
    rw [← hS, c_add_1o _ _ _ h9]
    funext a
    exact if_neg (fun z => h5 z.1)
  have s5 : ∀ x, sg'.1 5 x = if x = sN sg 5 then gSub b (nI (d + dv)) else sg.1 5 x := fun x => by
    rw [← hS, c_add_1o _ _ _ (by decide)]
    show (if 5 = 5 ∧ x = sN sg 5 then _ else _) = _
    simp
  have s2 : ∀ k x f, k ≠ 5 → (k = 20 → x ≠ 5) → (k < 21 ∨ x ≠ 3) → sg'.2 k x f = sg.2 k x f := fun k x f h5 h20 h21 => by
    rw [← hS, c_add_2o _ _ _ _ _ h21]
    show up3 (up3 (up3 sg.2 5 (sN sg 5) 0 j) 5 (sN sg 5) 2 i) 20 5 0 (sN sg 5 + 1) k x f = _
    have e : ∀ (P : Nat → Nat → Nat → Nat) (y z v : Nat), up3 P 5 y z v k x f = P k x f := fun P y z v => if_neg (fun w => h5 w.1)
    rw [show up3 (up3 (up3 sg.2 5 (sN sg 5) 0 j) 5 (sN sg 5) 2 i) 20 5 0 (sN sg 5 + 1) k x f = up3 (up3 sg.2 5 (sN sg 5) 0 j) 5 (sN sg 5) 2 i k x f from if_neg (fun w => h20 w.1 w.2.1), e, e]
  have s52 : ∀ x f, sg'.2 5 x f = up3 (up3 sg.2 5 (sN sg 5) 0 j) 5 (sN sg 5) 2 i 5 x f := fun x f => by
    rw [← hS, c_add_2o _ _ _ _ _ (Or.inl (by decide))]
    exact n_sub_r _ _ _ _ _ _
  have sN5 : sN sg' 5 = sN sg 5 + 1 := by
    rw [← hS]; rfl
  have hN' : ∀ k, k ≠ 5 → sN sg' k = sN sg k := fun k h => s2 20 k 0 (by decide) (fun _ => h) (Or.inl (by decide))
  have m1 : ∀ f, f < 15 ∨ f = 23 ∨ f = 24 → mu'.1 f = mu.1 f := fun f hf => by
    rw [← hM, rI_o _ _ _ _ (show f ≠ 15 by omega), rI_o _ _ _ _ (show f ≠ 22 by omega), rI_o _ _ _ _ (show f ≠ 21 by omega), rI_o _ _ _ _ (show f ≠ 20 by omega), rI_o _ _ _ _ (show f ≠ 19 by omega), rI_o _ _ _ _ (show f ≠ 18 by omega), rI_o _ _ _ _ (show f ≠ 17 by omega), rI_o _ _ _ _ (show f ≠ 16 by omega), rI_o _ _ _ _ (show f ≠ 25 by omega)]
  have m15 : mu'.1 15 0 = nI (sN sg 5 + 1) := by
    rw [← hM]
    exact rI_at.trans (by rw [n5, nI_1])
  have mr : mu'.2 = mu.2 := by rw [← hM]; rfl
  have mS : ∀ f, 16 ≤ f → f ≤ 22 → ∀ x, x ≠ sN sg 5 → mu'.1 f x = mu.1 f x := fun f h1 h2 x hx => by
    have st : ∀ (w : Rm) (g : Nat) (v : Int32), (rI w g (sN sg 5) v).1 f x = w.1 f x := fun w g v => by
      by_cases e : f = g
      · subst e; rw [rI_s, if_neg hx]
      · rw [rI_o _ _ _ _ e]
    rw [← hM, rI_o _ _ _ _ (show f ≠ 15 by omega), st, st, st, st, st, st, st, rI_o _ _ _ _ (show f ≠ 25 by omega)]
  have q16 : mu'.1 16 (sN sg 5) = nI i := by
    rw [← hM, rI_o _ _ _ _ (by decide), rI_o _ _ _ _ (by decide), rI_o _ _ _ _ (by decide), rI_o _ _ _ _ (by decide), rI_o _ _ _ _ (by decide), rI_o _ _ _ _ (by decide), rI_o _ _ _ _ (by decide), rI_s, if_pos rfl]
  have q17 : mu'.1 17 (sN sg 5) = nI j := by
    rw [← hM, rI_o _ _ _ _ (by decide), rI_o _ _ _ _ (by decide), rI_o _ _ _ _ (by decide), rI_o _ _ _ _ (by decide), rI_o _ _ _ _ (by decide), rI_o _ _ _ _ (by decide), rI_s, if_pos rfl]
  have q18 : mu'.1 18 (sN sg 5) = nI (d + dv) := by
    rw [← hM, rI_o _ _ _ _ (by decide), rI_o _ _ _ _ (by decide), rI_o _ _ _ _ (by decide), rI_o _ _ _ _ (by decide), rI_o _ _ _ _ (by decide), rI_s, if_pos rfl]
  have q19 : mu'.1 19 (sN sg 5) = 0 := by
    rw [← hM, rI_o _ _ _ _ (by decide), rI_o _ _ _ _ (by decide), rI_o _ _ _ _ (by decide), rI_o _ _ _ _ (by decide), rI_s, if_pos rfl]
  have q20 : mu'.1 20 (sN sg 5) = 0 := by
    rw [← hM, rI_o _ _ _ _ (by decide), rI_o _ _ _ _ (by decide), rI_o _ _ _ _ (by decide), rI_s, if_pos rfl]
  have q21 : mu'.1 21 (sN sg 5) = if b = 0 then 0 else 1 := by
    rw [← hM, rI_o _ _ _ _ (by decide), rI_o _ _ _ _ (by decide), rI_s, if_pos rfl]
  have q22 : mu'.1 22 (sN sg 5) = 0 := by
    rw [← hM, rI_o _ _ _ _ (by decide), rI_s, if_pos rfl]
  have lw3 : lw sg' 3 := by
    obtain ⟨w1, w2, w3, w4, w5⟩ := lws 3 (by decide)
    have w2 : sF sg 3 = sN sg 5 := w2
    have w3 : sN sg 5 ≤ sC sg 3 := w3
    rw [← hS]
    exact c_add_lw (S := n_sub sg j i (gSub b (nI (d + dv)))) (L := 3) (w1.trans w2.symm) (show sN sg 5 + 1 = sF sg 3 + 1 by rw [w2]) (show sF sg 3 ≤ sC sg 3 by omega) w4 (show sF sg 3 < 6000 by omega) w5
  refine ⟨⟨?_, ?_, fun x hx => (rl x hx).cg (by rw [s1 1 (by decide) (by decide)]) (by rw [s1 1 (by decide) (by decide)]) (by rw [s1 1 (by decide) (by decide)]) (by rw [m1 1 (by decide)]) (by rw [m1 2 (by decide)]) (by rw [m1 3 (by decide)]), fun x hx => ?_, fun x hx => ?_, fun x hx => ?_, fun L hL => ?_⟩, fun x hx => ?_, ?_⟩
  · unfold RN
    rw [hN' 2 (by decide), hN' 3 (by decide), hN' 4 (by decide), sN5, m1 4 (by decide), m1 10 (by decide), m1 13 (by decide), m1 0 (by decide), m15, s1 0 (by decide) (by decide)]
    exact ⟨⟨n2, n2'⟩, ⟨n3, n3'⟩, n4, ⟨rfl, by omega⟩, d, hd0, hd1, hd2⟩
  · unfold RT
    rw [m1 23 (by decide), m1 24 (by decide), s1 0 (by decide) (by decide)]
    exact rt
  · rw [hN' 2 (by decide)] at hx
    exact (rm x hx).cg (by rw [s1 2 (by decide) (by decide)]) (by rw [s1 6 (by decide) (by decide)]) (m1 5 (by decide)) (m1 6 (by decide)) (m1 7 (by decide)) (m1 8 (by decide)) (m1 9 (by decide))
  · rw [hN' 3 (by decide)] at hx
    exact (rp x hx).cg (by rw [s1 7 (by decide) (by decide)]) (s2 3 x 1 (by decide) (fun z => absurd z (by decide)) (Or.inl (by decide))) (hN' 2 (by decide)) (m1 11 (by decide)) (m1 12 (by decide))
  · rw [hN' 4 (by decide)] at hx
    exact (rs x hx).cg (by rw [s1 4 (by decide) (by decide)]) (s2 4 x 0 (by decide) (fun z => absurd z (by decide)) (Or.inl (by decide))) (s2 4 x 1 (by decide) (fun z => absurd z (by decide)) (Or.inl (by decide))) (hN' 2 (by decide)) (by rw [mr])
  · by_cases e : L = 3
    · subst e; exact lw3
    · exact lw_of (hN' (2 + L) (by omega)) (s2 21 L 0 (by decide) (fun z => absurd z (by decide)) (Or.inr e)) (s2 22 L 0 (by decide) (fun z => absurd z (by decide)) (Or.inr e)) (s2 23 L 0 (by decide) (fun z => absurd z (by decide)) (Or.inr e)) (lws L hL)
  · rw [sN5] at hx
    by_cases e : x = sN sg 5
    · subst e
      have g := (s5 (sN sg 5)).trans (if_pos rfl)
      have p0 : sg'.2 5 (sN sg 5) 0 = j := (s52 _ _).trans (up3_j (by decide) up3_at)
      have p2 : sg'.2 5 (sN sg 5) 2 = i := (s52 _ _).trans up3_at
      unfold RU
      rw [g, p0, p2, hN' 3 (by decide), q16, q17, q18, q19, q20, q21, q22]
      refine ⟨hj, hi, rfl, rfl, rfl, rfl, rfl, ?_, ⟨0, by decide, rfl, rfl⟩, 0, rfl, by omega, Or.inr ⟨d + dv, 0, rfl, by omega, by omega, rfl, by omega⟩⟩
      rcases hb with rfl | rfl
      · exact ⟨0, by decide, rfl, if_pos rfl⟩
      · exact ⟨1, by decide, rfl, if_neg (by decide)⟩
    · exact (ru x (by omega)).cg ((s5 x).trans (if_neg e)) ((s52 x 0).trans (up3_i e (up3_i e rfl))) ((s52 x 2).trans (up3_i e (up3_i e rfl))) (hN' 3 (by decide)) (fun f h1 h2 => mS f h1 h2 x e)
  · have g5 : sg'.1 5 (sN sg 5) 5 = 0 := by rw [s5, if_pos rfl]; rfl
    rw [hN' 4 (by decide), sN5]
    show sN sg 4 ≤ c + (payN sg' (sN sg 5) + (sg'.1 5 (sN sg 5) 5).toNatClampNeg)
    rw [payN_cg (sg := sg) (sg' := sg') _ (fun u hu => by rw [s5, if_neg (by omega)]), g5]
    omega
/-- makers that are not there yet have nothing -/
def RZ (n : Nat) (mu : Rm) : Prop := ∀ i, n ≤ i → i < 6 → mu.1 6 i = 0 ∧ mu.1 7 i = 0 ∧ mu.1 8 i = 0 ∧ ∀ m, m < 120 → mu.1 9 (120 * i + m) = 0
theorem RZ.cg {n : Nat} {mu mu' : Rm} (h : RZ n mu) (m6 : mu'.1 6 = mu.1 6) (m7 : mu'.1 7 = mu.1 7) (m8 : mu'.1 8 = mu.1 8) (m9 : mu'.1 9 = mu.1 9) : RZ n mu' := by
  unfold RZ
  rw [m6, m7, m8, m9]
  exact h
theorem sim_addMaker {c : Nat} {sg : Sg} {mu : Rm} (R : RA c sg mu) (Z : RZ (sN sg 2) mu) {t : Int32} (hN : sN sg 2 < 6) :
    RA c (c_add (n_maker sg t) 0) (rI (rI (rI mu 25 0 0) 5 (mu.1 4 0).toNatClampNeg t) 4 0 (mu.1 4 0 + 1)) ∧ RZ (sN sg 2 + 1) (rI (rI (rI mu 25 0 0) 5 (mu.1 4 0).toNatClampNeg t) 4 0 (mu.1 4 0 + 1)) := by
  obtain ⟨⟨⟨⟨n2, n2'⟩, ⟨n3, n3'⟩, n4, ⟨n5, n5'⟩, d, hd0, hd1, hd2⟩, rt, rl, rm, rp, rs, lws⟩, ru, hs⟩ := R
  have hn : (mu.1 4 0).toNatClampNeg = sN sg 2 := by rw [n2, nI_clamp (by omega)]
  rw [hn]
  generalize hM : rI (rI (rI mu 25 0 0) 5 (sN sg 2) t) 4 0 (mu.1 4 0 + 1) = mu'
  generalize hS : c_add (n_maker sg t) 0 = sg'
  have s1 : ∀ k, k ≠ 2 → k ≠ 6 → k ≠ 9 → sg'.1 k = sg.1 k := fun k h2 h6 h9 => by
    rw [← hS, c_add_1o _ _ _ h9]
    funext a
    exact (if_neg (fun z => h6 z.1)).trans (if_neg (fun z => h2 z.1))
  have s12 : ∀ x, sg'.1 2 x = if x = sN sg 2 then gMaker t else sg.1 2 x := fun x => by
    rw [← hS, c_add_1o _ _ _ (by decide)]
    show (if 2 = 2 ∧ x = sN sg 2 then _ else _) = _
    simp
  have s16 : ∀ x, sg'.1 6 x = if x = sN sg 2 then (fun _ => 0) else sg.1 6 x := fun x => by
    rw [← hS, c_add_1o _ _ _ (by decide)]
    show (if 6 = 6 ∧ x = sN sg 2 then _ else _) = _
    simp
    rfl
  have s2 : ∀ k x f, (k = 20 → x ≠ 2) → (k < 21 ∨ x ≠ 0) → sg'.2 k x f = sg.2 k x f := fun k x f h20 h21 => by
    rw [← hS, c_add_2o _ _ _ _ _ h21]
    exact if_neg (fun w => h20 w.1 w.2.1)
  have sN2 : sN sg' 2 = sN sg 2 + 1 := by
    rw [← hS]; rfl
  have hN' : ∀ k, k ≠ 2 → sN sg' k = sN sg k := fun k h => s2 20 k 0 (fun _ => h) (Or.inl (by decide))
  have m1 : ∀ f, f ≠ 4 → f ≠ 5 → f ≠ 25 → mu'.1 f = mu.1 f := fun f h4 h5 h25 => by
    rw [← hM, rI_o _ _ _ _ h4, rI_o _ _ _ _ h5, rI_o _ _ _ _ h25]
  have m4 : mu'.1 4 0 = nI (sN sg 2 + 1) := by
    rw [← hM]
    exact rI_at.trans (by rw [n2, nI_1])
  have m5 : ∀ x, mu'.1 5 x = if x = sN sg 2 then t else mu.1 5 x := fun x => by
    rw [← hM, rI_o _ _ _ _ (show 5 ≠ 4 by decide), rI_s, rI_o _ _ _ _ (show 5 ≠ 25 by decide)]
  have mr : mu'.2 = mu.2 := by rw [← hM]; rfl
  have lw0 : lw sg' 0 := by
    obtain ⟨w1, w2, w3, w4, w5⟩ := lws 0 (by decide)
    have w2 : sF sg 0 = sN sg 2 := w2
    have w3 : sN sg 2 ≤ sC sg 0 := w3
    rw [← hS]
    exact c_add_lw (S := n_maker sg t) (L := 0) (w1.trans w2.symm) (show sN sg 2 + 1 = sF sg 0 + 1 by rw [w2]) (show sF sg 0 ≤ sC sg 0 by omega) w4 (show sF sg 0 < 6000 by omega) w5
  refine ⟨⟨⟨?_, ?_, fun x hx => (rl x hx).cg (by rw [s1 1 (by decide) (by decide) (by decide)]) (by rw [s1 1 (by decide) (by decide) (by decide)]) (by rw [s1 1 (by decide) (by decide) (by decide)]) (by rw [m1 1 (by decide) (by decide) (by decide)]) (by rw [m1 2 (by decide) (by decide) (by decide)]) (by rw [m1 3 (by decide) (by decide) (by decide)]), fun x hx => ?_, fun x hx => ?_, fun x hx => ?_, fun L hL => ?_⟩, fun x hx => ?_, ?_⟩, ?_⟩
  · unfold RN
    rw [sN2, hN' 3 (by decide), hN' 4 (by decide), hN' 5 (by decide), m4, m1 10 (by decide) (by decide) (by decide), m1 13 (by decide) (by decide) (by decide), m1 15 (by decide) (by decide) (by decide), m1 0 (by decide) (by decide) (by decide), s1 0 (by decide) (by decide) (by decide)]
    exact ⟨⟨rfl, by omega⟩, ⟨n3, n3'⟩, n4, ⟨n5, n5'⟩, d, hd0, hd1, hd2⟩
  · unfold RT
    rw [m1 23 (by decide) (by decide) (by decide), m1 24 (by decide) (by decide) (by decide), s1 0 (by decide) (by decide) (by decide)]
    exact rt
  · rw [sN2] at hx
    by_cases e : x = sN sg 2
    · subst e
      obtain ⟨z6, z7, z8, z9⟩ := Z _ (Nat.le_refl _) hN
      have g := (s12 (sN sg 2)).trans (if_pos rfl)
      have g6 := (s16 (sN sg 2)).trans (if_pos rfl)
      unfold RM
      rw [g, g6, m1 6 (by decide) (by decide) (by decide), m1 7 (by decide) (by decide) (by decide), m1 8 (by decide) (by decide) (by decide), m1 9 (by decide) (by decide) (by decide)]
      exact ⟨(m5 _).trans (if_pos rfl), z6, z7, z8, z9⟩
    · have h := rm x (by omega)
      have g := (s12 x).trans (if_neg e)
      have g6 := (s16 x).trans (if_neg e)
      have q5 := (m5 x).trans (if_neg e)
      unfold RM
      rw [g, g6, q5, m1 6 (by decide) (by decide) (by decide), m1 7 (by decide) (by decide) (by decide), m1 8 (by decide) (by decide) (by decide), m1 9 (by decide) (by decide) (by decide)]
      exact h
  · rw [hN' 3 (by decide)] at hx
    obtain ⟨y1, y2, y3⟩ := rp x hx
    unfold RP
    rw [sN2, s2 3 x 1 (fun z => absurd z (by decide)) (Or.inl (by decide)), s1 7 (by decide) (by decide) (by decide), m1 11 (by decide) (by decide) (by decide), m1 12 (by decide) (by decide) (by decide)]
    exact ⟨by omega, y2, y3⟩
  · rw [hN' 4 (by decide)] at hx
    obtain ⟨a, b, c', m, k, l, h, z, B, w, f2, f3, f4, f5, f6, f7, f8, k0, l0, kl⟩ := rs x hx
    unfold RS
    rw [mr, s1 4 (by decide) (by decide) (by decide), s2 4 x 0 (fun z => absurd z (by decide)) (Or.inl (by decide)), s2 4 x 1 (fun z => absurd z (by decide)) (Or.inl (by decide)), sN2]
    exact ⟨a, b, c', m, k, l, h, z, B, w, f2, f3, f4, f5, f6, f7, f8, k0, l0, by omega⟩
  · by_cases e : L = 0
    · subst e; exact lw0
    · exact lw_of (hN' (2 + L) (by omega)) (s2 21 L 0 (fun z => absurd z (by decide)) (Or.inr e)) (s2 22 L 0 (fun z => absurd z (by decide)) (Or.inr e)) (s2 23 L 0 (fun z => absurd z (by decide)) (Or.inr e)) (lws L hL)
  · rw [hN' 5 (by decide)] at hx
    exact (ru x hx).cg (by rw [s1 5 (by decide) (by decide) (by decide)]) (s2 5 x 0 (fun z => absurd z (by decide)) (Or.inl (by decide))) (s2 5 x 2 (fun z => absurd z (by decide)) (Or.inl (by decide))) (hN' 3 (by decide)) (fun f h1 h2 => by rw [m1 f (by omega) (by omega) (by omega)])
  · rw [hN' 4 (by decide), hN' 5 (by decide), payN_cg (sg := sg) (sg' := sg') _ (fun u hu => by rw [s1 5 (by decide) (by decide) (by decide)])]
    exact hs
  · intro i hi h6
    rw [m1 6 (by decide) (by decide) (by decide), m1 7 (by decide) (by decide) (by decide), m1 8 (by decide) (by decide) (by decide), m1 9 (by decide) (by decide) (by decide)]
    exact Z i (by omega) h6
