/-! refund, side by side; lists -/
theorem sim_refund {c : Nat} {sg : Sg} {mu : Rm} (R : RA c sg mu) (hN : sN sg 4 < 5400) {i : Nat} (hi : i < sN sg 4) (hz : sg.1 4 i 8 = 0) : RA c (c_book (sI sg 4 i 8 1) i (-1)) (rR (r_counts (rI mu 25 0 0) (mu.2 (nI i).toNatClampNeg) (-1)) (nI i).toNatClampNeg ((r_counts (rI mu 25 0 0) (mu.2 (nI i).toNatClampNeg) (-1)).2 (nI i).toNatClampNeg ||| 2305843009213693952)) ∧ r_price ((r_counts (rI mu 25 0 0) (mu.2 (nI i).toNatClampNeg) (-1)).2 (nI i).toNatClampNeg ||| 2305843009213693952) = (c_book (sI sg 4 i 8 1) i (-1)).1 4 i 3 := by
  have hcl : (nI i).toNatClampNeg = i := nI_clamp (by omega)
  rw [hcl]
  obtain ⟨⟨rn, rt, rl, rm, rp, rs, lws⟩, ru, hs⟩ := R
  obtain ⟨a, b, c', m, k, l, h, z, B, w, s2, s3, s4, s5, s6, s7, s8, k0, l0, kl⟩ := rs i hi
  have hz0 : z = 0 := by
    have hz2 : z < 2 := B.2.2.2.2.2.2.2
    exact (nI_eq (b := 0) (by omega) (by decide)).mp (s8.symm.trans hz)
  subst hz0
  have e4 : ∀ x f, (sI sg 4 i 8 1).1 4 x f = if x = i ∧ f = 8 then 1 else sg.1 4 x f := fun x f => by
    show up3 sg.1 4 i 8 1 4 x f = _
    unfold up3
    simp
  have eo : ∀ f, f ≠ 8 → (sI sg 4 i 8 1).1 4 i f = sg.1 4 i f := fun f hf => (e4 i f).trans (if_neg (fun z => hf z.2))
  have e2 : (c_book (sI sg 4 i 8 1) i (-1)).2 = sg.2 := c_book_2 _ _ _
  have bo : ∀ q, q ≠ 0 → q ≠ 1 → q ≠ 2 → q ≠ 4 → (c_book (sI sg 4 i 8 1) i (-1)).1 q = sg.1 q := fun q h0 h1 h2 h4 => (cb_o _ _ _ q h0 h1 h2).trans (up3_o _ _ _ _ _ _ h4)
  have b4 : (c_book (sI sg 4 i 8 1) i (-1)).1 4 = (sI sg 4 i 8 1).1 4 := cb_o _ _ _ 4 (by decide) (by decide) (by decide)
  have bd : (c_book (sI sg 4 i 8 1) i (-1)).1 0 0 5 = sg.1 0 0 5 := (c_book_day _ _ _).trans rfl
  obtain ⟨bT, bL, bM⟩ := sim_book (sg := sI sg 4 i 8 1) (mu := rI mu 25 0 0) (s := i) B w ((eo 3 (by decide)).trans s3) ((eo 4 (by decide)).trans s4) ((eo 5 (by decide)).trans s5) ((eo 6 (by decide)).trans s6) ((eo 7 (by decide)).trans s7) k0 l0 (-1) rt
  generalize hm : r_counts (rI mu 25 0 0) (mu.2 i) (-1) = mc at bT bL bM ⊢
  have mo : ∀ f, f ≠ 3 → f ≠ 7 → f ≠ 23 → f ≠ 24 → f ≠ 25 → mc.1 f = mu.1 f := fun f h3 h7 h23 h24 h25 => by
    rw [← hm, rc_o _ _ _ f h3 h7 h23 h24]
    exact if_neg h25
  have mr : mc.2 = mu.2 := by rw [← hm]; rfl
  have hN' : ∀ q, sN (c_book (sI sg 4 i 8 1) i (-1)) q = sN sg q := fun q => N_eq e2 q
  rw [mr, w, pk_or B]
  have B1 : pkB a b c' m k l h 1 := ⟨B.1, B.2.1, B.2.2.1, B.2.2.2.1, B.2.2.2.2.1, B.2.2.2.2.2.1, B.2.2.2.2.2.2.1, by decide⟩
  refine ⟨⟨⟨?_, bT, fun j hj => bL j (rl j hj), fun x hx => bM x (rm x (by rw [hN'] at hx; exact hx)), fun p hp => (rp p (by rw [hN'] at hp; exact hp)).cg (by rw [bo 7 (by decide) (by decide) (by decide) (by decide)]) (by rw [e2]) (hN' 2) (mo 11 (by decide) (by decide) (by decide) (by decide) (by decide)) (mo 12 (by decide) (by decide) (by decide) (by decide) (by decide)), fun s hs => ?_, fun L hL => lw_eq e2 L (lws L hL)⟩, fun u hu => (ru u (by rw [hN'] at hu; exact hu)).cg (by rw [bo 5 (by decide) (by decide) (by decide) (by decide)]) (by rw [e2]) (by rw [e2]) (hN' 3) (fun f h1 h2 => congrFun (mo f (by omega) (by omega) (by omega) (by omega) (by omega)) u), ?_⟩, ?_⟩
  · unfold RN
    rw [hN', hN', hN', hN', bd]
    show (mc.1 4 0 = _ ∧ _) ∧ (mc.1 10 0 = _ ∧ _) ∧ mc.1 13 0 = _ ∧ (mc.1 15 0 = _ ∧ _) ∧ ∃ d : Nat, d ≤ 3600 ∧ _ ∧ mc.1 0 0 = nI d
    rw [mo 4 (by decide) (by decide) (by decide) (by decide) (by decide), mo 10 (by decide) (by decide) (by decide) (by decide) (by decide), mo 13 (by decide) (by decide) (by decide) (by decide) (by decide), mo 15 (by decide) (by decide) (by decide) (by decide) (by decide), mo 0 (by decide) (by decide) (by decide) (by decide) (by decide)]
    exact rn
  · rw [hN'] at hs
    by_cases e : s = i
    · subst e
      refine ⟨a, b, c', m, k, l, h, 1, B1, pk_uLs, ?_, ?_, ?_, ?_, ?_, ?_, ?_, ?_, ?_, ?_⟩
      · rw [b4, eo 2 (by decide)]; exact s2
      · rw [b4, eo 3 (by decide)]; exact s3
      · rw [b4, eo 4 (by decide)]; exact s4
      · rw [b4, eo 5 (by decide)]; exact s5
      · rw [b4, eo 6 (by decide)]; exact s6
      · rw [b4, eo 7 (by decide)]; exact s7
      · rw [b4]; exact (e4 s 8).trans (if_pos ⟨rfl, rfl⟩)
      · rw [e2]; exact k0
      · rw [e2]; exact l0
      · rw [hN']; exact kl
    · refine (rs s hs).cg ?_ (by rw [e2]) (by rw [e2]) (hN' 2) ?_
      · rw [b4]
        exact funext fun f => (e4 s f).trans (if_neg (fun z => e z.1))
      · show vp_updL mc.2 i _ s = _
        rw [pk_uLn e, mr]
  · rw [hN', hN', payN_cg (sg := sg) (sg' := c_book (sI sg 4 i 8 1) i (-1)) _ (fun u _ => by rw [bo 5 (by decide) (by decide) (by decide) (by decide)])]
    exact hs
  · rw [pk_price B1, b4, eo 3 (by decide), s3]
theorem c_add_lw {S : Sg} {L : Nat} (h : sZ S L = sF S L) (hN : sN S (2 + L) = sF S L + 1) (hc : sF S L ≤ sC S L) (h10 : sC S L = 0 ∨ 10 ≤ sC S L) (h6 : sF S L < 6000) (hb : sC S L ≤ 60000) : lw (c_add S L) L := by
  have a1 : sZ (c_add S L) L = sF S L + 1 := up3_at
  have a2 : sF (c_add S L) L = sF S L + 1 := by
    show up3 (up3 S.2 22 L 0 (capN S L)) 23 L 0 (sF S L + 1) 23 L 0 = _
    exact up3_at
  have a3 : sC (c_add S L) L = capN S L := by
    show up3 S.2 22 L 0 (capN S L) 22 L 0 = _
    exact up3_at
  have a4 : sN (c_add S L) (2 + L) = sN S (2 + L) := rfl
  have hcap : sF S L + 1 ≤ capN S L ∧ 10 ≤ capN S L ∧ capN S L ≤ 60000 := by
    unfold capN
    split
    · omega
    · split <;> omega
  exact ⟨a1.trans (hN.symm.trans a4.symm), a2.trans (hN.symm.trans a4.symm), by rw [a4, hN, a3]; exact hcap.1, Or.inr (by rw [a3]; exact hcap.2.1), by rw [a3]; exact hcap.2.2⟩
theorem c_add_2o (S : Sg) (L k i f : Nat) (h : k < 21 ∨ i ≠ L) : (c_add S L).2 k i f = S.2 k i f := by
  show up3 (up3 (up3 S.2 22 L 0 _) 23 L 0 _) 21 L 0 _ k i f = _
  have e : ∀ (P : Nat → Nat → Nat → Nat) (k0 v : Nat), 21 ≤ k0 → up3 P k0 L 0 v k i f = P k i f := fun P k0 v hk => if_neg (fun z => h.elim (fun y => by omega) (fun y => y z.2.1))
  rw [e _ 21 _ (by decide), e _ 23 _ (by decide), e _ 22 _ (by decide)]
theorem c_add_1o (S : Sg) (L k : Nat) (h : k ≠ 9) : (c_add S L).1 k = S.1 k := up3_o _ _ _ _ _ _ h
