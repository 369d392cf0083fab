/-! the other calls, side by side -/
theorem RA.thr {c : Nat} {sg : Sg} {mu : Rm} (R : RA c sg mu) (x : Int32) : RA c sg (rI mu 25 0 x) := R
theorem RA.suc {c : Nat} {sg : Sg} {mu : Rm} (R : RA c sg mu) : RA (c + 1) sg mu := ⟨R.1, R.2.1, by have := R.2.2; omega⟩
theorem RA.mk2 {c : Nat} {sg sg' : Sg} {mu mu' : Rm} (R : RA c sg mu) (e2 : sg'.2 = sg.2) (h0 : sg'.1 0 = sg.1 0) (h4 : sg'.1 4 = sg.1 4) (m2 : mu'.2 = mu.2) (mN : ∀ f, f = 0 ∨ f = 4 ∨ f = 10 ∨ f = 13 ∨ f = 15 ∨ f = 23 ∨ f = 24 → mu'.1 f = mu.1 f)
    (rl : ∀ j, j < 5 → RLd sg' mu' j) (rm : ∀ i, i < sN sg 2 → RM sg' mu' i) (rp : ∀ p, p < sN sg 3 → RP sg' mu' p) (ru : ∀ u, u < sN sg 5 → RU sg' mu' u) (hp : ∀ u, u < sN sg 5 → sg'.1 5 u 5 = sg.1 5 u 5) : RA c sg' mu' := by
  obtain ⟨⟨rn, rt, -, -, -, rs, lws⟩, -, hs⟩ := R
  have hN : ∀ k, sN sg' k = sN sg k := fun k => N_eq e2 k
  refine ⟨⟨?_, ?_, rl, fun i hi => rm i (by rw [hN] at hi; exact hi), fun p hp => rp p (by rw [hN] at hp; exact hp), fun s hs => ?_, fun L hL => lw_eq e2 L (lws L hL)⟩, fun u hu => ru u (by rw [hN] at hu; exact hu), ?_⟩
  · unfold RN
    rw [hN, hN, hN, hN, mN 4 (by decide), mN 10 (by decide), mN 13 (by decide), mN 15 (by decide), mN 0 (by decide), h0]
    exact rn
  · unfold RT
    rw [mN 23 (by decide), mN 24 (by decide), h0]
    exact rt
  · rw [hN] at hs
    exact (rs s hs).cg (by rw [h4]) (by rw [e2]) (by rw [e2]) (hN 2) (by rw [m2])
  · rw [hN, hN, payN_cg (sg := sg) (sg' := sg') _ hp]
    exact hs
theorem up3_1 (f : Nat → Nat → Nat → Int32) (u j : Nat) (v : Int32) (i f' : Nat) : up3 f 1 u j v 1 i f' = if i = u ∧ f' = j then v else f 1 i f' := by
  unfold up3
  simp
theorem up3_7 (f : Nat → Nat → Nat → Int32) (u j : Nat) (v : Int32) (i f' : Nat) : up3 f 7 u j v 7 i f' = if i = u ∧ f' = j then v else f 7 i f' := by
  unfold up3
  simp
theorem sim_setTax {c : Nat} {sg : Sg} {mu : Rm} (R : RA c sg mu) {j r : Nat} {b : Int32} (hj : j < 5) (hr : r ≤ 30) (hb : b = 0 ∨ b = 1) : RA c (sI (sI sg 1 j 1 (nI r)) 1 j 2 b) (rI (rI (rI mu 25 0 0) 1 (nI j).toNatClampNeg (nI r)) 2 (nI j).toNatClampNeg (if b = 0 then 1 else 0)) ∧ mu.1 1 (nI j).toNatClampNeg = sg.1 1 j 1 := by
  have hcl : (nI j).toNatClampNeg = j := nI_clamp (by omega)
  rw [hcl]
  obtain ⟨⟨r0, -, x1, x2⟩, -, -⟩ := R.1.2.2.1 j hj
  have eo : ∀ k, k ≠ 1 → (sI (sI sg 1 j 1 (nI r)) 1 j 2 b).1 k = sg.1 k := fun k h => (up3_o _ _ _ _ _ _ h).trans (up3_o _ _ _ _ _ _ h)
  have mo : ∀ f, f ≠ 1 → f ≠ 2 → f ≠ 25 → (rI (rI (rI mu 25 0 0) 1 j (nI r)) 2 j (if b = 0 then 1 else 0)).1 f = mu.1 f := fun f h1 h2 h25 => (if_neg h2).trans ((if_neg h1).trans (if_neg h25))
  have e1 : ∀ x f, (sI (sI sg 1 j 1 (nI r)) 1 j 2 b).1 1 x f = if x = j ∧ f = 2 then b else if x = j ∧ f = 1 then nI r else sg.1 1 x f := fun x f => (up3_1 _ _ _ _ _ _).trans (congrArg (fun z => if x = j ∧ f = 2 then b else z) (up3_1 _ _ _ _ _ _))
  have m1 : ∀ x, (rI (rI (rI mu 25 0 0) 1 j (nI r)) 2 j (if b = 0 then 1 else 0)).1 1 x = if x = j then nI r else mu.1 1 x := fun x => by
    rw [rI_o _ _ _ _ (show 1 ≠ 2 by decide), rI_s, rI_o _ _ _ _ (show 1 ≠ 25 by decide)]
  have m2 : ∀ x, (rI (rI (rI mu 25 0 0) 1 j (nI r)) 2 j (if b = 0 then 1 else 0)).1 2 x = if x = j then (if b = 0 then 1 else 0) else mu.1 2 x := fun x => by
    rw [rI_s, rI_o _ _ _ _ (show 2 ≠ 1 by decide), rI_o _ _ _ _ (show 2 ≠ 25 by decide)]
  refine ⟨R.mk2 rfl (eo 0 (by decide)) (eo 4 (by decide)) rfl (fun f hf => mo f (by omega) (by omega) (by omega)) (fun x hx => ?_) (fun i hi => (R.1.2.2.2.1 i hi).cg (by rw [eo 2 (by decide)]) (by rw [eo 6 (by decide)]) (mo 5 (by decide) (by decide) (by decide)) (mo 6 (by decide) (by decide) (by decide)) (mo 7 (by decide) (by decide) (by decide)) (mo 8 (by decide) (by decide) (by decide)) (mo 9 (by decide) (by decide) (by decide))) (fun p hp => (R.1.2.2.2.2.1 p hp).cg (by rw [eo 7 (by decide)]) rfl rfl (mo 11 (by decide) (by decide) (by decide)) (mo 12 (by decide) (by decide) (by decide))) (fun u hu => (R.2.1 u hu).cg (by rw [eo 5 (by decide)]) rfl rfl rfl (fun f h1 h2 => by rw [mo f (by omega) (by omega) (by omega)])) (fun u hu => by rw [eo 5 (by decide)]), x2.trans x1.symm⟩
  by_cases e : x = j
  · subst e
    have k1 := (e1 x 1).trans ((if_neg (fun z => absurd z.2 (by decide))).trans (if_pos ⟨rfl, rfl⟩))
    have k2 := (e1 x 2).trans (if_pos ⟨rfl, rfl⟩)
    have k3 := (e1 x 3).trans ((if_neg (fun z => absurd z.2 (by decide))).trans (if_neg (fun z => absurd z.2 (by decide))))
    have q1 := (m1 x).trans (if_pos rfl)
    have q2 := (m2 x).trans (if_pos rfl)
    unfold RLd
    rw [k1, k2, k3, q1, q2, mo 3 (by decide) (by decide) (by decide)]
    refine ⟨⟨r, hr, rfl, rfl⟩, ?_, (R.1.2.2.1 x hx).2.2⟩
    rcases hb with rfl | rfl
    · exact ⟨1, by decide, rfl, if_pos rfl⟩
    · exact ⟨0, by decide, rfl, if_neg (by decide)⟩
  · exact (R.1.2.2.1 x hx).cg (by rw [e1, if_neg (fun z => e z.1), if_neg (fun z => e z.1)]) (by rw [e1, if_neg (fun z => e z.1), if_neg (fun z => e z.1)]) (by rw [e1, if_neg (fun z => e z.1), if_neg (fun z => e z.1)]) (by rw [m1, if_neg e]) (by rw [m2, if_neg e]) (by rw [mo 3 (by decide) (by decide) (by decide)])
theorem sim_setPrice {c : Nat} {sg : Sg} {mu : Rm} (R : RA c sg mu) {p j v : Nat} (hp : p < sN sg 3) (hj : j < 5) (hv : v ≤ 100000) : RA c (sI sg 7 p (nI j).toNatClampNeg (nI v)) (rI (rI mu 25 0 0) 12 (5 * nI p + nI j).toNatClampNeg (nI v)) ∧ mu.1 12 (5 * nI p + nI j).toNatClampNeg = c_price sg p j := by
  have hn3 := R.1.1.2.1.2
  have hcl : (nI j).toNatClampNeg = j := nI_clamp (by omega)
  have hix : (5 * nI p + nI j).toNatClampNeg = 5 * p + j := by
    rw [show (5 : Int32) * nI p + nI j = nI (5 * p + j) from (congrArg (fun z => z + nI j) (pk_mul 5 p)).trans (nI_add _ _), nI_clamp (by omega)]
  obtain ⟨-, -, x3⟩ := R.1.2.2.2.2.1 p hp
  obtain ⟨v0, -, x4, x5⟩ := x3 j hj
  rw [hix]
  unfold c_price
  rw [hcl]
  have eo : ∀ k, k ≠ 7 → (sI sg 7 p j (nI v)).1 k = sg.1 k := fun k h => up3_o _ _ _ _ _ _ h
  have mo : ∀ f, f ≠ 12 → f ≠ 25 → (rI (rI mu 25 0 0) 12 (5 * p + j) (nI v)).1 f = mu.1 f := fun f h1 h25 => (if_neg h1).trans (if_neg h25)
  refine ⟨R.mk2 rfl (eo 0 (by decide)) (eo 4 (by decide)) rfl (fun f hf => mo f (by omega) (by omega)) (fun x hx => (R.1.2.2.1 x hx).cg (by rw [eo 1 (by decide)]) (by rw [eo 1 (by decide)]) (by rw [eo 1 (by decide)]) (by rw [mo 1 (by decide) (by decide)]) (by rw [mo 2 (by decide) (by decide)]) (by rw [mo 3 (by decide) (by decide)])) (fun i hi => (R.1.2.2.2.1 i hi).cg (by rw [eo 2 (by decide)]) (by rw [eo 6 (by decide)]) (mo 5 (by decide) (by decide)) (mo 6 (by decide) (by decide)) (mo 7 (by decide) (by decide)) (mo 8 (by decide) (by decide)) (mo 9 (by decide) (by decide))) (fun q hq => ?_) (fun u hu => (R.2.1 u hu).cg (by rw [eo 5 (by decide)]) rfl rfl rfl (fun f h1 h2 => by rw [mo f (by omega) (by omega)])) (fun u hu => by rw [eo 5 (by decide)]), x5.trans x4.symm⟩
  obtain ⟨y1, y2, y3⟩ := R.1.2.2.2.2.1 q hq
  refine ⟨y1, by rw [mo 11 (by decide) (by decide)]; exact y2, fun i hi => ?_⟩
  have e7 : (sI sg 7 p j (nI v)).1 7 q i = if q = p ∧ i = j then nI v else sg.1 7 q i := up3_7 _ _ _ _ _ _
  have m12 : (rI (rI mu 25 0 0) 12 (5 * p + j) (nI v)).1 12 (5 * q + i) = if 5 * q + i = 5 * p + j then nI v else mu.1 12 (5 * q + i) := by
    rw [rI_s, rI_o _ _ _ _ (show 12 ≠ 25 by decide)]
  rw [e7, m12]
  by_cases e : q = p ∧ i = j
  · exact ⟨v, hv, if_pos e, if_pos (by omega)⟩
  · obtain ⟨w, hw, w1, w2⟩ := y3 i hi
    exact ⟨w, hw, (if_neg e).trans w1, (if_neg (by omega)).trans w2⟩
theorem RB.cgS {sg sg' : Sg} {mu mu' : Rm} (R : RB sg mu) (e1 : ∀ k, k ≠ 5 → sg'.1 k = sg.1 k) (e2 : ∀ k, k ≠ 5 → sg'.2 k = sg.2 k) (m1 : ∀ f, f < 16 ∨ f = 23 ∨ f = 24 → mu'.1 f = mu.1 f) (m2 : mu'.2 = mu.2) : RB sg' mu' := by
  obtain ⟨rn, rt, rl, rm, rp, rs, lws⟩ := R
  have hN : ∀ k, sN sg' k = sN sg k := fun k => congrFun (congrFun (e2 20 (by decide)) k) 0
  refine ⟨?_, ?_, fun j hj => ?_, fun i hi => ?_, fun p hp => ?_, fun s hs => ?_, fun L hL => lw_of (hN _) (congrFun (congrFun (e2 21 (by decide)) L) 0) (congrFun (congrFun (e2 22 (by decide)) L) 0) (congrFun (congrFun (e2 23 (by decide)) L) 0) (lws L hL)⟩
  · unfold RN
    rw [hN, hN, hN, hN, m1 4 (by decide), m1 10 (by decide), m1 13 (by decide), m1 15 (by decide), m1 0 (by decide), e1 0 (by decide)]
    exact rn
  · unfold RT
    rw [m1 23 (by decide), m1 24 (by decide), e1 0 (by decide)]
    exact rt
  · exact (rl j hj).cg (by rw [e1 1 (by decide)]) (by rw [e1 1 (by decide)]) (by rw [e1 1 (by decide)]) (by rw [m1 1 (by decide)]) (by rw [m1 2 (by decide)]) (by rw [m1 3 (by decide)])
  · rw [hN] at hi
    exact (rm i hi).cg (by rw [e1 2 (by decide)]) (by rw [e1 6 (by decide)]) (m1 5 (by decide)) (m1 6 (by decide)) (m1 7 (by decide)) (m1 8 (by decide)) (m1 9 (by decide))
  · rw [hN] at hp
    exact (rp p hp).cg (by rw [e1 7 (by decide)]) (by rw [e2 3 (by decide)]) (hN 2) (m1 11 (by decide)) (m1 12 (by decide))
  · rw [hN] at hs
    exact (rs s hs).cg (by rw [e1 4 (by decide)]) (by rw [e2 4 (by decide)]) (by rw [e2 4 (by decide)]) (hN 2) (by rw [m2])
/-- one subscription changes -/
theorem RA.sub {c : Nat} {sg sg' : Sg} {mu mu' : Rm} {u : Nat} (R : RA c sg mu) (e1 : ∀ k, k ≠ 5 → sg'.1 k = sg.1 k) (e2 : ∀ k, k ≠ 5 → sg'.2 k = sg.2 k) (m1 : ∀ f, f < 16 ∨ f = 23 ∨ f = 24 → mu'.1 f = mu.1 f) (m2 : mu'.2 = mu.2) (h5 : ∀ x, sg'.1 5 x 5 = sg.1 5 x 5) (ho : ∀ x, x ≠ u → sg'.1 5 x = sg.1 5 x ∧ sg'.2 5 x = sg.2 5 x ∧ ∀ f, 16 ≤ f → f ≤ 22 → mu'.1 f x = mu.1 f x) (hU : u < sN sg 5 → RU sg' mu' u) : RA c sg' mu' := by
  have hN : ∀ k, sN sg' k = sN sg k := fun k => congrFun (congrFun (e2 20 (by decide)) k) 0
  refine ⟨R.1.cgS e1 e2 m1 m2, fun x hx => ?_, ?_⟩
  · rw [hN] at hx
    by_cases e : x = u
    · subst e; exact hU hx
    · obtain ⟨a, b, d⟩ := ho x e
      exact (R.2.1 x hx).cg a (by rw [b]) (by rw [b]) (hN 3) d
  · rw [hN, hN, payN_cg (sg := sg) (sg' := sg') _ (fun x _ => h5 x)]
    exact R.2.2
theorem sim_setFailing {c : Nat} {sg : Sg} {mu : Rm} (R : RA c sg mu) {u : Nat} {b : Int32} (hu : u < sN sg 5) (hb : b = 0 ∨ b = 1) : RA c (sI sg 5 u 3 b) (rI (rI (rI mu 25 0 0) 25 0 0) 22 (nI u).toNatClampNeg (if b = 0 then 0 else 1)) := by
  have hn5 := R.1.1.2.2.2.1.2
  have hcl : (nI u).toNatClampNeg = u := nI_clamp (by omega)
  rw [hcl]
  have e5 : ∀ x f, (sI sg 5 u 3 b).1 5 x f = if x = u ∧ f = 3 then b else sg.1 5 x f := fun x f => up3_5 _ _ _ _ _ _
  have mo : ∀ f, f ≠ 22 → f ≠ 25 → (rI (rI (rI mu 25 0 0) 25 0 0) 22 u (if b = 0 then 0 else 1)).1 f = mu.1 f := fun f h1 h25 => (if_neg h1).trans ((if_neg h25).trans (if_neg h25))
  have m22 : ∀ x, (rI (rI (rI mu 25 0 0) 25 0 0) 22 u (if b = 0 then 0 else 1)).1 22 x = if x = u then (if b = 0 then 0 else 1) else mu.1 22 x := fun x => by
    rw [rI_s, rI_o _ _ _ _ (show 22 ≠ 25 by decide), rI_o _ _ _ _ (show 22 ≠ 25 by decide)]
  refine R.sub (u := u) (fun k hk => up3_o _ _ _ _ _ _ hk) (fun _ _ => rfl) (fun f hf => mo f (by omega) (by omega)) rfl (fun x => (e5 x 5).trans (if_neg (fun z => absurd z.2 (by decide)))) (fun x hx => ⟨funext fun f => (e5 x f).trans (if_neg (fun z => hx z.1)), rfl, fun f h1 h2 => ?_⟩) (fun _ => ?_)
  · by_cases e : f = 22
    · subst e; exact (m22 x).trans (if_neg hx)
    · rw [mo f e (by omega)]
  · obtain ⟨a1, a2, a3, a4, a5, a6, a7, a8, -, n, b1, b2, b3⟩ := R.2.1 u hu
    have k3 := (e5 u 3).trans (if_pos ⟨rfl, rfl⟩)
    have ko : ∀ f, f ≠ 3 → (sI sg 5 u 3 b).1 5 u f = sg.1 5 u f := fun f hf => (e5 u f).trans (if_neg (fun z => hf z.2))
    have q22 := (m22 u).trans (if_pos rfl)
    unfold RU
    rw [k3, ko 6 (by decide), ko 4 (by decide), ko 5 (by decide), ko 1 (by decide), q22, mo 16 (by decide) (by decide), mo 17 (by decide) (by decide), mo 18 (by decide) (by decide), mo 19 (by decide) (by decide), mo 20 (by decide) (by decide), mo 21 (by decide) (by decide)]
    refine ⟨a1, a2, a3, a4, a5, a6, a7, a8, ?_, n, b1, b2, b3⟩
    rcases hb with rfl | rfl
    · exact ⟨0, by decide, rfl, if_pos rfl⟩
    · exact ⟨1, by decide, rfl, if_neg (by decide)⟩
theorem sim_cancel {c : Nat} {sg : Sg} {mu : Rm} (R : RA c sg mu) {u : Nat} (hu : u < sN sg 5) : RA c (sI sg 5 u 6 (-1)) (rI (rI mu 25 0 0) 18 (nI u).toNatClampNeg (-1)) := by
  have hn5 := R.1.1.2.2.2.1.2
  have hcl : (nI u).toNatClampNeg = u := nI_clamp (by omega)
  rw [hcl]
  have e5 : ∀ x f, (sI sg 5 u 6 (-1)).1 5 x f = if x = u ∧ f = 6 then -1 else sg.1 5 x f := fun x f => up3_5 _ _ _ _ _ _
  have mo : ∀ f, f ≠ 18 → f ≠ 25 → (rI (rI mu 25 0 0) 18 u (-1)).1 f = mu.1 f := fun f h1 h25 => (if_neg h1).trans (if_neg h25)
  have m18 : ∀ x, (rI (rI mu 25 0 0) 18 u (-1)).1 18 x = if x = u then -1 else mu.1 18 x := fun x => by
    rw [rI_s, rI_o _ _ _ _ (show 18 ≠ 25 by decide)]
  refine R.sub (u := u) (fun k hk => up3_o _ _ _ _ _ _ hk) (fun _ _ => rfl) (fun f hf => mo f (by omega) (by omega)) rfl (fun x => (e5 x 5).trans (if_neg (fun z => absurd z.2 (by decide)))) (fun x hx => ⟨funext fun f => (e5 x f).trans (if_neg (fun z => hx z.1)), rfl, fun f h1 h2 => ?_⟩) (fun _ => ?_)
  · by_cases e : f = 18
    · subst e; exact (m18 x).trans (if_neg hx)
    · rw [mo f e (by omega)]
  · obtain ⟨a1, a2, a3, a4, a5, a6, a7, a8, a9, n, b1, b2, b3⟩ := R.2.1 u hu
    have k6 := (e5 u 6).trans (if_pos ⟨rfl, rfl⟩)
    have ko : ∀ f, f ≠ 6 → (sI sg 5 u 6 (-1)).1 5 u f = sg.1 5 u f := fun f hf => (e5 u f).trans (if_neg (fun z => hf z.2))
    have q18 := (m18 u).trans (if_pos rfl)
    unfold RU
    rw [k6, ko 3 (by decide), ko 4 (by decide), ko 5 (by decide), ko 1 (by decide), q18, mo 16 (by decide) (by decide), mo 17 (by decide) (by decide), mo 19 (by decide) (by decide), mo 20 (by decide) (by decide), mo 21 (by decide) (by decide), mo 22 (by decide) (by decide)]
    exact ⟨a1, a2, a3, a4, rfl, a6, a7, a8, a9, n, b1, b2, Or.inl rfl⟩
theorem sim_move {c : Nat} {sg : Sg} {mu : Rm} (R : RA c sg mu) {u i : Nat} (hu : u < sN sg 5) (hi : i < sN sg 3) : RA c (sP sg 5 u 2 i) (rI (rI mu 25 0 0) 16 (nI u).toNatClampNeg (nI i)) := by
  have hn5 := R.1.1.2.2.2.1.2
  have hcl : (nI u).toNatClampNeg = u := nI_clamp (by omega)
  rw [hcl]
  have e5 : ∀ x f, (sP sg 5 u 2 i).2 5 x f = if x = u ∧ f = 2 then i else sg.2 5 x f := fun x f => by
    show up3 sg.2 5 u 2 i 5 x f = _
    unfold up3
    simp
  have mo : ∀ f, f ≠ 16 → f ≠ 25 → (rI (rI mu 25 0 0) 16 u (nI i)).1 f = mu.1 f := fun f h1 h25 => (if_neg h1).trans (if_neg h25)
  have m16 : ∀ x, (rI (rI mu 25 0 0) 16 u (nI i)).1 16 x = if x = u then nI i else mu.1 16 x := fun x => by
    rw [rI_s, rI_o _ _ _ _ (show 16 ≠ 25 by decide)]
  refine R.sub (u := u) (fun _ _ => rfl) (fun k hk => by funext a b; exact if_neg (fun z => hk z.1)) (fun f hf => mo f (by omega) (by omega)) rfl (fun x => rfl) (fun x hx => ⟨rfl, funext fun f => (e5 x f).trans (if_neg (fun z => hx z.1)), fun f h1 h2 => ?_⟩) (fun _ => ?_)
  · by_cases e : f = 16
    · subst e; exact (m16 x).trans (if_neg hx)
    · rw [mo f e (by omega)]
  · obtain ⟨a1, a2, a3, a4, a5, a6, a7, a8, a9, n, b1, b2, b3⟩ := R.2.1 u hu
    have k2 := (e5 u 2).trans (if_pos ⟨rfl, rfl⟩)
    have k0 := (e5 u 0).trans (if_neg (fun z => absurd z.2 (by decide)))
    have q16 := (m16 u).trans (if_pos rfl)
    unfold RU
    rw [k2, k0, q16, mo 17 (by decide) (by decide), mo 18 (by decide) (by decide), mo 19 (by decide) (by decide), mo 20 (by decide) (by decide), mo 21 (by decide) (by decide), mo 22 (by decide) (by decide)]
    exact ⟨a1, hi, rfl, a4, a5, a6, a7, a8, a9, n, b1, b2, b3⟩
