/-! payments, side by side -/
theorem RU.cg {sg sg' : Sg} {mu mu' : Rm} {u : Nat} (h : RU sg mu u) (e1 : sg'.1 5 u = sg.1 5 u) (e0 : sg'.2 5 u 0 = sg.2 5 u 0) (e2 : sg'.2 5 u 2 = sg.2 5 u 2) (e3 : sN sg' 3 = sN sg 3) (m : ∀ f, 16 ≤ f → f ≤ 22 → mu'.1 f u = mu.1 f u) : RU sg' mu' u := by
  unfold RU
  rw [e1, e0, e2, e3, m 16 (by decide) (by decide), m 17 (by decide) (by decide), m 18 (by decide) (by decide), m 19 (by decide) (by decide), m 20 (by decide) (by decide), m 21 (by decide) (by decide), m 22 (by decide) (by decide)]
  exact h
/-- a change of subscriptions alone -/
theorem RB.cg5 {sg sg' : Sg} {mu mu' : Rm} (R : RB sg mu) (e1 : ∀ k, k ≠ 5 → sg'.1 k = sg.1 k) (e2 : sg'.2 = sg.2) (m1 : ∀ f, f < 16 ∨ 22 < f → mu'.1 f = mu.1 f) (m2 : mu'.2 = mu.2) : RB sg' mu' := by
  obtain ⟨rn, rt, rl, rm, rp, rs, lws⟩ := R
  have hN : ∀ k, sN sg' k = sN sg k := fun k => N_eq e2 k
  refine ⟨?_, ?_, fun j hj => ?_, fun i hi => ?_, fun p hp => ?_, fun s hs => ?_, fun L hL => lw_eq e2 L (lws L hL)⟩
  · unfold RN
    rw [hN, hN, hN, hN, m1 4 (by decide), m1 10 (by decide), m1 13 (by decide), m1 15 (by decide), m1 0 (by decide), e1 0 (by decide)]
    exact rn
  · unfold RT
    rw [m1 23 (by decide), m1 24 (by decide), e1 0 (by decide)]
    exact rt
  · exact (rl j hj).cg (by rw [e1 1 (by decide)]) (by rw [e1 1 (by decide)]) (by rw [e1 1 (by decide)]) (by rw [m1 1 (by decide)]) (by rw [m1 2 (by decide)]) (by rw [m1 3 (by decide)])
  · rw [hN] at hi
    exact (rm i hi).cg (by rw [e1 2 (by decide)]) (by rw [e1 6 (by decide)]) (m1 5 (by decide)) (m1 6 (by decide)) (m1 7 (by decide)) (m1 8 (by decide)) (m1 9 (by decide))
  · rw [hN] at hp
    exact (rp p hp).cg (by rw [e1 7 (by decide)]) (by rw [e2]) (hN 2) (m1 11 (by decide)) (m1 12 (by decide))
  · rw [hN] at hs
    exact (rs s hs).cg (by rw [e1 4 (by decide)]) (by rw [e2]) (by rw [e2]) (hN 2) (by rw [m2])
def payN (sg : Sg) : Nat → Nat
  | 0 => 0
  | u + 1 => payN sg u + (sg.1 5 u 5).toNatClampNeg
theorem payN_cg {sg sg' : Sg} : ∀ n, (∀ u, u < n → sg'.1 5 u 5 = sg.1 5 u 5) → payN sg' n = payN sg n
  | 0, _ => rfl
  | n + 1, h => by
    unfold payN
    rw [payN_cg n (fun u hu => h u (by omega)), h n (by omega)]
theorem payN_one {sg sg' : Sg} {u0 : Nat} (h0 : (sg'.1 5 u0 5).toNatClampNeg = (sg.1 5 u0 5).toNatClampNeg + 1) (h : ∀ u, u ≠ u0 → sg'.1 5 u 5 = sg.1 5 u 5) : ∀ n, u0 < n → payN sg' n = payN sg n + 1
  | 0, hn => absurd hn (Nat.not_lt_zero _)
  | n + 1, hn => by
    unfold payN
    by_cases e : u0 = n
    · subst e
      rw [payN_cg u0 (fun u hu => h u (by omega)), h0]
      omega
    · rw [payN_one h0 h n (by omega), h n (fun z => e z.symm)]
      omega
theorem payN_le {sg : Sg} : ∀ n, (∀ u, u < n → ∃ q : Nat, sg.1 5 u 5 = nI q ∧ q ≤ 120) → payN sg n ≤ 120 * n
  | 0, _ => Nat.le_refl _
  | n + 1, h => by
    have h1 := payN_le n (fun u hu => h u (by omega))
    obtain ⟨q, hq, hq1⟩ := h n (by omega)
    unfold payN
    rw [hq, nI_clamp (by omega)]
    omega
/-- the whole relation; c: calls so far -/
def RA (c : Nat) (sg : Sg) (mu : Rm) : Prop := RB sg mu ∧ (∀ u, u < sN sg 5 → RU sg mu u) ∧ sN sg 4 ≤ c + payN sg (sN sg 5)
theorem RA.lt {c : Nat} {sg : Sg} {mu : Rm} (R : RA c sg mu) (hc : c < 600) : sN sg 4 < 5400 := by
  have h := payN_le (sg := sg) (sN sg 5) (fun u hu => by
    obtain ⟨-, -, -, -, -, -, -, -, -, n, h1, h2, -⟩ := R.2.1 u hu
    exact ⟨n, h1, h2⟩)
  have h2 := R.1.1.2.2.2.1.2
  have h3 := R.2.2
  omega
theorem up3_5 (f : Nat → Nat → Nat → Int32) (u j : Nat) (v : Int32) (i f' : Nat) : up3 f 5 u j v 5 i f' = if i = u ∧ f' = j then v else f 5 i f' := by
  unfold up3
  simp
theorem cf_5 (sg : Sg) (u i f : Nat) : (c_fail sg u).1 5 i f = if i = u ∧ f = 6 then (if sg.1 5 u 4 + 1 < 6 then sg.1 5 u 6 + 1 else -1) else if i = u ∧ f = 4 then sg.1 5 u 4 + 1 else sg.1 5 i f := by
  show up3 (up3 sg.1 5 u 4 (sg.1 5 u 4 + 1)) 5 u 6 _ 5 i f = _
  rw [up3_5, up3_5]
theorem cc_5 (sg : Sg) (u : Nat) (d : Int32) (i f : Nat) : (c_count sg u d).1 5 i f = if i = u ∧ f = 6 then d + 30 else if i = u ∧ f = 4 then 0 else if i = u ∧ f = 5 then sg.1 5 u 5 + 1 else sg.1 5 i f := by
  show up3 (up3 (up3 sg.1 5 u 5 (sg.1 5 u 5 + 1)) 5 u 4 0) 5 u 6 (d + 30) 5 i f = _
  rw [up3_5, up3_5, up3_5]
theorem up3_o (f : Nat → Nat → Nat → Int32) (k i j : Nat) (v : Int32) (k' : Nat) (h : k' ≠ k) : up3 f k i j v k' = f k' := by
  funext a b
  exact if_neg (fun z => h z.1)
theorem cf_o (sg : Sg) (u k : Nat) (h : k ≠ 5) : (c_fail sg u).1 k = sg.1 k := by
  show up3 (up3 sg.1 5 u 4 _) 5 u 6 _ k = _
  rw [up3_o _ _ _ _ _ _ h, up3_o _ _ _ _ _ _ h]
theorem cc_o (sg : Sg) (u : Nat) (d : Int32) (k : Nat) (h : k ≠ 5) : (c_count sg u d).1 k = sg.1 k := by
  show up3 (up3 (up3 sg.1 5 u 5 _) 5 u 4 _) 5 u 6 _ k = _
  rw [up3_o _ _ _ _ _ _ h, up3_o _ _ _ _ _ _ h, up3_o _ _ _ _ _ _ h]
theorem rI_o (mu : Rm) (f i : Nat) (v : Int32) {g : Nat} (h : g ≠ f) : (rI mu f i v).1 g = mu.1 g := if_neg h
theorem rI_s (mu : Rm) (f i : Nat) (v : Int32) (j : Nat) : (rI mu f i v).1 f j = if j = i then v else mu.1 f j := congrFun (if_pos rfl) j
