/-! payments, side by side -/
theorem RU.cg {sg sg' : Sg} {mu mu' : Rm} {u : Nat} (h : RU sg mu u) (e1 : sg'.1 5 u = sg.1 5 u) (e0 : sg'.2 5 u 0 = sg.2 5 u 0) (e2 : sg'.2 5 u 2 = sg.2 5 u 2) (e3 : sN sg' 3 = sN sg 3) (m : ∀ f, 16 ≤ f → f ≤ 22 → mu'.1 f u = mu.1 f u) : RU sg' mu' u := by
  unfold RU
  rw [e1, e0, e2, e3, m 16 (by decide) (by decide), m 17 (by decide) (by decide), m 18 (by decide) (by decide), m 19 (by decide) (by decide), m 20 (by decide) (by decide), m 21 (by decide) (by decide), m 22 (by decide) (by decide)]
  exact h
/-- a change of subscriptions alone -/
theorem RB.cg5 {sg sg' : Sg} {mu mu' : Rm} (R : RB sg mu) (e1 : ∀ k, k ≠ 5 → sg'.1 k = sg.1 k) (e2 : sg'.2 = sg.2) (m1 : ∀ f, f < 16 ∨ 22 < f → mu'.1 f = mu.1 f) (m2 : mu'.2 = mu.2) : RB sg' mu' := by
  obtain ⟨rn, rt, rl, rm, rp, rs, lws⟩ := R
  have hN : ∀ k, sN sg' k = sN sg k := fun k => N_eq e2 k
  refine ⟨?_, ?_, fun j hj => ?_, fun i hi => ?_, fun p hp => ?_, fun s hs => ?_, fun L hL => lw_eq e2 L (lws L hL)⟩
  · unfold RN
    rw [hN, hN, hN, hN, m1 4 (by decide), m1 10 (by decide), m1 13 (by decide), m1 15 (by decide), m1 0 (by decide), e1 0 (by decide)]
    exact rn
  · unfold RT
    rw [m1 23 (by decide), m1 24 (by decide), e1 0 (by decide)]
    exact rt
  · exact (rl j hj).cg (by rw [e1 1 (by decide)]) (by rw [e1 1 (by decide)]) (by rw [e1 1 (by decide)]) (by rw [m1 1 (by decide)]) (by rw [m1 2 (by decide)]) (by rw [m1 3 (by decide)])
  · rw [hN] at hi
    exact (rm i hi).cg (by rw [e1 2 (by decide)]) (by rw [e1 6 (by decide)]) (m1 5 (by decide)) (m1 6 (by decide)) (m1 7 (by decide)) (m1 8 (by decide)) (m1 9 (by decide))
  · rw [hN] at hp
    exact (rp p hp).cg (by rw [e1 7 (by decide)]) (by rw [e2]) (hN 2) (m1 11 (by decide)) (m1 12 (by decide))
  · rw [hN] at hs
    exact (rs s hs).cg (by rw [e1 4 (by decide)]) (by rw [e2]) (by rw [e2]) (hN 2) (by rw [m2])
def payN (sg : Sg) : Nat → Nat
  | 0 => 0
  | u + 1 => payN sg u + (sg.1 5 u 5).toNatClampNeg
theorem payN_cg {sg sg' : Sg} : ∀ n, (∀ u, u < n → sg'.1 5 u 5 = sg.1 5 u 5) → payN sg' n = payN sg n
  | 0, _ => rfl
  | n + 1, h => by
    unfold payN
    rw [payN_cg n (fun u hu => h u (by omega)), h n (by omega)]
theorem payN_one {sg sg' : Sg} {u0 : Nat} (h0 : (sg'.1 5 u0 5).toNatClampNeg = (sg.1 5 u0 5).toNatClampNeg + 1) (h : ∀ u, u ≠ u0 → sg'.1 5 u 5 = sg.1 5 u 5) : ∀ n, u0 < n → payN sg' n = payN sg n + 1
  | 0, hn => absurd hn (Nat.not_lt_zero _)
  | n + 1, hn => by
    unfold payN
    by_cases e : u0 = n
    · subst e
      rw [payN_cg u0 (fun u hu => h u (by omega)), h0]
      omega
    · rw [payN_one h0 h n (by omega), h n (fun z => e z.symm)]
      omega
theorem payN_le {sg : Sg} : ∀ n, (∀ u, u < n → ∃ q : Nat, sg.1 5 u 5 = nI q ∧ q ≤ 120) → payN sg n ≤ 120 * n
  | 0, _ => Nat.le_refl _
  | n + 1, h => by
    have h1 := payN_le n (fun u hu => h u (by omega))
    obtain ⟨q, hq, hq1⟩ := h n (by omega)
    unfold payN
    rw [hq, nI_clamp (by omega)]
    omega
/-- the whole relation; c: calls so far -/
def RA (c : Nat) (sg : Sg) (mu : Rm) : Prop := RB sg mu ∧ (∀ u, u < sN sg 5 → RU sg mu u) ∧ sN sg 4 ≤ c + payN sg (sN sg 5)
theorem RA.lt {c : Nat} {sg : Sg} {mu : Rm} (R : RA c sg mu) (hc : c < 600) : sN sg 4 < 5400 := by
  have h := payN_le (sg := sg) (sN sg 5) (fun u hu => by
    obtain ⟨-, -, -, -, -, -, -, -, -, n, h1, h2, -⟩ := R.2.1 u hu
    exact ⟨n, h1, h2⟩)
  have h2 := R.1.1.2.2.2.1.2
  have h3 := R.2.2
  omega
theorem up3_5 (f : Nat → Nat → Nat → Int32) (u j : Nat) (v : Int32) (i f' : Nat) : up3 f 5 u j v 5 i f' = if i = u ∧ f' = j then v else f 5 i f' := by
  unfold up3
  simp
theorem cf_5 (sg : Sg) (u i f : Nat) : (c_fail sg u).1 5 i f = if i = u ∧ f = 6 then (if sg.1 5 u 4 + 1 < 6 then sg.1 5 u 6 + 1 else -1) else if i = u ∧ f = 4 then sg.1 5 u 4 + 1 else sg.1 5 i f := by
  show up3 (up3 sg.1 5 u 4 (sg.1 5 u 4 + 1)) 5 u 6 _ 5 i f = _
  rw [up3_5, up3_5]
theorem cc_5 (sg : Sg) (u : Nat) (d : Int32) (i f : Nat) : (c_count sg u d).1 5 i f = if i = u ∧ f = 6 then d + 30 else if i = u ∧ f = 4 then 0 else if i = u ∧ f = 5 then sg.1 5 u 5 + 1 else sg.1 5 i f := by
  show up3 (up3 (up3 sg.1 5 u 5 (sg.1 5 u 5 + 1)) 5 u 4 0) 5 u 6 (d + 30) 5 i f = _
  rw [up3_5, up3_5, up3_5]
theorem up3_o (f : Nat → Nat → Nat → Int32) (k i j : Nat) (v : Int32) (k' : Nat) (h : k' ≠ k) : up3 f k i j v k' = f k' := by
  funext a b
  exact if_neg (fun z => h z.1)
theorem cf_o (sg : Sg) (u k : Nat) (h : k ≠ 5) : (c_fail sg u).1 k = sg.1 k := by
  show up3 (up3 sg.1 5 u 4 _) 5 u 6 _ k = _
  rw [up3_o _ _ _ _ _ _ h, up3_o _ _ _ _ _ _ h]
theorem cc_o (sg : Sg) (u : Nat) (d : Int32) (k : Nat) (h : k ≠ 5) : (c_count sg u d).1 k = sg.1 k := by
  show up3 (up3 (up3 sg.1 5 u 5 _) 5 u 4 _) 5 u 6 _ k = _
  rw [up3_o _ _ _ _ _ _ h, up3_o _ _ _ _ _ _ h, up3_o _ _ _ _ _ _ h]
theorem rI_o (mu : Rm) (f i : Nat) (v : Int32) {g : Nat} (h : g ≠ f) : (rI mu f i v).1 g = mu.1 g := if_neg h
theorem rI_s (mu : Rm) (f i : Nat) (v : Int32) (j : Nat) : (rI mu f i v).1 f j = if j = i then v else mu.1 f j := congrFun (if_pos rfl) j
/-- a payment that fails -/
theorem sim_fail {sg : Sg} {mu : Rm} (R : RB sg mu) (RUs : ∀ u, u < sN sg 5 → RU sg mu u) {u : Nat} (hu : u < sN sg 5) (hday : sg.1 5 u 6 = sg.1 0 0 5) :
    RB (c_fail sg u) (r_payF mu (nI u)) ∧ (∀ x, x < sN sg 5 → RU (c_fail sg u) (r_payF mu (nI u)) x) ∧ ∀ x, (c_fail sg u).1 5 x 5 = sg.1 5 x 5 := by
  have hn5 := R.1.2.2.2.1.2
  have hcl : (nI u).toNatClampNeg = u := nI_clamp (by omega)
  obtain ⟨d, hd0, hd1, hd2⟩ := R.1.2.2.2.2
  have mo : ∀ f, f ≠ 18 → f ≠ 19 → (r_payF mu (nI u)).1 f = mu.1 f := fun f h8 h9 => (if_neg h8).trans (if_neg h9)
  have m19 : ∀ x, (r_payF mu (nI u)).1 19 x = if x = u then mu.1 19 u + 1 else mu.1 19 x := fun x => by
    show (rI mu 19 (nI u).toNatClampNeg (mu.1 19 (nI u).toNatClampNeg + 1)).1 19 x = _
    rw [hcl, rI_s]
  have m18 : ∀ x, (r_payF mu (nI u)).1 18 x = if x = u then (if mu.1 19 u + 1 = 6 then -1 else mu.1 0 0 + 1) else mu.1 18 x := fun x => by
    unfold r_payF
    rw [rI_s, hcl, rI_s, if_pos rfl, rI_o _ _ _ _ (show 18 ≠ 19 by decide)]
  refine ⟨R.cg5 (fun k hk => cf_o sg u k hk) rfl (fun f hf => mo f (by omega) (by omega)) rfl, fun x hx => ?_, fun x => ?_⟩
  · by_cases e : x = u
    · subst e
      obtain ⟨a1, a2, a3, a4, a5, a6, a7, ⟨h, h1, h2, h3⟩, ⟨f, f1, f2, f3⟩, n, b1, b2, b3⟩ := RUs x hx
      have b4 : ∃ t : Nat, 30 * n + 1 ≤ d ∧ sg.1 5 x 4 = nI t ∧ t ≤ 5 := by
        rcases b3 with b3 | ⟨y, t, c1, c2, c3, c4, c5⟩
        · rw [hday, hd1] at b3
          exact absurd b3 (fun z => absurd (congrArg Int32.toInt z) (by rw [nI_toInt (by omega)]; show ¬ (d : Int) = -1; omega))
        · have : y = d := (nI_eq (by omega) (by omega)).mp (c1.symm.trans (hday.trans hd1))
          exact ⟨t, by omega, c4, c5⟩
      obtain ⟨t, t1, t2, t3⟩ := b4
      have e6 : (c_fail sg x).1 5 x 6 = if t < 5 then nI (d + 1) else -1 := by
        rw [cf_5, if_pos ⟨rfl, rfl⟩, t2, nI_1, hday, hd1, nI_1]
        have : (nI (t + 1) < 6) ↔ t < 5 := (nI_ltI (b := 6) (by omega) (by decide)).trans (by omega)
        by_cases ht : t < 5
        · rw [if_pos ht, if_pos (this.mpr ht)]
        · rw [if_neg ht, if_neg (fun z => ht (this.mp z))]
      have e4 : (c_fail sg x).1 5 x 4 = nI (t + 1) := by
        rw [cf_5, if_neg (fun z => absurd z.2 (by decide)), if_pos ⟨rfl, rfl⟩, t2, nI_1]
      have eo : ∀ g, g ≠ 4 → g ≠ 6 → (c_fail sg x).1 5 x g = sg.1 5 x g := fun g g4 g6 => by
        rw [cf_5, if_neg (fun z => g6 z.2), if_neg (fun z => g4 z.2)]
      refine ⟨a1, a2, ?_, ?_, ?_, ?_, ?_, ⟨h, h1, ?_, ?_⟩, ⟨f, f1, ?_, ?_⟩, n, ?_, b2, ?_⟩
      · rw [mo 16 (by decide) (by decide)]; exact a3
      · rw [mo 17 (by decide) (by decide)]; exact a4
      · rw [m18, if_pos rfl, e6, a6, t2, nI_1, hd2, nI_1]
        have : (nI (t + 1) = 6) ↔ ¬ t < 5 := (nI_eq (b := 6) (by omega) (by decide)).trans (by omega)
        by_cases ht : t < 5
        · rw [if_pos ht, if_neg (fun z => (this.mp z) ht)]
        · rw [if_neg ht, if_pos (this.mpr ht)]
      · rw [m19, if_pos rfl, e4, a6, t2, nI_1]
      · rw [mo 20 (by decide) (by decide), eo 5 (by decide) (by decide)]; exact a7
      · rw [eo 1 (by decide) (by decide)]; exact h2
      · rw [mo 21 (by decide) (by decide)]; exact h3
      · rw [eo 3 (by decide) (by decide)]; exact f2
      · rw [mo 22 (by decide) (by decide)]; exact f3
      · rw [eo 5 (by decide) (by decide)]; exact b1
      · rw [e6, e4]
        by_cases ht : t < 5
        · exact Or.inr ⟨d + 1, t + 1, if_pos ht, by omega, by omega, rfl, by omega⟩
        · exact Or.inl (if_neg ht)
    · refine (RUs x hx).cg ?_ rfl rfl rfl (fun f hf1 hf2 => ?_)
      · funext g
        rw [cf_5, if_neg (fun z => e z.1), if_neg (fun z => e z.1)]
      · by_cases e18 : f = 18
        · subst e18; rw [m18, if_neg e]
        · by_cases e19 : f = 19
          · subst e19; rw [m19, if_neg e]
          · rw [mo f e18 e19]
  · rw [cf_5, if_neg (fun z => absurd z.2 (by decide)), if_neg (fun z => absurd z.2 (by decide))]
/-- a payment that is made -/
theorem sim_pay {sg : Sg} {mu : Rm} (R : RB sg mu) (RUs : ∀ u, u < sN sg 5 → RU sg mu u) {u : Nat} (hu : u < sN sg 5) (hday : sg.1 5 u 6 = sg.1 0 0 5) (hN : sN sg 4 < 5400) :
    r_payOK mu (nI u) ∧ c_payOK sg u ∧ RB (c_pay sg u) (r_payT mu (nI u)) ∧ (∀ x, x < sN sg 5 → RU (c_pay sg u) (r_payT mu (nI u)) x) ∧ ((c_pay sg u).1 5 u 5).toNatClampNeg = (sg.1 5 u 5).toNatClampNeg + 1 ∧ (∀ x, x ≠ u → (c_pay sg u).1 5 x 5 = sg.1 5 x 5) := by
  have hn5 := R.1.2.2.2.1.2
  have hn3 := R.1.2.1.2
  have hcl : (nI u).toNatClampNeg = u := nI_clamp (by omega)
  obtain ⟨d, hd0, hd1, hd2⟩ := R.1.2.2.2.2
  obtain ⟨a1, a2, a3, a4, a5, a6, a7, ⟨h, h1, h2, h3⟩, ⟨f, f1, f2, f3⟩, n, b1, b2, b3⟩ := RUs u hu
  have b4 : 30 * n + 1 ≤ d := by
    rcases b3 with b3 | ⟨y, t, c1, c2, c3, c4, c5⟩
    · rw [hday, hd1] at b3
      exact absurd b3 (fun z => absurd (congrArg Int32.toInt z) (by rw [nI_toInt (by omega)]; show ¬ (d : Int) = -1; omega))
    · have : y = d := (nI_eq (by omega) (by omega)).mp (c1.symm.trans (hday.trans hd1))
      omega
  obtain ⟨p1, p2, p3⟩ := R.2.2.2.2.1 _ a2
  obtain ⟨v, hv, v1, v2⟩ := p3 _ a1
  obtain ⟨⟨r, r0, r1, r2⟩, ⟨q, q0, q1, q2⟩, -⟩ := R.2.2.1 _ a1
  -- the price on both sides
  have pc : c_price sg (sg.2 5 u 2) (sg.2 5 u 0) = nI v := by
    unfold c_price
    rw [nI_clamp (by omega)]; exact v1
  have ix : (5 * mu.1 16 u + mu.1 17 u) = nI (5 * sg.2 5 u 2 + sg.2 5 u 0) := by
    rw [a3, a4]
    show nI 5 * nI _ + nI _ = _
    rw [pk_mul, nI_add]
  have pr : r_payPr mu (nI u) = nI v := by
    unfold r_payPr
    rw [hcl, ix, nI_clamp (by omega)]; exact v2
  have hC : (¬ sg.1 5 u 1 = 0 ∧ sg.1 5 u 5 = 0) ↔ (mu.1 21 u = 1 ∧ mu.1 20 u = 0) := by
    rw [a7, h2, h3]
    have e0 : (nI h = 0) ↔ h = 0 := nI_eq (b := 0) (by omega) (by decide)
    have e1 : (nI h = 1) ↔ h = 1 := nI_eq (b := 1) (by omega) (by decide)
    constructor
    · rintro ⟨x, y⟩
      exact ⟨e1.mpr (by have hz : ¬ h = 0 := fun z => x (e0.mpr z); omega), y⟩
    · rintro ⟨x, y⟩
      have := e1.mp x
      exact ⟨fun z => by have := e0.mp z; omega, y⟩
  obtain ⟨w, hw, w1, w2⟩ : ∃ w : Nat, w ≤ 100000 ∧ c_priceN sg u = nI w ∧ r_payP mu (nI u) = nI w := by
    unfold c_priceN r_payP
    rw [hcl, pc, pr]
    by_cases hz : ¬ sg.1 5 u 1 = 0 ∧ sg.1 5 u 5 = 0
    · refine ⟨v / 2, by omega, ?_, ?_⟩
      · rw [if_pos hz]; exact pk_div (d := 2) (by omega) (by decide) (by decide)
      · rw [if_pos (hC.mp hz)]; exact pk_div (d := 2) (by omega) (by decide) (by decide)
    · exact ⟨v, hv, if_neg hz, if_neg (fun z => hz (hC.mpr z))⟩
  -- late or not
  have eL : c_late sg u = r_payO mu (nI u) := by
    have kc : (c_count sg u (sg.1 0 0 5)).1 5 u 5 = nI (n + 1) := by
      rw [cc_5, if_neg (fun z => absurd z.2 (by decide)), if_neg (fun z => absurd z.2 (by decide)), if_pos ⟨rfl, rfl⟩, b1, nI_1]
    unfold c_late r_payO
    rw [hcl, a7, kc, b1]
    have e1 : (nI (n + 1) < 13) ↔ n < 12 := (nI_ltI (b := 13) (by omega) (by decide)).trans (by omega)
    have e2 : (nI n < 12) ↔ n < 12 := nI_ltI (b := 12) (by omega) (by decide)
    by_cases hz : n < 12
    · rw [if_pos (e1.mpr hz), if_pos (e2.mpr hz)]
    · rw [if_neg (fun z => hz (e1.mp z)), if_neg (fun z => hz (e2.mp z))]
  have R2 : RB (c_count sg u (sg.1 0 0 5)) mu := R.cg5 (fun k hk => cc_o sg u _ k hk) rfl (fun _ _ => rfl) rfl
  obtain ⟨s1, s2, -⟩ := sim_sell (lt := c_late sg u) (old := r_payO mu (nI u)) R2 (p := sg.2 5 u 2) (j := sg.2 5 u 0) (v := w) a2 a1 hw (by rw [eL]) hN
  have eS : r_payS mu (nI u) = (r_sells mu (nI (sg.2 5 u 2)) (nI (sg.2 5 u 0)) (nI w) (r_payO mu (nI u))).2 := by
    unfold r_payS
    rw [hcl, a3, a4, w2]
  have eC : c_pay sg u = c_sell (c_count sg u (sg.1 0 0 5)) (sg.2 5 u 2) (sg.2 5 u 0) (nI w) (c_late sg u) := by
    unfold c_pay
    rw [w1]
  have so : ∀ g, g ≠ 3 → g ≠ 6 → g ≠ 7 → g ≠ 13 → g ≠ 23 → g ≠ 24 → (r_payS mu (nI u)).1 g = mu.1 g := fun g x1 x2 x3 x4 x5 x6 => by
    rw [eS]; exact r_sells_ne mu _ _ _ _ g x1 x2 x3 x4 x5 x6
  have mo : ∀ g, g ≠ 18 → g ≠ 19 → g ≠ 20 → (r_payT mu (nI u)).1 g = (r_payS mu (nI u)).1 g := fun g x1 x2 x3 => (if_neg x1).trans ((if_neg x2).trans (if_neg x3))
  have m18 : ∀ x, (r_payT mu (nI u)).1 18 x = if x = u then nI (d + 30) else mu.1 18 x := fun x => by
    unfold r_payT
    rw [rI_s, hcl, so 0 (by decide) (by decide) (by decide) (by decide) (by decide) (by decide), hd2, rI_o _ _ _ _ (show 18 ≠ 19 by decide), rI_o _ _ _ _ (show 18 ≠ 20 by decide), so 18 (by decide) (by decide) (by decide) (by decide) (by decide) (by decide)]
    rw [show nI d + 30 = nI (d + 30) from nI_add d 30]
  have m19 : ∀ x, (r_payT mu (nI u)).1 19 x = if x = u then 0 else mu.1 19 x := fun x => by
    unfold r_payT
    rw [rI_o _ _ _ _ (show 19 ≠ 18 by decide), rI_s, hcl, rI_o _ _ _ _ (show 19 ≠ 20 by decide), so 19 (by decide) (by decide) (by decide) (by decide) (by decide) (by decide)]
  have m20 : ∀ x, (r_payT mu (nI u)).1 20 x = if x = u then mu.1 20 u + 1 else mu.1 20 x := fun x => by
    unfold r_payT
    rw [rI_o _ _ _ _ (show 20 ≠ 18 by decide), rI_o _ _ _ _ (show 20 ≠ 19 by decide), rI_s, hcl, so 20 (by decide) (by decide) (by decide) (by decide) (by decide) (by decide)]
  have c5 : ∀ x g, (c_pay sg u).1 5 x g = (c_count sg u (sg.1 0 0 5)).1 5 x g := fun x g => by
    rw [eC, c_sell_o _ _ _ _ _ 5 (by decide) (by decide) (by decide) (by decide) (by decide)]
  have c52 : ∀ x g, (c_pay sg u).2 5 x g = sg.2 5 x g := fun x g => by
    rw [eC]; exact c_sell_2 _ _ _ _ _ 5 x g (by decide) (fun z => absurd z (by decide)) (fun z => absurd z (by decide))
  have cN3 : sN (c_pay sg u) 3 = sN sg 3 := by
    rw [eC]; exact c_sell_2 _ _ _ _ _ 20 3 0 (by decide) (fun _ => by decide) (fun z => absurd z (by decide))
  refine ⟨⟨by exact vp_in_nI (by omega) (by decide), fun _ => ?_⟩, ⟨a2, a1, p1, ?_, ?_, R.2.2.2.2.2.2 2 (by decide), by omega⟩, ?_, fun x hx => ?_, ?_, fun x hx => ?_⟩
  · rw [hcl, ix]
    refine ⟨vp_in_nI (by omega) (by decide), ?_⟩
    rw [a3, a4, w2]
    exact s1
  · rw [r1]
    show 0 < nI 100 + nI r
    rw [nI_add]
    exact nI_lt (a := 0) (by omega) (by omega)
  · rw [q1]
    rcases (show q = 0 ∨ q = 1 by omega) with rfl | rfl
    · exact Or.inr rfl
    · exact Or.inl rfl
  · rw [← eC, ← eS] at s2
    refine s2.cg5 (fun _ _ => rfl) rfl (fun g hg => mo g (by omega) (by omega) (by omega)) rfl
  · by_cases e : x = u
    · subst e
      have k6 : (c_pay sg x).1 5 x 6 = nI (d + 30) := by
        rw [c5, cc_5, if_pos ⟨rfl, rfl⟩, hd1]
        exact nI_add d 30
      have k4 : (c_pay sg x).1 5 x 4 = nI 0 := by
        rw [c5, cc_5, if_neg (fun z => absurd z.2 (by decide)), if_pos ⟨rfl, rfl⟩]
        rfl
      have k5 : (c_pay sg x).1 5 x 5 = nI (n + 1) := by
        rw [c5, cc_5, if_neg (fun z => absurd z.2 (by decide)), if_neg (fun z => absurd z.2 (by decide)), if_pos ⟨rfl, rfl⟩, b1, nI_1]
      have ko : ∀ g, g ≠ 4 → g ≠ 5 → g ≠ 6 → (c_pay sg x).1 5 x g = sg.1 5 x g := fun g x4 x5 x6 => by
        rw [c5, cc_5, if_neg (fun z => x6 z.2), if_neg (fun z => x4 z.2), if_neg (fun z => x5 z.2)]
      unfold RU
      rw [c52, c52, cN3, k4, k5, k6, ko 1 (by decide) (by decide) (by decide), ko 3 (by decide) (by decide) (by decide), m18, m19, m20, if_pos rfl, if_pos rfl, if_pos rfl, mo 16 (by decide) (by decide) (by decide), mo 17 (by decide) (by decide) (by decide), mo 21 (by decide) (by decide) (by decide), mo 22 (by decide) (by decide) (by decide), so 16 (by decide) (by decide) (by decide) (by decide) (by decide) (by decide), so 17 (by decide) (by decide) (by decide) (by decide) (by decide) (by decide), so 21 (by decide) (by decide) (by decide) (by decide) (by decide) (by decide), so 22 (by decide) (by decide) (by decide) (by decide) (by decide) (by decide)]
      refine ⟨a1, a2, a3, a4, rfl, rfl, ?_, ⟨h, h1, h2, h3⟩, ⟨f, f1, f2, f3⟩, n + 1, rfl, by omega, Or.inr ⟨d + 30, 0, rfl, by omega, by omega, rfl, by omega⟩⟩
      rw [a7, b1, nI_1]
    · refine (RUs x hx).cg ?_ (c52 x 0) (c52 x 2) cN3 (fun g hg1 hg2 => ?_)
      · funext g
        rw [c5, cc_5, if_neg (fun z => e z.1), if_neg (fun z => e z.1), if_neg (fun z => e z.1)]
      · by_cases e18 : g = 18
        · subst e18; rw [m18, if_neg e]
        · by_cases e19 : g = 19
          · subst e19; rw [m19, if_neg e]
          · by_cases e20 : g = 20
            · subst e20; rw [m20, if_neg e]
            · rw [mo g e18 e19 e20, so g (by omega) (by omega) (by omega) (by omega) (by omega) (by omega)]
  · rw [c5, cc_5, if_neg (fun z => absurd z.2 (by decide)), if_neg (fun z => absurd z.2 (by decide)), if_pos ⟨rfl, rfl⟩, b1, nI_1, nI_clamp (by omega), nI_clamp (by omega)]
  · rw [c5, cc_5, if_neg (fun z => hx z.1), if_neg (fun z => hx z.1), if_neg (fun z => hx z.1)]
