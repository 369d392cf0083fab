/-! the class's side alone: what holds between calls, and what each call makes of it -/
def PI (c : Nat) (sg : Sg) : Prop := (∃ mu, RI c sg mu) ∧ ∃ d : Nat, d ≤ 3600 ∧ sg.1 0 0 5 = nI d ∧ SM sg (d / 30)
theorem sI_o (sg : Sg) (k i j : Nat) (v : Int32) (k' : Nat) (h : k' ≠ k) : (sI sg k i j v).1 k' = sg.1 k' := up3_o sg.1 k i j v k' h
section PIS
variable {c : Nat} {sg : Sg}
theorem PI.suc (P : PI c sg) : PI (c + 1) sg := ⟨P.1.elim fun mu R => ⟨mu, R.1.suc, R.2⟩, P.2⟩
theorem PI.of (P : PI c sg) {c' : Nat} {sg' : Sg} {mu' : Rm} (R' : RI c' sg' mu') (hd : sg'.1 0 0 5 = sg.1 0 0 5) (hs : ∀ d, SM sg d → SM sg' d) : PI c' sg' := ⟨⟨mu', R'⟩, P.2.elim fun d h => ⟨d, h.1, hd.trans h.2.1, hs _ h.2.2⟩⟩
theorem PI.lw (P : PI c sg) (L : Nat) (hL : L < 4) : lw sg L := P.1.elim fun _ R => R.lw L hL
theorem PI.n2 (P : PI c sg) : sN sg 2 ≤ 6 := P.1.elim fun _ R => R.n2.2
theorem PI.n3 (P : PI c sg) : sN sg 3 ≤ 20 := P.1.elim fun _ R => R.n3.2
theorem PI.n5 (P : PI c sg) : sN sg 5 ≤ 40 := P.1.elim fun _ R => R.n5.2
theorem PI.lt (P : PI c sg) (hc : c < 600) : sN sg 4 < 5400 := P.1.elim fun _ R => R.lt hc
theorem PI.r3 (P : PI c sg) : ∀ i, i < sN sg 3 → sg.2 3 i 1 < sN sg 2 := P.1.elim fun _ R => R.r3
theorem PI.r4 (P : PI c sg) : ∀ i, i < sN sg 4 → sg.2 4 i 0 < sN sg 2 := P.1.elim fun _ R => R.r4
theorem PI.r5 (P : PI c sg) : ∀ i, i < sN sg 5 → sg.2 5 i 2 < sN sg 3 := P.1.elim fun _ R => R.r5
theorem PI.land (P : PI c sg) {j : Nat} (hj : j < 5) : 0 < 100 + sg.1 1 j 1 ∧ (sg.1 1 j 2 = 0 ∨ sg.1 1 j 2 = 1) := P.1.elim fun _ R => by
  obtain ⟨⟨q, hq, e1, -⟩, ⟨w, hw, e2, -⟩, -⟩ := R.1.1.2.2.1 j hj
  exact ⟨tax_ne e1 hq, bit_cs e2 hw⟩
/-- a sale's numbers -/
theorem PI.sale (P : PI c sg) {i : Nat} (hi : i < sN sg 4) : ∃ a b t h : Nat, a < 2 ^ 17 ∧ h < 2 ∧ sg.1 4 i 3 = nI a ∧ sg.1 4 i 4 = nI b ∧ sg.1 4 i 5 = nI t ∧ sg.1 4 i 6 = nI a - nI b - nI t + (if h = 1 then nI b else 0) ∧ sg.1 4 i 7 = nI (1 - h) ∧ sg.2 4 i 1 < 5 := P.1.elim fun _ R => by
  obtain ⟨p, q, t, m, k, w, h, z, B0, e0, s2, s3, s4, s5, s6, s7, s8, k0, l0, kl⟩ := R.1.1.2.2.2.2.2.1 i hi
  exact ⟨p, q, t, h, B0.1, B0.2.2.2.2.2.2.1, s3, s4, s5, s6, s7, by rw [l0]; exact B0.2.2.2.2.2.1⟩
theorem PI.saleBit (P : PI c sg) {i : Nat} (hi : i < sN sg 4) : sg.1 4 i 8 = 0 ∨ sg.1 4 i 8 = 1 := P.1.elim fun _ R => by
  obtain ⟨p, q, t, m, k, w, h, z, B0, e0, s2, s3, s4, s5, s6, s7, s8, k0, l0, kl⟩ := R.1.1.2.2.2.2.2.1 i hi
  have hz2 : z < 2 := B0.2.2.2.2.2.2.2
  rw [s8]
  rcases (show z = 0 ∨ z = 1 by omega) with rfl | rfl
  · exact Or.inl rfl
  · exact Or.inr rfl
/-- a subscription's payments -/
theorem PI.plan (P : PI c sg) {u : Nat} (hu : u < sN sg 5) : ∃ n : Nat, sg.1 5 u 5 = nI n ∧ n ≤ 120 := P.1.elim fun _ R => by
  obtain ⟨-, -, -, -, -, -, -, -, -, n, e, hn, -⟩ := R.1.2.1 u hu
  exact ⟨n, e, hn⟩
theorem pi_setTax (P : PI c sg) {j r : Nat} {b : Int32} (hj : j < 5) (hr : r ≤ 30) (hb : b = 0 ∨ b = 1) : PI (c + 1) (sI (sI sg 1 j 1 (nI r)) 1 j 2 b) := by
  obtain ⟨mu, R⟩ := P.1
  obtain ⟨s1, s2⟩ := sim_setTax R.1 hj hr hb
  exact P.of ⟨s1.suc, R.2.cg rfl rfl rfl rfl⟩ rfl (fun d h => h.cg rfl rfl (fun x _ => up3_j (by decide) (up3_j (by decide) rfl)) rfl (fun i _ => mkb_row ⟨rfl, rfl⟩))
theorem pi_setPrice (P : PI c sg) {p j v : Nat} (hp : p < sN sg 3) (hj : j < 5) (hv : v ≤ 100000) : PI (c + 1) (sI sg 7 p (nI j).toNatClampNeg (nI v)) := by
  obtain ⟨mu, R⟩ := P.1
  obtain ⟨s1, s2⟩ := sim_setPrice R.1 hp hj hv
  exact P.of ⟨s1.suc, R.2.cg rfl rfl rfl rfl⟩ rfl (fun d h => h.k (sI_o _ _ _ _ _ _ (by decide)) (sI_o _ _ _ _ _ _ (by decide)) (sI_o _ _ _ _ _ _ (by decide)) (sI_o _ _ _ _ _ _ (by decide)) rfl)
theorem pi_addMaker (P : PI c sg) (t : Int32) (hn : sN sg 2 < 6) : PI (c + 1) (c_add (n_maker sg t) 0) := by
  obtain ⟨mu, R⟩ := P.1
  obtain ⟨s1, s2⟩ := sim_addMaker R.1 R.2 (t := t) hn
  exact P.of ⟨s1.suc, s2⟩ rfl (fun d h => SM_maker t h)
theorem pi_addProduct (P : PI c sg) {i q : Nat} (hi : i < sN sg 2) (hq : q ≤ 100000) (hn : sN sg 3 < 20) : PI (c + 1) (c_add (n_prod sg i (nI q)) 1) := by
  obtain ⟨mu, R⟩ := P.1
  have s1 := sim_addProduct R.1 hi hq hn
  exact P.of ⟨s1.suc, R.2.cg (rp_ne _ _ _ _ _ _ 6 (by decide) (by decide) (by decide) (by decide)) (rp_ne _ _ _ _ _ _ 7 (by decide) (by decide) (by decide) (by decide)) (rp_ne _ _ _ _ _ _ 8 (by decide) (by decide) (by decide) (by decide)) (rp_ne _ _ _ _ _ _ 9 (by decide) (by decide) (by decide) (by decide))⟩ rfl (fun d h => SM_prod i (nI q) h)
theorem pi_subscribe (P : PI c sg) {i j q : Nat} {h : Int32} (hi : i < sN sg 3) (hj : j < 5) (h1 : 1 ≤ q) (h2 : q ≤ 60) (hh : h = 0 ∨ h = 1) (hn : sN sg 5 < 40) : PI (c + 1) (c_add (n_sub sg j i (gSub h (sg.1 0 0 5 + nI q))) 3) := by
  obtain ⟨mu, R⟩ := P.1
  have s1 := sim_subscribe R.1 hi hj h1 h2 hh hn
  exact P.of ⟨s1.suc, R.2.cg rfl rfl rfl rfl⟩ rfl (fun d g => SM_sub j i _ g)
theorem pi_cancel (P : PI c sg) {u : Nat} (hu : u < sN sg 5) : PI (c + 1) (sI sg 5 u 6 (-1)) := by
  obtain ⟨mu, R⟩ := P.1
  exact P.of ⟨(sim_cancel R.1 hu).suc, R.2.cg rfl rfl rfl rfl⟩ rfl (fun d h => h.k (sI_o _ _ _ _ _ _ (by decide)) (sI_o _ _ _ _ _ _ (by decide)) (sI_o _ _ _ _ _ _ (by decide)) (sI_o _ _ _ _ _ _ (by decide)) rfl)
theorem pi_buy (P : PI c sg) (hc : c < 600) {i j : Nat} (hi : i < sN sg 3) (hj : j < 5) : PI (c + 1) (c_sell sg i j (c_price sg i j) 0) := by
  obtain ⟨mu, R⟩ := P.1
  obtain ⟨s1, s2, s3, s4⟩ := sim_buy R.1 R.2 (R.lt hc) hi hj
  exact P.of ⟨s2, (sell_N2 sg i j _ _) ▸ s4⟩ (c_sell_day _ _ _ _ _) (fun d h => SM_sell h i j _ _ (P.r3 i hi) hj)
theorem pi_refund (P : PI c sg) (hc : c < 600) {i : Nat} (hi : i < sN sg 4) (hz : sg.1 4 i 8 = 0) : PI (c + 1) (c_book (sI sg 4 i 8 1) i (-1)) := by
  obtain ⟨mu, R⟩ := P.1
  have hN := R.lt hc
  have hcl : (nI i).toNatClampNeg = i := nI_clamp (by omega)
  obtain ⟨p, q, t, m, k, w, h, z, B0, e0, s2, s3, s4, s5, s6, s7, s8, k0, l0, kl⟩ := R.1.1.2.2.2.2.2.1 i hi
  obtain ⟨t1, t2⟩ := sim_refund R.1 hN hi hz
  have hk : r_part (mu.2 (nI i).toNatClampNeg) 54 3 = nI k := by rw [hcl, e0]; exact pk_maker B0
  refine P.of ⟨t1.suc, (show sN sg 2 = sN (c_book (sI sg 4 i 8 1) i (-1)) 2 from (N_eq (sg := sI sg 4 i 8 1) (c_book_2 _ _ _) 2).symm) ▸ refund_Z R.2 R.n2.2 hk kl⟩ ((c_book_day _ _ _).trans rfl) (fun d hs => ?_)
  have e : ∀ f, f ≠ 8 → (sI sg 4 i 8 1).1 4 i f = sg.1 4 i f := fun f hf => up3_j hf rfl
  refine SM_book (-1) (hs.k (sI_o _ _ _ _ _ _ (by decide)) (sI_o _ _ _ _ _ _ (by decide)) (sI_o _ _ _ _ _ _ (by decide)) (sI_o _ _ _ _ _ _ (by decide)) rfl) ?_ (P.r4 i hi) (by show sg.2 4 i 1 < 5; rw [l0]; exact B0.2.2.2.2.2.1)
  rw [e 3 (by decide), e 4 (by decide), e 5 (by decide), e 6 (by decide), e 7 (by decide), s3, s4, s5, s6, s7]
  have hh : h < 2 := B0.2.2.2.2.2.2.1
  rcases (show h = 0 ∨ h = 1 by omega) with rfl | rfl
  · rw [if_neg (show ¬ (0 : Nat) = 1 by decide), if_neg (show ¬ nI (1 - 0) = 0 by decide)]; exact ring_s1 _ _ _
  · rw [if_pos (show (1 : Nat) = 1 from rfl), if_pos (show nI (1 - 1) = 0 from rfl)]; exact ring_s0 _ _ _
theorem pi_pass (P : PI c sg) (hc : c < 600) {d q : Nat} (hd : sg.1 0 0 5 = nI d) (hd2 : d ≤ 3600) (h36 : d + q ≤ 3600) : PI (c + 1) (c_passN sg q).2 ∧ ∀ k, k < q → c_daySafe (c_passN sg k).2 := by
  obtain ⟨⟨mu, R⟩, d', hd', e', hs⟩ := P
  have ee : d' = d := (nI_eq (by omega) (by omega)).mp (e'.symm.trans hd)
  subst ee
  obtain ⟨s1, s2, s3⟩ := sim_pass (mu := rI mu 25 0 0) (R.1.thr 0) hc hd h36 q (Nat.le_refl _)
  have hz := RZ_pass (mu := rI mu 25 0 0) (R.1.thr 0) hc hd h36 R.2 q (Nat.le_refl _)
  have safe : ∀ k, k < q → c_daySafe (c_passN sg k).2 := fun k hk => (s3 k hk).1
  exact ⟨⟨⟨_, s1.suc, (pass_N2 sg q) ▸ hz⟩, d' + q, h36, c_passN_day sg d' hd q, SM_pass hd hs q h36 safe⟩, safe⟩
theorem pi_init : PI 0 sg0 := ⟨⟨rz, sim_init⟩, 0, by decide, rfl, SM_0⟩
theorem sell_row (sg : Sg) (p j : Nat) (v lt : Int32) : (c_sell sg p j v lt).1 4 (sN sg 4) = g_sale sg j (sg.1 0 0 5 / 30) v (c_pct sg p lt) := by
  rw [c_sell_1 _ _ _ _ _ 4 (by decide)]
  show (c_book (c_net sg p j v lt) (sN sg 4) 1).1 4 (sN sg 4) = _
  rw [cb_o _ _ _ 4 (by decide) (by decide) (by decide), c_net_4]
/-- what a sale says of itself -/
theorem pi_saleNew (P : PI c sg) {i j : Nat} (hi : i < sN sg 3) (hj : j < 5) : ∃ a b t : Nat, a < 2 ^ 17 ∧ b < 2 ^ 15 ∧ t < 2 ^ 15 ∧ (c_sell sg i j (c_price sg i j) 0).1 4 (sN sg 4) 3 = nI a ∧ (c_sell sg i j (c_price sg i j) 0).1 4 (sN sg 4) 4 = nI b ∧ (c_sell sg i j (c_price sg i j) 0).1 4 (sN sg 4) 5 = nI t ∧ nI t ≤ (nI a - nI b) * 30 / 100 ∧ ((c_sell sg i j (c_price sg i j) 0).1 4 (sN sg 4) 6 = nI a - nI t ∨ (c_sell sg i j (c_price sg i j) 0).1 4 (sN sg 4) 6 = nI a - nI t - nI b) := by
  obtain ⟨mu, R⟩ := P.1
  obtain ⟨k1, k2, hpr⟩ := R.1.1.2.2.2.2.1 i hi
  obtain ⟨v, hv, e7, -⟩ := hpr j hj
  have ep : c_price sg i j = nI v := by
    unfold c_price
    rw [nI_clamp (by omega)]
    exact e7
  obtain ⟨b, t, m, h, B, tC, tR, sC_, hm, h1, -, -⟩ := sale_num R.1.1 hi hj hv (lt := 0) (old := 0) Iff.rfl
  obtain ⟨⟨r, hr, r1, -⟩, -, -⟩ := R.1.1.2.2.1 j hj
  have hvr : v * r ≤ 100000 * 30 := Nat.mul_le_mul hv hr
  have hbv : b ≤ v := by
    have e1 : c_tax sg j (nI v) = nI (v * r / (100 + r)) := by
      unfold c_tax
      rw [r1]
      show nI v * nI r / (nI 100 + nI r) = _
      rw [pk_mul, nI_add, pk_div (by omega) (by omega) (by omega)]
    have hb1 : v * r / (100 + r) ≤ v * r / 100 := Nat.div_le_div_left (by omega) (by decide)
    have hvr2 : v * r ≤ v * 30 := Nat.mul_le_mul_left v hr
    have e2 : b = v * r / (100 + r) := (nI_eq (by have := B.2.1; omega) (by omega)).mp (tC.symm.trans e1)
    omega
  rw [sell_row, ep]
  have g3 : g_sale sg j (sg.1 0 0 5 / 30) (nI v) (c_pct sg i 0) 3 = nI v := rfl
  have g4 : g_sale sg j (sg.1 0 0 5 / 30) (nI v) (c_pct sg i 0) 4 = nI b := tC
  have g5 : g_sale sg j (sg.1 0 0 5 / 30) (nI v) (c_pct sg i 0) 5 = nI t := by
    show (nI v - c_tax sg j (nI v)) * c_pct sg i 0 / 100 = nI t
    rw [tC]; exact sC_
  have g6 : g_sale sg j (sg.1 0 0 5 / 30) (nI v) (c_pct sg i 0) 6 = nI v - nI b - nI t + (if sg.1 1 j 2 = 0 then nI b else 0) := by
    show nI v - c_tax sg j (nI v) - (nI v - c_tax sg j (nI v)) * c_pct sg i 0 / 100 + (if sg.1 1 j 2 = 0 then c_tax sg j (nI v) else 0) = _
    rw [tC, sC_]
  have hp : ∀ p : Nat, p ≤ 30 → (nI v - nI b) * nI p / 100 = nI ((v - b) * p / 100) := fun p hp => by
    have : (v - b) * p ≤ 100000 * 30 := Nat.mul_le_mul (by omega) hp
    rw [pk_sub hbv, pk_mul, show (100 : Int32) = nI 100 from rfl, pk_div (by omega) (by decide) (by decide)]
  have hle : nI t ≤ (nI v - nI b) * 30 / 100 := by
    rw [← sC_]
    unfold c_pct
    split
    · rw [show (15 : Int32) = nI 15 from rfl, show (30 : Int32) = nI 30 from rfl, hp 15 (by decide), hp 30 (by decide)]
      exact nI_le (Nat.div_le_div_right (Nat.mul_le_mul_left _ (by decide))) (by have : (v - b) * 30 ≤ 100000 * 30 := Nat.mul_le_mul (by omega) (Nat.le_refl _); omega)
    · exact Int32.le_refl _
  refine ⟨v, b, t, B.1, B.2.1, B.2.2.1, g3, g4, g5, hle, ?_⟩
  rw [g6]
  by_cases hh : sg.1 1 j 2 = 0
  · rw [if_pos hh]; exact Or.inl (ring_p _ _ _)
  · rw [if_neg hh]; exact Or.inr (ring_q _ _ _)
end PIS
/-- low(v, n): what the law makes of an int -/
theorem low_ex (v : Int32) {k : Nat} (h0 : 0 < k) (hk : k < 2 ^ 31) : ∃ q : Nat, q < k ∧ (v &&& 2147483647) - (v &&& 2147483647) / nI k * nI k = nI q := by
  obtain ⟨t, ht, et⟩ := pk_andE v (m := 2147483647) 31 (by decide)
  rw [et]
  exact ⟨t % k, Nat.mod_lt _ h0, pk_rem ht h0 hk⟩
