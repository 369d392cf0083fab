/-! buy, side by side -/
theorem sim_buy {c : Nat} {sg : Sg} {mu : Rm} (R : RA c sg mu) (Z : RZ (sN sg 2) mu) (hN : sN sg 4 < 5400) {p j : Nat} (hp : p < sN sg 3) (hj : j < 5) :
    r_sellOK (rI mu 25 0 0) (nI p) (nI j) (mu.1 12 (5 * nI p + nI j).toNatClampNeg) 0 ∧ RA (c + 1) (c_sell sg p j (c_price sg p j) 0) (r_sells (rI mu 25 0 0) (nI p) (nI j) (mu.1 12 (5 * nI p + nI j).toNatClampNeg) 0).2 ∧ (r_sells (rI mu 25 0 0) (nI p) (nI j) (mu.1 12 (5 * nI p + nI j).toNatClampNeg) 0).1 = nI (sN sg 4) ∧ RZ (sN sg 2) (r_sells (rI mu 25 0 0) (nI p) (nI j) (mu.1 12 (5 * nI p + nI j).toNatClampNeg) 0).2 := by
  have hn3 := R.1.1.2.1.2
  have hix : (5 * nI p + nI j).toNatClampNeg = 5 * p + j := by
    rw [show (5 : Int32) * nI p + nI j = nI (5 * p + j) from (congrArg (fun z => z + nI j) (pk_mul 5 p)).trans (nI_add _ _), nI_clamp (by omega)]
  obtain ⟨-, -, x3⟩ := R.1.2.2.2.2.1 p hp
  obtain ⟨v, hv, x4, x5⟩ := x3 j hj
  have pc : c_price sg p j = nI v := by
    unfold c_price
    rw [nI_clamp (by omega)]; exact x4
  rw [hix, x5, pc]
  have R1 : RA c sg (rI mu 25 0 0) := R.thr 0
  have Z1 : RZ (sN sg 2) (rI mu 25 0 0) := Z
  obtain ⟨s1, s2, s3⟩ := sim_sell (lt := 0) (old := 0) R1.1 hp hj hv Iff.rfl hN
  refine ⟨s1, ⟨s2, fun u hu => ?_, ?_⟩, s3, RZ_sell (lt := 0) (old := 0) R1.1 hp hj hv Iff.rfl Z1⟩
  · have e5 : sN (c_sell sg p j (nI v) 0) 5 = sN sg 5 := c_sell_2 _ _ _ _ _ 20 5 0 (by decide) (fun _ => by decide) (fun z => absurd z (by decide))
    rw [e5] at hu
    exact (R1.2.1 u hu).cg (by rw [c_sell_o _ _ _ _ _ 5 (by decide) (by decide) (by decide) (by decide) (by decide)]) (c_sell_2 _ _ _ _ _ 5 u 0 (by decide) (fun z => absurd z (by decide)) (fun z => absurd z (by decide))) (c_sell_2 _ _ _ _ _ 5 u 2 (by decide) (fun z => absurd z (by decide)) (fun z => absurd z (by decide))) (c_sell_2 _ _ _ _ _ 20 3 0 (by decide) (fun _ => by decide) (fun z => absurd z (by decide))) (fun f h1 h2 => by rw [r_sells_ne _ _ _ _ _ f (by omega) (by omega) (by omega) (by omega) (by omega) (by omega)])
  · have e5 : sN (c_sell sg p j (nI v) 0) 5 = sN sg 5 := c_sell_2 _ _ _ _ _ 20 5 0 (by decide) (fun _ => by decide) (fun z => absurd z (by decide))
    rw [c_sell_N, e5, payN_cg (sg := sg) (sg' := c_sell sg p j (nI v) 0) _ (fun u _ => by rw [c_sell_o _ _ _ _ _ 5 (by decide) (by decide) (by decide) (by decide) (by decide)])]
    have := R.2.2
    omega
