/-! makers that are not there yet: kept -/
theorem RZ_sell {sg : Sg} {mu : Rm} (R : RB sg mu) {p j v : Nat} {lt old : Int32} (hp : p < sN sg 3) (hj : j < 5) (hv : v ≤ 100000) (hlo : lt = 0 ↔ old = 0) (Z : RZ (sN sg 2) mu) : RZ (sN sg 2) (r_sells mu (nI p) (nI j) (nI v) old).2 := by
  obtain ⟨b, c, m, h, B, -, -, -, -, -, -, rowE⟩ := sale_num (lt := lt) R hp hj hv hlo
  have n3' := R.1.2.1.2
  have n2' := R.1.1.2
  obtain ⟨k1, k2, -⟩ := R.2.2.2.2.1 p hp
  have hK : (mu.1 11 (nI p).toNatClampNeg).toNatClampNeg = sg.2 3 p 1 := by rw [nI_clamp (show p < 2 ^ 31 by omega), k2, nI_clamp (by omega)]
  intro i hi h6
  obtain ⟨z6, z7, z8, z9⟩ := Z i hi h6
  have ne : i ≠ sg.2 3 p 1 := by omega
  have e6 : (r_sells mu (nI p) (nI j) (nI v) old).2.1 6 i = mu.1 6 i := by
    rw [rs2 _ _ _ _ _ 6 (by decide)]
    unfold r_sell2
    rw [rc_o _ _ _ 6 (by decide) (by decide) (by decide) (by decide)]
    show upd (mu.1 6) (mu.1 11 (nI p).toNatClampNeg).toNatClampNeg _ i = _
    rw [hK, pk_un ne]
  have e7 : (r_sells mu (nI p) (nI j) (nI v) old).2.1 7 i = mu.1 7 i := by
    rw [rs2 _ _ _ _ _ 7 (by decide)]
    unfold r_sell2
    rw [rc_7 _ _ _ (show r_part (r_row mu (nI p) (nI j) (nI v) old) 54 3 = nI (sg.2 3 p 1) by rw [rowE]; exact pk_maker B) (by omega) i, if_neg ne]
    rfl
  have e8 : (r_sells mu (nI p) (nI j) (nI v) old).2.1 8 = mu.1 8 := r_sells_ne _ _ _ _ _ 8 (by decide) (by decide) (by decide) (by decide) (by decide) (by decide)
  have e9 : (r_sells mu (nI p) (nI j) (nI v) old).2.1 9 = mu.1 9 := r_sells_ne _ _ _ _ _ 9 (by decide) (by decide) (by decide) (by decide) (by decide) (by decide)
  rw [e6, e7, e8, e9]
  exact ⟨z6, z7, z8, z9⟩
theorem RZ_close {mu : Rm} {n N j : Nat} (hn : n ≤ N) (hN : N ≤ 6) (hj : j < 120) (Z : RZ N mu) : RZ N (r_closeN mu (nI j) n) := by
  induction n with
  | zero => exact Z
  | succ n ih =>
    have Z1 := ih (by omega)
    have hcl : (nI n).toNatClampNeg = n := nI_clamp (by omega)
    have hix : (120 * nI n + nI j).toNatClampNeg = 120 * n + j := by
      rw [show (120 : Int32) * nI n + nI j = nI (120 * n + j) from (congrArg (fun z => z + nI j) (pk_mul 120 n)).trans (nI_add _ _), nI_clamp (by omega)]
    have e : r_closeN mu (nI j) (n + 1) = r_close1 (r_closeN mu (nI j) n) (nI j) n := rfl
    rw [e]
    clear ih e
    generalize r_closeN mu (nI j) n = w at Z1 ⊢
    intro i hi h6
    obtain ⟨z6, z7, z8, z9⟩ := Z1 i hi h6
    have ne : i ≠ n := by omega
    unfold r_close1
    rw [hcl, hix]
    refine ⟨?_, ?_, ?_, fun m hm => ?_⟩
    · rw [rI_o _ _ _ _ (show 6 ≠ 7 by decide), rI_o _ _ _ _ (show 6 ≠ 8 by decide), rI_o _ _ _ _ (show 6 ≠ 9 by decide)]; exact z6
    · rw [rI_s, if_neg ne, rI_o _ _ _ _ (show 7 ≠ 8 by decide), rI_o _ _ _ _ (show 7 ≠ 9 by decide)]; exact z7
    · rw [rI_o _ _ _ _ (show 8 ≠ 7 by decide), rI_s, if_neg ne, rI_o _ _ _ _ (show 8 ≠ 9 by decide)]; exact z8
    · rw [rI_o _ _ _ _ (show 9 ≠ 7 by decide), rI_o _ _ _ _ (show 9 ≠ 8 by decide), rI_s, if_neg (by omega)]; exact z9 m hm
theorem RZ_year {mu : Rm} {n N : Nat} (hn : n ≤ N) (hN : N ≤ 6) (Z : RZ N mu) : RZ N (r_yearN mu n) := by
  induction n with
  | zero => exact Z
  | succ n ih =>
    have Z1 := ih (by omega)
    have hcl : (nI n).toNatClampNeg = n := nI_clamp (by omega)
    intro i hi h6
    obtain ⟨z6, z7, z8, z9⟩ := Z1 i hi h6
    refine ⟨?_, z7, z8, z9⟩
    show (rI (r_yearN mu n) 6 (nI n).toNatClampNeg 0).1 6 i = 0
    rw [hcl, rI_s, if_neg (by omega)]
    exact z6
