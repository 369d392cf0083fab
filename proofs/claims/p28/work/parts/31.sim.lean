/-! makers that are not there yet: kept -/
theorem RZ_sell {sg : Sg} {mu : Rm} (R : RB sg mu) {p j v : Nat} {lt old : Int32} (hp : p < sN sg 3) (hj : j < 5) (hv : v ≤ 100000) (hlo : lt = 0 ↔ old = 0) (Z : RZ (sN sg 2) mu) : RZ (sN sg 2) (r_sells mu (nI p) (nI j) (nI v) old).2 := by
  obtain ⟨b, c, m, h, B, -, -, -, -, -, -, rowE⟩ := sale_num (lt := lt) R hp hj hv hlo
  have n3' := R.1.2.1.2
  have n2' := R.1.1.2
  obtain ⟨k1, k2, -⟩ := R.2.2.2.2.1 p hp
  have hK : (mu.1 11 (nI p).toNatClampNeg).toNatClampNeg = sg.2 3 p 1 := by rw [nI_clamp (show p < 2 ^ 31 by omega), k2, nI_clamp (by omega)]
  intro i hi h6
  obtain ⟨z6, z7, z8, z9⟩ := Z i hi h6
  have ne : i ≠ sg.2 3 p 1 := by omega
  have e6 : (r_sells mu (nI p) (nI j) (nI v) old).2.1 6 i = mu.1 6 i := by
    rw [rs2 _ _ _ _ _ 6 (by decide)]
    unfold r_sell2
    rw [rc_o _ _ _ 6 (by decide) (by decide) (by decide) (by decide)]
    show upd (mu.1 6) (mu.1 11 (nI p).toNatClampNeg).toNatClampNeg _ i = _
    rw [hK, pk_un ne]
  have e7 : (r_sells mu (nI p) (nI j) (nI v) old).2.1 7 i = mu.1 7 i := by
    rw [rs2 _ _ _ _ _ 7 (by decide)]
    unfold r_sell2
    rw [rc_7 _ _ _ (show r_part (r_row mu (nI p) (nI j) (nI v) old) 54 3 = nI (sg.2 3 p 1) by rw [rowE]; exact pk_maker B) (by omega) i, if_neg ne]
    rfl
  have e8 : (r_sells mu (nI p) (nI j) (nI v) old).2.1 8 = mu.1 8 := r_sells_ne _ _ _ _ _ 8 (by decide) (by decide) (by decide) (by decide) (by decide) (by decide)
  have e9 : (r_sells mu (nI p) (nI j) (nI v) old).2.1 9 = mu.1 9 := r_sells_ne _ _ _ _ _ 9 (by decide) (by decide) (by decide) (by decide) (by decide) (by decide)
  rw [e6, e7, e8, e9]
  exact ⟨z6, z7, z8, z9⟩
theorem RZ_close {mu : Rm} {n N j : Nat} (hn : n ≤ N) (hN : N ≤ 6) (hj : j < 120) (Z : RZ N mu) : RZ N (r_closeN mu (nI j) n) := by
  induction n with
  | zero => exact Z
  | succ n ih =>
    have Z1 := ih (by omega)
    have hcl : (nI n).toNatClampNeg = n := nI_clamp (by omega)
    have hix : (120 * nI n + nI j).toNatClampNeg = 120 * n + j := by
      rw [show (120 : Int32) * nI n + nI j = nI (120 * n + j) from (congrArg (fun z => z + nI j) (pk_mul 120 n)).trans (nI_add _ _), nI_clamp (by omega)]
    have e : r_closeN mu (nI j) (n + 1) = r_close1 (r_closeN mu (nI j) n) (nI j) n := rfl
    rw [e]
    clear ih e
    generalize r_closeN mu (nI j) n = w at Z1 ⊢
    intro i hi h6
    obtain ⟨z6, z7, z8, z9⟩ := Z1 i hi h6
    have ne : i ≠ n := by omega
    unfold r_close1
    rw [hcl, hix]
    refine ⟨?_, ?_, ?_, fun m hm => ?_⟩
    · rw [rI_o _ _ _ _ (show 6 ≠ 7 by decide), rI_o _ _ _ _ (show 6 ≠ 8 by decide), rI_o _ _ _ _ (show 6 ≠ 9 by decide)]; exact z6
    · rw [rI_s, if_neg ne, rI_o _ _ _ _ (show 7 ≠ 8 by decide), rI_o _ _ _ _ (show 7 ≠ 9 by decide)]; exact z7
    · rw [rI_o _ _ _ _ (show 8 ≠ 7 by decide), rI_s, if_neg ne, rI_o _ _ _ _ (show 8 ≠ 9 by decide)]; exact z8
    · rw [rI_o _ _ _ _ (show 9 ≠ 7 by decide), rI_o _ _ _ _ (show 9 ≠ 8 by decide), rI_s, if_neg (by omega)]; exact z9 m hm
theorem RZ_year {mu : Rm} {n N : Nat} (hn : n ≤ N) (hN : N ≤ 6) (Z : RZ N mu) : RZ N (r_yearN mu n) := by
  induction n with
  | zero => exact Z
  | succ n ih =>
    have Z1 := ih (by omega)
    have hcl : (nI n).toNatClampNeg = n := nI_clamp (by omega)
    intro i hi h6
    obtain ⟨z6, z7, z8, z9⟩ := Z1 i hi h6
    refine ⟨?_, z7, z8, z9⟩
    show (rI (r_yearN mu n) 6 (nI n).toNatClampNeg 0).1 6 i = 0
    rw [hcl, rI_s, if_neg (by omega)]
    exact z6
theorem RZ_payF {mu : Rm} {N : Nat} (i : Int32) (Z : RZ N mu) : RZ N (r_payF mu i) := by
  have mo : ∀ f, f ≠ 18 → f ≠ 19 → (r_payF mu i).1 f = mu.1 f := fun f h8 h9 => (if_neg h8).trans (if_neg h9)
  exact Z.cg (mo 6 (by decide) (by decide)) (mo 7 (by decide) (by decide)) (mo 8 (by decide) (by decide)) (mo 9 (by decide) (by decide))
theorem RZ_payT {sg : Sg} {mu : Rm} (R : RB sg mu) (RUs : ∀ u, u < sN sg 5 → RU sg mu u) {u : Nat} (hu : u < sN sg 5) (hday : sg.1 5 u 6 = sg.1 0 0 5) (Z : RZ (sN sg 2) mu) : RZ (sN sg 2) (r_payT mu (nI u)) := by
  have hn5 := R.1.2.2.2.1.2
  have hn3 := R.1.2.1.2
  have hcl : (nI u).toNatClampNeg = u := nI_clamp (by omega)
  obtain ⟨d, hd0, hd1, hd2⟩ := R.1.2.2.2.2
  obtain ⟨a1, a2, a3, a4, a5, a6, a7, ⟨h, h1, h2, h3⟩, ⟨f, f1, f2, f3⟩, n, b1, b2, b3⟩ := RUs u hu
  have b4 : 30 * n + 1 ≤ d := by
    rcases b3 with b3 | ⟨y, t, c1, c2, c3, c4, c5⟩
    · rw [hday, hd1] at b3
      exact absurd b3 (fun z => absurd (congrArg Int32.toInt z) (by rw [nI_toInt (by omega)]; show ¬ (d : Int) = -1; omega))
    · have : y = d := (nI_eq (by omega) (by omega)).mp (c1.symm.trans (hday.trans hd1))
      omega
  obtain ⟨p1, p2, p3⟩ := R.2.2.2.2.1 _ a2
  obtain ⟨v, hv, v1, v2⟩ := p3 _ a1
  obtain ⟨⟨r, r0, r1, r2⟩, ⟨q, q0, q1, q2⟩, -⟩ := R.2.2.1 _ a1
  -- the price on both sides
  have pc : c_price sg (sg.2 5 u 2) (sg.2 5 u 0) = nI v := by
    unfold c_price
    rw [nI_clamp (by omega)]; exact v1
  have ix : (5 * mu.1 16 u + mu.1 17 u) = nI (5 * sg.2 5 u 2 + sg.2 5 u 0) := by
    rw [a3, a4]
    show nI 5 * nI _ + nI _ = _
    rw [pk_mul, nI_add]
  have pr : r_payPr mu (nI u) = nI v := by
    unfold r_payPr
    rw [hcl, ix, nI_clamp (by omega)]; exact v2
  have hC : (¬ sg.1 5 u 1 = 0 ∧ sg.1 5 u 5 = 0) ↔ (mu.1 21 u = 1 ∧ mu.1 20 u = 0) := by
    rw [a7, h2, h3]
    have e0 : (nI h = 0) ↔ h = 0 := nI_eq (b := 0) (by omega) (by decide)
    have e1 : (nI h = 1) ↔ h = 1 := nI_eq (b := 1) (by omega) (by decide)
    constructor
    · rintro ⟨x, y⟩
      exact ⟨e1.mpr (by have hz : ¬ h = 0 := fun z => x (e0.mpr z); omega), y⟩
    · rintro ⟨x, y⟩
      have := e1.mp x
      exact ⟨fun z => by have := e0.mp z; omega, y⟩
  obtain ⟨w, hw, w1, w2⟩ : ∃ w : Nat, w ≤ 100000 ∧ c_priceN sg u = nI w ∧ r_payP mu (nI u) = nI w := by
    unfold c_priceN r_payP
    rw [hcl, pc, pr]
    by_cases hz : ¬ sg.1 5 u 1 = 0 ∧ sg.1 5 u 5 = 0
    · refine ⟨v / 2, by omega, ?_, ?_⟩
      · rw [if_pos hz]; exact pk_div (d := 2) (by omega) (by decide) (by decide)
      · rw [if_pos (hC.mp hz)]; exact pk_div (d := 2) (by omega) (by decide) (by decide)
    · exact ⟨v, hv, if_neg hz, if_neg (fun z => hz (hC.mpr z))⟩
  -- late or not
  have eL : c_late sg u = r_payO mu (nI u) := by
    have kc : (c_count sg u (sg.1 0 0 5)).1 5 u 5 = nI (n + 1) := by
      rw [cc_5, if_neg (fun z => absurd z.2 (by decide)), if_neg (fun z => absurd z.2 (by decide)), if_pos ⟨rfl, rfl⟩, b1, nI_1]
    unfold c_late r_payO
    rw [hcl, a7, kc, b1]
    have e1 : (nI (n + 1) < 13) ↔ n < 12 := (nI_ltI (b := 13) (by omega) (by decide)).trans (by omega)
    have e2 : (nI n < 12) ↔ n < 12 := nI_ltI (b := 12) (by omega) (by decide)
    by_cases hz : n < 12
    · rw [if_pos (e1.mpr hz), if_pos (e2.mpr hz)]
    · rw [if_neg (fun z => hz (e1.mp z)), if_neg (fun z => hz (e2.mp z))]
  have R2 : RB (c_count sg u (sg.1 0 0 5)) mu := R.cg5 (fun k hk => cc_o sg u _ k hk) rfl (fun _ _ => rfl) rfl
  have eS : r_payS mu (nI u) = (r_sells mu (nI (sg.2 5 u 2)) (nI (sg.2 5 u 0)) (nI w) (r_payO mu (nI u))).2 := by
    unfold r_payS
    rw [hcl, a3, a4, w2]
  have Z2 := RZ_sell (lt := c_late sg u) (old := r_payO mu (nI u)) R2 (p := sg.2 5 u 2) (j := sg.2 5 u 0) (v := w) a2 a1 hw (by rw [eL]) Z
  have Z3 : RZ (sN sg 2) (r_payS mu (nI u)) := by rw [eS]; exact Z2
  have mo' : ∀ g, g ≠ 18 → g ≠ 19 → g ≠ 20 → (r_payT mu (nI u)).1 g = (r_payS mu (nI u)).1 g := fun g x1 x2 x3 => (if_neg x1).trans ((if_neg x2).trans (if_neg x3))
  exact Z3.cg (mo' 6 (by decide) (by decide) (by decide)) (mo' 7 (by decide) (by decide) (by decide)) (mo' 8 (by decide) (by decide) (by decide)) (mo' 9 (by decide) (by decide) (by decide))
theorem RZ_step {c : Nat} {qc : Int32 × Sg} {qr : Int32 × Rm} (R : RA c qc.2 qr.2) {i : Nat} (hi : i < sN qc.2 5) (Z : RZ (sN qc.2 2) qr.2) : RZ (sN qc.2 2) (r_plan1 qr i).2 := by
  have hn5 := R.1.1.2.2.2.1.2
  have hcl : (nI i).toNatClampNeg = i := nI_clamp (by omega)
  obtain ⟨d, hd0, hd1, hd2⟩ := R.1.1.2.2.2.2
  obtain ⟨-, -, -, -, a5, -⟩ := R.2.1 i hi
  have hdd : (qr.2.1 18 (nI i).toNatClampNeg = qr.2.1 0 0) ↔ (qc.2.1 5 i 6 = qc.2.1 0 0 5) := by rw [hcl, a5, hd1, hd2]
  by_cases hday : qc.2.1 5 i 6 = qc.2.1 0 0 5
  · have e2 : r_plan1 qr i = (qr.1 + (if (r_pays qr.2 (nI i)).1 = 0 then 0 else 1), (r_pays qr.2 (nI i)).2) := if_pos (hdd.mpr hday)
    rw [e2]
    show RZ _ (r_pays qr.2 (nI i)).2
    by_cases hf : qr.2.1 22 (nI i).toNatClampNeg = 1
    · rw [show r_pays qr.2 (nI i) = (0, r_payF qr.2 (nI i)) from if_pos hf]
      exact RZ_payF _ Z
    · rw [show r_pays qr.2 (nI i) = (1, r_payT qr.2 (nI i)) from if_neg hf]
      exact RZ_payT R.1 R.2.1 hi hday Z
  · rw [show r_plan1 qr i = (qr.1 + 0, qr.2) from if_neg (fun z => hday (hdd.mp z))]
    exact Z
theorem RZ_coll {c : Nat} {qc : Int32 × Sg} {qr : Int32 × Rm} {b : Int32} (R : RA c qc.2 qr.2) (hc : c < 600) (hM : qr.1 = b + qc.1) (Z : RZ (sN qc.2 2) qr.2) : ∀ n, n ≤ sN qc.2 5 → RZ (sN qc.2 2) (r_plansN qr n).2
  | 0, _ => Z
  | n + 1, hn => by
    obtain ⟨h1, h2, h3, -⟩ := sim_coll R hc hM n (by omega)
    have e2 : sN (c_collN qc n).2 2 = sN qc.2 2 := c_collN_2 qc 20 2 0 (by decide) (fun _ => by decide) (fun z => absurd z (by decide)) n
    have Z1 := RZ_coll R hc hM Z n (by omega)
    rw [← e2] at Z1 ⊢
    exact RZ_step h1 (i := n) (by rw [h3]; omega) Z1
theorem RZ_day0 {sg : Sg} {mu : Rm} {c d : Nat} (R : RA c sg mu) (hd : sg.1 0 0 5 = nI d) (h36 : d + 1 ≤ 3600) (Z : RZ (sN sg 2) mu) : RZ (sN sg 2) (r_day0 (sN sg 2) mu) := by
  have hn6 := R.1.1.1.2
  obtain ⟨d', hd0, hd1, hd2⟩ := R.1.1.2.2.2.2
  have hdd : d' = d := (nI_eq (by omega) (by omega)).mp (hd1.symm.trans hd)
  subst hdd
  have a2 : (r_dayA mu).1 0 0 = nI (d' + 1) := by
    show (rI mu 0 0 (mu.1 0 0 + 1)).1 0 0 = _
    rw [rI_at, hd2, nI_1]
  have Z1 : RZ (sN sg 2) (r_dayA mu) := Z.cg (rI_o _ _ _ _ (by decide)) (rI_o _ _ _ _ (by decide)) (rI_o _ _ _ _ (by decide)) (rI_o _ _ _ _ (by decide))
  have Z2 : RZ (sN sg 2) (r_dayB (sN sg 2) (r_dayA mu)) := by
    unfold r_dayB
    rw [a2]
    by_cases hz : nI (d' + 1) - nI (d' + 1) / 30 * 30 = 0
    · rw [if_pos hz]
      obtain ⟨j, ej, hj⟩ := day_eq (d := d' + 1) h36 hz (by omega)
      rw [ej]
      exact RZ_close (Nat.le_refl _) hn6 hj Z1
    · rw [if_neg hz]; exact Z1
  show RZ _ (r_dayC (sN sg 2) (r_dayB (sN sg 2) (r_dayA mu)))
  unfold r_dayC
  split
  · exact RZ_year (Nat.le_refl _) hn6 Z2
  · exact Z2
theorem RZ_pass {c : Nat} {sg : Sg} {mu : Rm} (R : RA c sg mu) (hc : c < 600) {d nd : Nat} (hd : sg.1 0 0 5 = nI d) (h36 : d + nd ≤ 3600) (Z : RZ (sN sg 2) mu) : ∀ k, k ≤ nd → RZ (sN sg 2) (r_passN (sN sg 2) (sN sg 5) mu k).2
  | 0, _ => Z
  | k + 1, hk => by
    obtain ⟨h1, h2, h3⟩ := sim_pass R hc hd h36 k (by omega)
    have Z1 := RZ_pass R hc hd h36 Z k (by omega)
    have n2 : sN (c_passN sg k).2 2 = sN sg 2 := c_passN_2 sg 20 2 0 (by decide) (fun _ => by decide) (fun z => absurd z (by decide)) k
    have n5 : sN (c_passN sg k).2 5 = sN sg 5 := c_passN_2 sg 20 5 0 (by decide) (fun _ => by decide) (fun z => absurd z (by decide)) k
    have h0 := sim_day0 h1 (c_passN_day sg d hd k) (by omega)
    have Z2 := RZ_day0 h1 (c_passN_day sg d hd k) (by omega) (by rw [n2]; exact Z1)
    rw [n2] at h0 Z2
    have m5 : sN (c_day0 (c_passN sg k).2) 5 = sN sg 5 := (N_eq (c_day0_2 _) 5).trans n5
    have m2 : sN (c_day0 (c_passN sg k).2) 2 = sN sg 2 := (N_eq (c_day0_2 _) 2).trans n2
    have Z3 := RZ_coll (qc := (0, c_day0 (c_passN sg k).2)) (qr := ((r_passN (sN sg 2) (sN sg 5) mu k).1, r_day0 (sN sg 2) (r_passN (sN sg 2) (sN sg 5) mu k).2)) (b := (c_passN sg k).1) h0 hc (by show (r_passN (sN sg 2) (sN sg 5) mu k).1 = (c_passN sg k).1 + 0; rw [Int32.add_zero]; exact h2) (by show RZ (sN (c_day0 (c_passN sg k).2) 2) _; rw [m2]; exact Z2) (sN sg 5) (by show sN sg 5 ≤ sN (c_day0 (c_passN sg k).2) 5; rw [m5]; exact Nat.le_refl _)
    have Z4 : RZ (sN (c_day0 (c_passN sg k).2) 2) (r_plansN ((r_passN (sN sg 2) (sN sg 5) mu k).1, r_day0 (sN sg 2) (r_passN (sN sg 2) (sN sg 5) mu k).2) (sN sg 5)).2 := Z3
    rw [m2] at Z4
    exact Z4
