/-! days, side by side -/
theorem sim_step {c : Nat} {qc : Int32 × Sg} {qr : Int32 × Rm} {b : Int32} (R : RA c qc.2 qr.2) (hc : c < 600) (hM : qr.1 = b + qc.1) {i : Nat} (hi : i < sN qc.2 5) :
    (qc.2.1 5 i 6 = qc.2.1 0 0 5 → qc.2.1 5 i 3 = 0 → c_payOK qc.2 i) ∧ (qr.2.1 18 (nI i).toNatClampNeg = qr.2.1 0 0 → r_payOK qr.2 (nI i)) ∧ RA c (c_step qc i).2 (r_plan1 qr i).2 ∧ (r_plan1 qr i).1 = b + (c_step qc i).1 ∧ sN (c_step qc i).2 5 = sN qc.2 5 := by
  have hN4 := R.lt hc
  obtain ⟨RB_, RUs, hs⟩ := R
  have hn5 := RB_.1.2.2.2.1.2
  have hcl : (nI i).toNatClampNeg = i := nI_clamp (by omega)
  obtain ⟨d, hd0, hd1, hd2⟩ := RB_.1.2.2.2.2
  obtain ⟨-, -, -, -, a5, -, -, -, ⟨f, f1, f2, f3⟩, -⟩ := RUs i hi
  have eN := c_step_2 qc i 20 5 0 (by decide) (fun _ => by decide) (fun z => absurd z (by decide))
  have hdd : (qr.2.1 18 (nI i).toNatClampNeg = qr.2.1 0 0) ↔ (qc.2.1 5 i 6 = qc.2.1 0 0 5) := by rw [hcl, a5, hd1, hd2]
  have f0 : (nI f = 0) ↔ f = 0 := nI_eq (b := 0) (by omega) (by decide)
  have fo : (nI f = 1) ↔ f = 1 := nI_eq (b := 1) (by omega) (by decide)
  by_cases hday : qc.2.1 5 i 6 = qc.2.1 0 0 5
  · have e1 : c_step qc i = ((if c_tp qc.2 i = 0 then qc.1 else qc.1 + 1), c_try qc.2 i) := if_pos hday
    have e2 : r_plan1 qr i = (qr.1 + (if (r_pays qr.2 (nI i)).1 = 0 then 0 else 1), (r_pays qr.2 (nI i)).2) := if_pos (hdd.mpr hday)
    rcases (show f = 0 ∨ f = 1 by omega) with rfl | rfl
    · obtain ⟨s1, s2, s3, s4, s5, s6⟩ := sim_pay RB_ RUs hi hday hN4
      have t1 : c_tp qc.2 i = 1 := if_pos f2
      have t2 : c_try qc.2 i = c_pay qc.2 i := if_pos f2
      have t3 : r_pays qr.2 (nI i) = (1, r_payT qr.2 (nI i)) := if_neg (by rw [hcl, f3]; decide)
      have t5 : sN (c_pay qc.2 i) 5 = sN qc.2 5 := by rw [← t2]; exact c_try_2 _ _ 20 5 0 (by decide) (fun _ => by decide) (fun z => absurd z (by decide))
      have t4 : sN (c_pay qc.2 i) 4 = sN qc.2 4 + 1 := c_sell_N _ _ _ _ _
      refine ⟨fun _ _ => s2, fun _ => s1, ?_, ?_, eN⟩
      · rw [e1, e2, t2, t3]
        refine ⟨s3, ?_, ?_⟩
        · rw [t5]; exact s4
        · rw [t4, t5, payN_one s5 s6 _ hi]; omega
      · rw [e1, e2, t1, t3]
        show qr.1 + (if (1 : Int32) = 0 then 0 else 1) = b + (if (1 : Int32) = 0 then qc.1 else qc.1 + 1)
        rw [if_neg (by decide), if_neg (by decide), hM, Int32.add_assoc]
    · obtain ⟨s1, s2, s3⟩ := sim_fail RB_ RUs hi hday
      have g2 : ¬ qc.2.1 5 i 3 = 0 := by rw [f2]; decide
      have t1 : c_tp qc.2 i = 0 := if_neg g2
      have t2 : c_try qc.2 i = c_fail qc.2 i := if_neg g2
      have t3 : r_pays qr.2 (nI i) = (0, r_payF qr.2 (nI i)) := if_pos (by rw [hcl, f3]; rfl)
      refine ⟨fun _ z => absurd z g2, fun _ => ⟨vp_in_nI (by omega) (by decide), fun z => absurd (by rw [hcl, f3]; rfl) z⟩, ?_, ?_, eN⟩
      · rw [e1, e2, t2, t3]
        exact ⟨s1, s2, by rw [show payN (c_fail qc.2 i) (sN (c_fail qc.2 i) 5) = payN qc.2 (sN qc.2 5) from payN_cg _ (fun u _ => s3 u)]; exact hs⟩
      · rw [e1, e2, t1, t3]
        show qr.1 + (if (0 : Int32) = 0 then 0 else 1) = b + (if (0 : Int32) = 0 then qc.1 else qc.1 + 1)
        rw [if_pos rfl, if_pos rfl, hM, Int32.add_zero]
  · have e1 : c_step qc i = qc := if_neg hday
    have e2 : r_plan1 qr i = (qr.1 + 0, qr.2) := if_neg (fun z => hday (hdd.mp z))
    refine ⟨fun z => absurd z hday, fun z => absurd (hdd.mp z) hday, ?_, ?_, eN⟩
    · rw [e1, e2]; exact ⟨RB_, RUs, hs⟩
    · rw [e1, e2, hM, Int32.add_zero]
theorem sim_coll {c : Nat} {qc : Int32 × Sg} {qr : Int32 × Rm} {b : Int32} (R : RA c qc.2 qr.2) (hc : c < 600) (hM : qr.1 = b + qc.1) : ∀ n, n ≤ sN qc.2 5 →
    RA c (c_collN qc n).2 (r_plansN qr n).2 ∧ (r_plansN qr n).1 = b + (c_collN qc n).1 ∧ sN (c_collN qc n).2 5 = sN qc.2 5 ∧ ∀ i, i < n → ((c_collN qc i).2.1 5 i 6 = (c_collN qc i).2.1 0 0 5 → (c_collN qc i).2.1 5 i 3 = 0 → c_payOK (c_collN qc i).2 i) ∧ ((r_plansN qr i).2.1 18 (nI i).toNatClampNeg = (r_plansN qr i).2.1 0 0 → r_payOK (r_plansN qr i).2 (nI i))
  | 0, _ => ⟨R, hM, rfl, fun i hi => absurd hi (Nat.not_lt_zero i)⟩
  | n + 1, hn => by
    obtain ⟨h1, h2, h3, h4⟩ := sim_coll R hc hM n (by omega)
    obtain ⟨s1, s2, s3, s4, s5⟩ := sim_step h1 hc h2 (i := n) (by rw [h3]; omega)
    refine ⟨s3, s4, s5.trans h3, fun i hi => ?_⟩
    by_cases e : i = n
    · subst e; exact ⟨s1, s2⟩
    · exact h4 i (by omega)
theorem up3_2 (f : Nat → Nat → Nat → Int32) (u j : Nat) (v : Int32) (i f' : Nat) : up3 f 2 u j v 2 i f' = if i = u ∧ f' = j then v else f 2 i f' := by
  unfold up3
  simp
theorem up3_6 (f : Nat → Nat → Nat → Int32) (u j : Nat) (v : Int32) (i f' : Nat) : up3 f 6 u j v 6 i f' = if i = u ∧ f' = j then v else f 6 i f' := by
  unfold up3
  simp
/-- one maker's month -/
theorem sim_close {sg : Sg} {mu : Rm} {i j n : Nat} (hj : j < 120) (hi : i < n) (hn : n ≤ 6) (rm : ∀ x, x < n → RM sg mu x) : ∀ x, x < n → RM (c_settle sg i (nI j)) (r_close1 mu (nI j) i) x := by
  intro x hx
  have hcl : (nI i).toNatClampNeg = i := nI_clamp (by omega)
  have hjc : (nI j).toNatClampNeg = j := nI_clamp (by omega)
  have hix : (120 * nI i + nI j).toNatClampNeg = 120 * i + j := by
    rw [show (120 : Int32) * nI i + nI j = nI (120 * i + j) from (congrArg (fun z => z + nI j) (pk_mul 120 i)).trans (nI_add _ _), nI_clamp (by omega)]
  obtain ⟨m5, m6, m7, m8, m9⟩ := rm x hx
  obtain ⟨i5, i6, i7, i8, i9⟩ := rm i hi
  unfold r_close1 c_settle
  rw [hcl, hjc, hix, i8, i7, i5]
  refine ⟨?_, ?_, ?_, ?_, fun m hm => ?_⟩
  · show mu.1 5 x = up3 (up3 _ 2 i 2 _) 2 i 3 0 2 x 0
    rw [up3_2, up3_2, if_neg (fun z => absurd z.2 (by decide)), if_neg (fun z => absurd z.2 (by decide))]
    exact m5
  · show mu.1 6 x = up3 (up3 _ 2 i 2 _) 2 i 3 0 2 x 4
    rw [up3_2, up3_2, if_neg (fun z => absurd z.2 (by decide)), if_neg (fun z => absurd z.2 (by decide))]
    exact m6
  · rw [rI_s]
    show _ = up3 (up3 _ 2 i 2 _) 2 i 3 0 2 x 3
    rw [up3_2, up3_2, rI_o _ _ _ _ (show 7 ≠ 8 by decide), rI_o _ _ _ _ (show 7 ≠ 9 by decide)]
    by_cases e : x = i
    · rw [if_pos e, if_pos ⟨e, rfl⟩]
    · rw [if_neg e, if_neg (fun z => e z.1), if_neg (fun z => e z.1)]
      exact m7
  · rw [rI_o _ _ _ _ (show 8 ≠ 7 by decide), rI_s]
    show _ = up3 (up3 _ 2 i 2 _) 2 i 3 0 2 x 2
    rw [up3_2, up3_2, rI_o _ _ _ _ (show 8 ≠ 9 by decide), if_neg (fun (z : x = i ∧ 2 = 3) => absurd z.2 (by decide))]
    by_cases e : x = i
    · exact (if_pos e).trans (if_pos ⟨e, rfl⟩).symm
    · rw [if_neg e, if_neg (fun z => e z.1)]
      exact m8
  · rw [rI_o _ _ _ _ (show 9 ≠ 7 by decide), rI_o _ _ _ _ (show 9 ≠ 8 by decide), rI_s]
    show _ = up3 sg.1 6 i j _ 6 x m
    rw [up3_6]
    by_cases e : x = i ∧ m = j
    · rw [if_pos (by omega), if_pos e]
    · rw [if_neg (by omega), if_neg e]
      exact m9 m hm
theorem sim_closeN {sg : Sg} {mu : Rm} {j n : Nat} (hj : j < 120) (hn : n ≤ 6) (rm : ∀ x, x < n → RM sg mu x) : ∀ i, i ≤ n → ∀ x, x < n → RM (c_closeN sg (nI j) i) (r_closeN mu (nI j) i) x
  | 0, _ => rm
  | i + 1, h => sim_close hj (by omega) hn (sim_closeN hj hn rm i (by omega))
theorem sim_yearN {sg : Sg} {mu : Rm} {n : Nat} (hn : n ≤ 6) (rm : ∀ x, x < n → RM sg mu x) : ∀ i, i ≤ n → ∀ x, x < n → RM (c_yearN sg i) (r_yearN mu i) x
  | 0, _ => rm
  | i + 1, h => by
    intro x hx
    obtain ⟨m5, m6, m7, m8, m9⟩ := sim_yearN hn rm i (by omega) x hx
    have hcl : (nI i).toNatClampNeg = i := nI_clamp (by omega)
    have ec : ∀ f, (c_yearN sg (i + 1)).1 2 x f = if x = i ∧ f = 4 then 0 else (c_yearN sg i).1 2 x f := fun f => up3_2 _ _ _ _ _ _
    refine ⟨?_, ?_, ?_, ?_, m9⟩
    · rw [ec, if_neg (fun z => absurd z.2 (by decide))]; exact m5
    · show (rI (r_yearN mu i) 6 (nI i).toNatClampNeg 0).1 6 x = _
      rw [ec, rI_s, hcl]
      by_cases e : x = i
      · exact (if_pos e).trans (if_pos ⟨e, rfl⟩).symm
      · exact (if_neg e).trans (m6.trans (if_neg (fun z => e z.1)).symm)
    · rw [ec, if_neg (fun z => absurd z.2 (by decide))]; exact m7
    · rw [ec, if_neg (fun z => absurd z.2 (by decide))]; exact m8
theorem c_closeN_o (sg : Sg) (mo : Int32) (k : Nat) (h2 : k ≠ 2) (h6 : k ≠ 6) : ∀ i, (c_closeN sg mo i).1 k = sg.1 k
  | 0 => rfl
  | i + 1 => by
    show up3 (up3 (up3 (c_closeN sg mo i).1 6 i mo.toNatClampNeg _) 2 i 2 _) 2 i 3 0 k = _
    rw [up3_o _ _ _ _ _ _ h2, up3_o _ _ _ _ _ _ h2, up3_o _ _ _ _ _ _ h6]
    exact c_closeN_o sg mo k h2 h6 i
theorem c_yearN_o (sg : Sg) (k : Nat) (h2 : k ≠ 2) : ∀ i, (c_yearN sg i).1 k = sg.1 k
  | 0 => rfl
  | i + 1 => by
    show up3 (c_yearN sg i).1 2 i 4 0 k = _
    rw [up3_o _ _ _ _ _ _ h2]
    exact c_yearN_o sg k h2 i
/-- a change of makers' numbers and of the day -/
theorem RA.cgM {c : Nat} {sg sg' : Sg} {mu mu' : Rm} (R : RA c sg mu) (e1 : ∀ k, k ≠ 0 → k ≠ 2 → k ≠ 6 → sg'.1 k = sg.1 k) (e2 : sg'.2 = sg.2) (m1 : ∀ f, f ≠ 0 → f ≠ 6 → f ≠ 7 → f ≠ 8 → f ≠ 9 → mu'.1 f = mu.1 f) (m2 : mu'.2 = mu.2) (hd : ∃ d : Nat, d ≤ 3600 ∧ sg'.1 0 0 5 = nI d ∧ mu'.1 0 0 = nI d) (ht : sg'.1 0 0 6 = sg.1 0 0 6 ∧ sg'.1 0 0 7 = sg.1 0 0 7) (hm : ∀ i, i < sN sg 2 → RM sg' mu' i) : RA c sg' mu' := by
  obtain ⟨⟨rn, rt, rl, rm, rp, rs, lws⟩, ru, hs⟩ := R
  have hN : ∀ k, sN sg' k = sN sg k := fun k => N_eq e2 k
  refine ⟨⟨?_, ?_, fun j hj => ?_, fun i hi => ?_, fun p hp => ?_, fun s hs => ?_, fun L hL => lw_eq e2 L (lws L hL)⟩, fun u hu => ?_, ?_⟩
  · unfold RN
    rw [hN, hN, hN, hN, m1 4 (by decide) (by decide) (by decide) (by decide) (by decide), m1 10 (by decide) (by decide) (by decide) (by decide) (by decide), m1 13 (by decide) (by decide) (by decide) (by decide) (by decide), m1 15 (by decide) (by decide) (by decide) (by decide) (by decide)]
    exact ⟨rn.1, rn.2.1, rn.2.2.1, rn.2.2.2.1, hd⟩
  · unfold RT
    rw [m1 23 (by decide) (by decide) (by decide) (by decide) (by decide), m1 24 (by decide) (by decide) (by decide) (by decide) (by decide), ht.1, ht.2]
    exact rt
  · have e := e1 1 (by decide) (by decide) (by decide)
    exact (rl j hj).cg (by rw [e]) (by rw [e]) (by rw [e]) (by rw [m1 1 (by decide) (by decide) (by decide) (by decide) (by decide)]) (by rw [m1 2 (by decide) (by decide) (by decide) (by decide) (by decide)]) (by rw [m1 3 (by decide) (by decide) (by decide) (by decide) (by decide)])
  · rw [hN] at hi
    exact hm i hi
  · rw [hN] at hp
    exact (rp p hp).cg (by rw [e1 7 (by decide) (by decide) (by decide)]) (by rw [e2]) (hN 2) (m1 11 (by decide) (by decide) (by decide) (by decide) (by decide)) (m1 12 (by decide) (by decide) (by decide) (by decide) (by decide))
  · rw [hN] at hs
    exact (rs s hs).cg (by rw [e1 4 (by decide) (by decide) (by decide)]) (by rw [e2]) (by rw [e2]) (hN 2) (by rw [m2])
  · rw [hN] at hu
    exact (ru u hu).cg (by rw [e1 5 (by decide) (by decide) (by decide)]) (by rw [e2]) (by rw [e2]) (hN 3) (fun f h1 h2 => by rw [m1 f (by omega) (by omega) (by omega) (by omega) (by omega)])
  · rw [hN, hN, payN_cg (sg := sg) (sg' := sg') _ (fun u _ => by rw [e1 5 (by decide) (by decide) (by decide)])]
    exact hs
theorem day_eq {d : Nat} (hd : d ≤ 3600) : (nI d - nI d / 30 * 30 = 0 → 1 ≤ d → ∃ j, nI d / 30 - 1 = nI j ∧ j < 120) := fun h h1 => r_mon (d := d) rfl hd h h1
theorem r_closeN_2 (mu : Rm) (mo : Int32) : ∀ i, (r_closeN mu mo i).2 = mu.2
  | 0 => rfl
  | i + 1 => (show (r_close1 (r_closeN mu mo i) mo i).2 = (r_closeN mu mo i).2 from rfl).trans (r_closeN_2 mu mo i)
theorem r_yearN_2 (mu : Rm) : ∀ i, (r_yearN mu i).2 = mu.2
  | 0 => rfl
  | i + 1 => (show (rI (r_yearN mu i) 6 _ 0).2 = (r_yearN mu i).2 from rfl).trans (r_yearN_2 mu i)
/-- a day begins -/
theorem sim_day0 {c : Nat} {sg : Sg} {mu : Rm} (R : RA c sg mu) {d : Nat} (hd : sg.1 0 0 5 = nI d) (h36 : d + 1 ≤ 3600) : RA c (c_day0 sg) (r_day0 (sN sg 2) mu) := by
  have hn6 := R.1.1.1.2
  have rm := R.1.2.2.2.1
  obtain ⟨d', hd0, hd1, hd2⟩ := R.1.1.2.2.2.2
  have hdd : d' = d := (nI_eq (by omega) (by omega)).mp (hd1.symm.trans hd)
  subst hdd
  -- the day is one more
  have RA1 : RA c (c_dayA sg) (r_dayA mu) := by
    refine R.cgM (fun k h0 h2 h6 => up3_o _ _ _ _ _ _ h0) rfl (fun f h0 _ _ _ _ => if_neg h0) rfl ⟨d' + 1, h36, ?_, ?_⟩ ⟨rfl, rfl⟩ (fun i hi => rm i hi)
    · show sg.1 0 0 5 + 1 = _
      rw [hd, nI_1]
    · show (rI mu 0 0 (mu.1 0 0 + 1)).1 0 0 = _
      rw [rI_at, hd2, nI_1]
  have a1 : (c_dayA sg).1 0 0 5 = nI (d' + 1) := by
    show sg.1 0 0 5 + 1 = _
    rw [hd, nI_1]
  have a2 : (r_dayA mu).1 0 0 = nI (d' + 1) := by
    show (rI mu 0 0 (mu.1 0 0 + 1)).1 0 0 = _
    rw [rI_at, hd2, nI_1]
  have RA2 : RA c (c_dayB (c_dayA sg)) (r_dayB (sN sg 2) (r_dayA mu)) := by
    unfold c_dayB r_dayB
    rw [a1, a2]
    by_cases hz : nI (d' + 1) - nI (d' + 1) / 30 * 30 = 0
    · rw [if_pos hz, if_pos hz]
      obtain ⟨j, ej, hj⟩ := day_eq (d := d' + 1) h36 hz (by omega)
      rw [ej]
      refine RA1.cgM (fun k h0 h2 h6 => c_closeN_o _ _ k h2 h6 _) (c_closeN_2 _ _ _) (fun f h0 h6 h7 h8 h9 => r_closeN_ne _ _ f h7 h8 h9 _) (r_closeN_2 _ _ _) ⟨d' + 1, h36, ?_, ?_⟩ ⟨?_, ?_⟩ (fun i hi => sim_closeN hj hn6 RA1.1.2.2.2.1 _ (Nat.le_refl _) i hi)
      · rw [c_closeN_0]; exact a1
      · rw [r_closeN_ne _ _ 0 (by decide) (by decide) (by decide)]; exact a2
      · rw [c_closeN_0]
      · rw [c_closeN_0]
    · rw [if_neg hz, if_neg hz]; exact RA1
  have b1 : (c_dayB (c_dayA sg)).1 0 0 5 = nI (d' + 1) := by rw [c_dayB_0]; exact a1
  have b2 : (r_dayB (sN sg 2) (r_dayA mu)).1 0 0 = nI (d' + 1) := by rw [r_dayB_ne _ _ 0 (by decide) (by decide) (by decide)]; exact a2
  have bN : sN (c_dayB (c_dayA sg)) 2 = sN sg 2 := N_eq ((c_dayB_2 _).trans rfl) 2
  show RA c (c_dayC (c_dayB (c_dayA sg))) (r_dayC (sN sg 2) (r_dayB (sN sg 2) (r_dayA mu)))
  unfold c_dayC r_dayC
  rw [b1, b2, bN]
  by_cases hz : nI (d' + 1) - nI (d' + 1) / 360 * 360 = 0
  · rw [if_pos hz, if_pos hz]
    refine RA2.cgM (fun k h0 h2 h6 => c_yearN_o _ k h2 _) (c_yearN_2 _ _) (fun f h0 h6 h7 h8 h9 => r_yearN_ne _ f h6 _) (r_yearN_2 _ _) ⟨d' + 1, h36, ?_, ?_⟩ ⟨?_, ?_⟩ (fun i hi => sim_yearN hn6 (fun x hx => RA2.1.2.2.2.1 x (Nat.lt_of_lt_of_eq hx bN.symm)) _ (Nat.le_refl _) i (Nat.lt_of_lt_of_eq hi bN))
    · rw [c_yearN_o _ 0 (by decide)]; exact b1
    · rw [r_yearN_ne _ 0 (by decide)]; exact b2
    · rw [c_yearN_o _ 0 (by decide)]
    · rw [c_yearN_o _ 0 (by decide)]
  · rw [if_neg hz, if_neg hz]; exact RA2
/-- days pass -/
theorem sim_pass {c : Nat} {sg : Sg} {mu : Rm} (R : RA c sg mu) (hc : c < 600) {d nd : Nat} (hd : sg.1 0 0 5 = nI d) (h36 : d + nd ≤ 3600) : ∀ k, k ≤ nd →
    RA c (c_passN sg k).2 (r_passN (sN sg 2) (sN sg 5) mu k).2 ∧ (r_passN (sN sg 2) (sN sg 5) mu k).1 = (c_passN sg k).1 ∧ ∀ q, q < k → c_daySafe (c_passN sg q).2 ∧ ∀ i, i < sN sg 5 → (r_plansN ((r_passN (sN sg 2) (sN sg 5) mu q).1, r_day0 (sN sg 2) (r_passN (sN sg 2) (sN sg 5) mu q).2) i).2.1 18 (nI i).toNatClampNeg = (r_plansN ((r_passN (sN sg 2) (sN sg 5) mu q).1, r_day0 (sN sg 2) (r_passN (sN sg 2) (sN sg 5) mu q).2) i).2.1 0 0 → r_payOK (r_plansN ((r_passN (sN sg 2) (sN sg 5) mu q).1, r_day0 (sN sg 2) (r_passN (sN sg 2) (sN sg 5) mu q).2) i).2 (nI i)
  | 0, _ => ⟨R, rfl, fun q hq => absurd hq (Nat.not_lt_zero q)⟩
  | k + 1, hk => by
    obtain ⟨h1, h2, h3⟩ := sim_pass R hc hd h36 k (by omega)
    have n2 : sN (c_passN sg k).2 2 = sN sg 2 := c_passN_2 sg 20 2 0 (by decide) (fun _ => by decide) (fun z => absurd z (by decide)) k
    have n5 : sN (c_passN sg k).2 5 = sN sg 5 := c_passN_2 sg 20 5 0 (by decide) (fun _ => by decide) (fun z => absurd z (by decide)) k
    have h0 := sim_day0 h1 (c_passN_day sg d hd k) (by omega)
    rw [n2] at h0
    have m5 : sN (c_day0 (c_passN sg k).2) 5 = sN sg 5 := (N_eq (c_day0_2 _) 5).trans n5
    obtain ⟨g1, g2, g3, g4⟩ := sim_coll (qc := (0, c_day0 (c_passN sg k).2)) (qr := ((r_passN (sN sg 2) (sN sg 5) mu k).1, r_day0 (sN sg 2) (r_passN (sN sg 2) (sN sg 5) mu k).2)) (b := (c_passN sg k).1) h0 hc (by show (r_passN (sN sg 2) (sN sg 5) mu k).1 = (c_passN sg k).1 + 0; rw [Int32.add_zero]; exact h2) (sN sg 5) (by show sN sg 5 ≤ sN (c_day0 (c_passN sg k).2) 5; rw [m5]; exact Nat.le_refl _)
    have e : c_day (c_passN sg k).2 = c_collN (0, c_day0 (c_passN sg k).2) (sN sg 5) := by
      unfold c_day
      rw [m5]
    refine ⟨?_, ?_, fun q hq => ?_⟩
    · show RA c (c_day (c_passN sg k).2).2 (r_plansN ((r_passN (sN sg 2) (sN sg 5) mu k).1, r_day0 (sN sg 2) (r_passN (sN sg 2) (sN sg 5) mu k).2) (sN sg 5)).2
      rw [e]; exact g1
    · show (r_plansN ((r_passN (sN sg 2) (sN sg 5) mu k).1, r_day0 (sN sg 2) (r_passN (sN sg 2) (sN sg 5) mu k).2) (sN sg 5)).1 = (c_passN sg k).1 + (c_day (c_passN sg k).2).1
      rw [e]; exact g2
    · by_cases eq : q = k
      · subst eq
        refine ⟨fun i hi => ?_, fun i hi => (g4 i hi).2⟩
        rw [m5] at hi
        exact (g4 i hi).1
      · exact h3 q (by omega)
