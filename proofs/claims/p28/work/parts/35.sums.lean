/-! the sums: what was taken is with the shop, with the lands, or with makers -/
def zs (f : Nat → Int32) : Nat → Int32
  | 0 => 0
  | n + 1 => zs f n + f n
theorem zs_cg {f g : Nat → Int32} : ∀ n, (∀ i, i < n → f i = g i) → zs f n = zs g n
  | 0, _ => rfl
  | n + 1, h => by
    show zs f n + f n = zs g n + g n
    rw [zs_cg n (fun i hi => h i (by omega)), h n (Nat.lt_succ_self n)]
theorem i_add3 (a b x : Int32) : a + x + b = a + b + x := by rw [Int32.add_assoc, Int32.add_comm x b, ← Int32.add_assoc]
/-- one term changes by x -/
theorem zs_up {f g : Nat → Int32} {k : Nat} {x : Int32} (hk : g k = f k + x) (ho : ∀ i, i ≠ k → g i = f i) : ∀ n, k < n → zs g n = zs f n + x
  | 0, h => absurd h (Nat.not_lt_zero k)
  | n + 1, h => by
    show zs g n + g n = zs f n + f n + x
    by_cases e : k = n
    · subst e
      rw [zs_cg (f := g) (g := f) k (fun i hi => ho i (by omega)), hk, Int32.add_assoc]
    · rw [zs_up hk ho n (by omega), ho n (fun z => e z.symm), i_add3]
theorem zs_0 : ∀ n, zs (fun _ => 0) n = 0
  | 0 => rfl
  | n + 1 => by
    show zs (fun _ => 0) n + 0 = 0
    rw [zs_0 n]; rfl
/-- a maker's: what it carries, has in this month, was paid in d months -/
def mkb (sg : Sg) (d i : Nat) : Int32 := sg.1 2 i 2 + sg.1 2 i 3 + zs (sg.1 6 i) d
def SMd (sg : Sg) (d : Nat) : Int32 := sg.1 0 0 6 + zs (fun j => sg.1 1 j 3) 5 + zs (mkb sg d) (sN sg 2)
/-- what was taken is just what the shop has, what is held, and makers' -/
def SM (sg : Sg) (d : Nat) : Prop := SMd sg d = sg.1 0 0 7
theorem mkb_cg {sg sg' : Sg} {d i : Nat} (e2 : sg'.1 2 i 2 = sg.1 2 i 2) (e3 : sg'.1 2 i 3 = sg.1 2 i 3) (e6 : sg'.1 6 i = sg.1 6 i) : mkb sg' d i = mkb sg d i := by
  unfold mkb
  rw [e2, e3, e6]
theorem SM.cg {sg sg' : Sg} {d d' : Nat} (h : SM sg d) (h6 : sg'.1 0 0 6 = sg.1 0 0 6) (h7 : sg'.1 0 0 7 = sg.1 0 0 7) (h1 : ∀ j, j < 5 → sg'.1 1 j 3 = sg.1 1 j 3) (hN : sN sg' 2 = sN sg 2) (h2 : ∀ i, i < sN sg 2 → mkb sg' d' i = mkb sg d i) : SM sg' d' := by
  unfold SM SMd at *
  rw [h6, h7, hN, zs_cg (f := fun j => sg'.1 1 j 3) (g := fun j => sg.1 1 j 3) 5 h1, zs_cg (f := mkb sg' d') (g := mkb sg d) _ h2]
  exact h
theorem SM.k {sg sg' : Sg} {d : Nat} (h : SM sg d) (e0 : sg'.1 0 = sg.1 0) (e1 : sg'.1 1 = sg.1 1) (e2 : sg'.1 2 = sg.1 2) (e6 : sg'.1 6 = sg.1 6) (hN : sN sg' 2 = sN sg 2) : SM sg' d :=
  h.cg (by rw [e0]) (by rw [e0]) (fun j _ => by rw [e1]) hN (fun i _ => mkb_cg (by rw [e2]) (by rw [e2]) (by rw [e6]))
theorem ring_b (a b c g s p t : Int32) : a + g * s + (b + g * t) + (c + g * p) = a + b + c + g * (s + p + t) := by
  rw [Int32.mul_add, Int32.mul_add]
  ac_rfl
theorem ring_m (a b z x : Int32) : a + (b + x) + z = a + b + z + x := by ac_rfl
/-- a sale is booked, or taken back -/
theorem SM_book {sg : Sg} {d i : Nat} (g : Int32) (h : SM sg d) (eq : sg.1 4 i 3 = sg.1 4 i 5 + sg.1 4 i 6 + (if sg.1 4 i 7 = 0 then 0 else sg.1 4 i 4)) (hm : sg.2 4 i 0 < sN sg 2) (hl : sg.2 4 i 1 < 5) : SM (c_book sg i g) d := by
  have hN : sN (c_book sg i g) 2 = sN sg 2 := N_eq (c_book_2 _ _ _) 2
  have hL : zs (fun j => (c_book sg i g).1 1 j 3) 5 = zs (fun j => sg.1 1 j 3) 5 + (if sg.1 4 i 7 = 0 then 0 else g * sg.1 4 i 4) := zs_up (k := sg.2 4 i 1) (cb_1e g rfl) (fun j hj => cb_1n g hj) 5 hl
  have hM : zs (mkb (c_book sg i g) d) (sN sg 2) = zs (mkb sg d) (sN sg 2) + g * sg.1 4 i 6 := zs_up (k := sg.2 4 i 0) (by
    unfold mkb
    rw [(cb_2 sg i g (sg.2 4 i 0) 2).trans (if_neg (fun z => absurd z.2 (by decide))), cb_2e g rfl, cb_o sg i g 6 (by decide) (by decide) (by decide), ring_m]) (fun x hx => mkb_cg ((cb_2 sg i g x 2).trans (if_neg (fun z => absurd z.2 (by decide)))) (cb_2n g hx) (by rw [cb_o sg i g 6 (by decide) (by decide) (by decide)])) _ hm
  have hT : (if sg.1 4 i 7 = 0 then (0 : Int32) else g * sg.1 4 i 4) = g * (if sg.1 4 i 7 = 0 then 0 else sg.1 4 i 4) := by
    by_cases hh : sg.1 4 i 7 = 0
    · rw [if_pos hh, if_pos hh, Int32.mul_zero]
    · rw [if_neg hh, if_neg hh]
  unfold SM SMd at *
  rw [hN, hL, hM, (cb_0 sg i g).1, (cb_0 sg i g).2, ← h, eq, hT]
  exact ring_b _ _ _ _ _ _ _
theorem ring_s0 (v t s : Int32) : v = s + (v - t - s + t) + 0 := by
  rw [Int32.sub_eq_add_neg, Int32.sub_eq_add_neg, Int32.add_zero]
  have e1 := Int32.add_right_neg t
  have e2 := Int32.add_right_neg s
  calc v = v + 0 + 0 := by rw [Int32.add_zero, Int32.add_zero]
    _ = v + (t + -t) + (s + -s) := by rw [e1, e2]
    _ = s + (v + -t + -s + t) := by ac_rfl
theorem ring_s1 (v t s : Int32) : v = s + (v - t - s + 0) + t := by
  rw [Int32.sub_eq_add_neg, Int32.sub_eq_add_neg, Int32.add_zero]
  have e1 := Int32.add_right_neg t
  have e2 := Int32.add_right_neg s
  calc v = v + 0 + 0 := by rw [Int32.add_zero, Int32.add_zero]
    _ = v + (t + -t) + (s + -s) := by rw [e1, e2]
    _ = s + (v + -t + -s) + t := by ac_rfl
theorem ring_p (a b c : Int32) : a - b - c + b = a - c := by
  rw [Int32.sub_eq_add_neg, Int32.sub_eq_add_neg, Int32.sub_eq_add_neg]
  have e1 := Int32.add_right_neg b
  calc a + -b + -c + b = a + -c + (b + -b) := by ac_rfl
    _ = a + -c := by rw [e1, Int32.add_zero]
theorem ring_q (a b c : Int32) : a - b - c + 0 = a - c - b := by
  rw [Int32.sub_eq_add_neg, Int32.sub_eq_add_neg, Int32.sub_eq_add_neg, Int32.sub_eq_add_neg, Int32.add_zero]
  ac_rfl
theorem sN_add (S : Sg) (L k : Nat) : sN (c_add S L) k = sN S k := c_add_2o S L 20 k 0 (Or.inl (by decide))
theorem SM_add {S : Sg} {d : Nat} (L : Nat) (h : SM S d) : SM (c_add S L) d := h.k (c_add_1o S L 0 (by decide)) (c_add_1o S L 1 (by decide)) (c_add_1o S L 2 (by decide)) (c_add_1o S L 6 (by decide)) (sN_add S L 2)
/-- a sale is made -/
theorem SM_sell {sg : Sg} {d : Nat} (h : SM sg d) (p j : Nat) (v lt : Int32) (hm : sg.2 3 p 1 < sN sg 2) (hj : j < 5) : SM (c_sell sg p j v lt) d := by
  have hnet : SM (c_net sg p j v lt) d := h.cg rfl rfl (fun _ _ => rfl) rfl (fun i _ => mkb_cg ((c_net_2 sg p j v lt i 2).trans (if_neg (fun z => absurd z.2 (by decide)))) ((c_net_2 sg p j v lt i 3).trans (if_neg (fun z => absurd z.2 (by decide)))) rfl)
  have e4 := c_net_4 sg p j v lt
  refine SM_add 2 (SM_book 1 hnet (i := sN sg 4) ?_ ?_ ?_)
  · rw [e4]
    show v = (v - c_tax sg j v) * c_pct sg p lt / 100 + (v - c_tax sg j v - (v - c_tax sg j v) * c_pct sg p lt / 100 + (if sg.1 1 j 2 = 0 then c_tax sg j v else 0)) + (if sg.1 1 j 2 = 0 then 0 else c_tax sg j v)
    by_cases hh : sg.1 1 j 2 = 0
    · rw [if_pos hh, if_pos hh]; exact ring_s0 _ _ _
    · rw [if_neg hh, if_neg hh]; exact ring_s1 _ _ _
  · show (c_new sg p j v lt).2 4 (sN sg 4) 0 < sN sg 2
    rw [c_new_0]; exact hm
  · show (c_new sg p j v lt).2 4 (sN sg 4) 1 < 5
    rw [c_new_1]; exact hj
theorem settle_2 (sg : Sg) (i : Nat) (mo : Int32) (x f : Nat) : (c_settle sg i mo).1 2 x f = if x = i ∧ f = 3 then 0 else if x = i ∧ f = 2 then (if 0 < sg.1 2 i 2 + sg.1 2 i 3 ∧ sg.1 2 i 0 ≤ sg.1 2 i 2 + sg.1 2 i 3 then 0 else sg.1 2 i 2 + sg.1 2 i 3) else sg.1 2 x f :=
  (up3_2 _ _ _ _ _ _).trans (congrArg (fun z => if x = i ∧ f = 3 then 0 else z) (up3_2 _ _ _ _ _ _))
theorem settle_6 (sg : Sg) (i : Nat) (mo : Int32) (x f : Nat) : (c_settle sg i mo).1 6 x f = if x = i ∧ f = mo.toNatClampNeg then (if 0 < sg.1 2 i 2 + sg.1 2 i 3 ∧ sg.1 2 i 0 ≤ sg.1 2 i 2 + sg.1 2 i 3 then sg.1 2 i 2 + sg.1 2 i 3 else 0) else sg.1 6 x f := up3_6 sg.1 i mo.toNatClampNeg _ x f
theorem ring_c0 (z b : Int32) : 0 + 0 + (z + b) = b + z := by
  rw [Int32.add_zero, Int32.zero_add, Int32.add_comm]
theorem ring_c1 (z b : Int32) : b + 0 + (z + 0) = b + z := by
  rw [Int32.add_zero, Int32.add_zero]
/-- a maker's month is closed -/
theorem mkb_settle {sg : Sg} {i d : Nat} (hd : d < 120) : mkb (c_settle sg i (nI d)) (d + 1) i = mkb sg d i := by
  have hc : (nI d).toNatClampNeg = d := nI_clamp (by omega)
  have hz : zs ((c_settle sg i (nI d)).1 6 i) d = zs (sg.1 6 i) d := zs_cg d (fun m hm => by
    rw [settle_6, if_neg]
    rw [hc]
    omega)
  unfold mkb
  show _ + _ + (zs ((c_settle sg i (nI d)).1 6 i) d + (c_settle sg i (nI d)).1 6 i d) = _
  have e2 : (c_settle sg i (nI d)).1 2 i 2 = if 0 < sg.1 2 i 2 + sg.1 2 i 3 ∧ sg.1 2 i 0 ≤ sg.1 2 i 2 + sg.1 2 i 3 then 0 else sg.1 2 i 2 + sg.1 2 i 3 := (settle_2 sg i (nI d) i 2).trans ((if_neg (fun z => absurd z.2 (by decide))).trans (if_pos ⟨rfl, rfl⟩))
  have e3 : (c_settle sg i (nI d)).1 2 i 3 = 0 := (settle_2 sg i (nI d) i 3).trans (if_pos ⟨rfl, rfl⟩)
  have e6 : (c_settle sg i (nI d)).1 6 i d = if 0 < sg.1 2 i 2 + sg.1 2 i 3 ∧ sg.1 2 i 0 ≤ sg.1 2 i 2 + sg.1 2 i 3 then sg.1 2 i 2 + sg.1 2 i 3 else 0 := (settle_6 sg i (nI d) i d).trans (if_pos ⟨rfl, hc.symm⟩)
  rw [hz, e2, e3, e6]
  by_cases hh : 0 < sg.1 2 i 2 + sg.1 2 i 3 ∧ sg.1 2 i 0 ≤ sg.1 2 i 2 + sg.1 2 i 3
  · rw [if_pos hh, if_pos hh]; exact ring_c0 _ _
  · rw [if_neg hh, if_neg hh]; exact ring_c1 _ _
theorem settle_ne {sg : Sg} {i x : Nat} {mo : Int32} (h : x ≠ i) : (c_settle sg i mo).1 2 x = sg.1 2 x ∧ (c_settle sg i mo).1 6 x = sg.1 6 x := by
  constructor
  · funext f
    rw [settle_2, if_neg (fun z => h z.1), if_neg (fun z => h z.1)]
  · funext f
    rw [settle_6, if_neg (fun z => h z.1)]
theorem mkb_row {sg sg' : Sg} {d i : Nat} (e : sg'.1 2 i = sg.1 2 i ∧ sg'.1 6 i = sg.1 6 i) : mkb sg' d i = mkb sg d i := mkb_cg (by rw [e.1]) (by rw [e.1]) e.2
theorem mkb_closeN {sg : Sg} {d : Nat} (hd : d < 120) : ∀ i, (∀ x, x < i → mkb (c_closeN sg (nI d) i) (d + 1) x = mkb sg d x) ∧ (∀ x, i ≤ x → (c_closeN sg (nI d) i).1 2 x = sg.1 2 x ∧ (c_closeN sg (nI d) i).1 6 x = sg.1 6 x)
  | 0 => ⟨fun x hx => absurd hx (Nat.not_lt_zero x), fun x _ => ⟨rfl, rfl⟩⟩
  | i + 1 => by
    obtain ⟨h1, h2⟩ := mkb_closeN (sg := sg) hd i
    refine ⟨fun x hx => ?_, fun x hx => ?_⟩
    · show mkb (c_settle (c_closeN sg (nI d) i) i (nI d)) (d + 1) x = _
      by_cases e : x = i
      · subst e
        rw [mkb_settle hd]
        exact mkb_row (h2 x (Nat.le_refl _))
      · rw [mkb_row (settle_ne e)]
        exact h1 x (by omega)
    · obtain ⟨a, b⟩ := settle_ne (sg := c_closeN sg (nI d) i) (mo := nI d) (show x ≠ i by omega)
      obtain ⟨a2, b2⟩ := h2 x (by omega)
      exact ⟨a.trans a2, b.trans b2⟩
theorem SM_close {sg : Sg} {d : Nat} (hd : d < 120) (h : SM sg d) : SM (c_closeN sg (nI d) (sN sg 2)) (d + 1) :=
  h.cg (by rw [c_closeN_o sg _ 0 (by decide) (by decide)]) (by rw [c_closeN_o sg _ 0 (by decide) (by decide)]) (fun j _ => by rw [c_closeN_o sg _ 1 (by decide) (by decide)]) (N_eq (c_closeN_2 _ _ _) 2) (fun i hi => (mkb_closeN hd (sN sg 2)).1 i hi)
theorem yearN_2 (sg : Sg) (x f : Nat) (hf : f ≠ 4) : ∀ i, (c_yearN sg i).1 2 x f = sg.1 2 x f
  | 0 => rfl
  | i + 1 => (up3_2 _ _ _ _ _ _).trans ((if_neg (fun z => hf z.2)).trans (yearN_2 sg x f hf i))
theorem SM_year {sg : Sg} {d : Nat} (h : SM sg d) (n : Nat) : SM (c_yearN sg n) d :=
  h.cg (by rw [c_yearN_o sg 0 (by decide)]) (by rw [c_yearN_o sg 0 (by decide)]) (fun j _ => by rw [c_yearN_o sg 1 (by decide)]) (N_eq (c_yearN_2 _ _) 2) (fun i _ => mkb_cg (yearN_2 sg i 2 (by decide) n) (yearN_2 sg i 3 (by decide) n) (by rw [c_yearN_o sg 6 (by decide)]))
/-- a day begins -/
theorem SM_day0 {sg : Sg} {dd : Nat} (hd : sg.1 0 0 5 = nI dd) (h36 : dd + 1 ≤ 3600) (h : SM sg (dd / 30)) : SM (c_day0 sg) ((dd + 1) / 30) := by
  have a1 : (c_dayA sg).1 0 0 5 = nI (dd + 1) := by
    show sg.1 0 0 5 + 1 = _
    rw [hd, nI_1]
  have hA : SM (c_dayA sg) (dd / 30) := h.cg rfl rfl (fun _ _ => rfl) rfl (fun _ _ => rfl)
  have hB : SM (c_dayB (c_dayA sg)) ((dd + 1) / 30) := by
    unfold c_dayB
    rw [a1]
    have er := r_rem (d := dd + 1) (c := 30) (x := nI (dd + 1)) rfl (by omega) (by decide) (by decide)
    have ed := r_div (d := dd + 1) (c := 30) (x := nI (dd + 1)) rfl (by omega) (by decide) (by decide)
    rw [show (30 : Int32) = nI 30 from rfl, er, ed]
    by_cases hz : (dd + 1) % 30 = 0
    · have e2 : (dd + 1) / 30 = dd / 30 + 1 := by omega
      rw [hz, if_pos (show nI 0 = 0 from rfl), e2, nI_pred]
      exact SM_close (by omega) hA
    · rw [if_neg (nI_ne0 (by omega) (by omega)), show (dd + 1) / 30 = dd / 30 by omega]
      exact hA
  show SM (c_dayC (c_dayB (c_dayA sg))) _
  unfold c_dayC
  split
  · exact SM_year hB _
  · exact hB
theorem SM_try {sg : Sg} {d u : Nat} (h : SM sg d) (ok : sg.1 5 u 3 = 0 → c_payOK sg u) : SM (c_try sg u) d := by
  unfold c_try
  by_cases hf : sg.1 5 u 3 = 0
  · rw [if_pos hf]
    obtain ⟨hp, hl, hm, -⟩ := ok hf
    exact SM_sell (h.k (cc_o sg u _ 0 (by decide)) (cc_o sg u _ 1 (by decide)) (cc_o sg u _ 2 (by decide)) (cc_o sg u _ 6 (by decide)) rfl) _ _ _ _ hm hl
  · rw [if_neg hf]
    exact h.k (cf_o sg u 0 (by decide)) (cf_o sg u 1 (by decide)) (cf_o sg u 2 (by decide)) (cf_o sg u 6 (by decide)) rfl
theorem SM_coll {q : Int32 × Sg} {d : Nat} (h : SM q.2 d) : ∀ n, (∀ i, i < n → (c_collN q i).2.1 5 i 6 = (c_collN q i).2.1 0 0 5 → (c_collN q i).2.1 5 i 3 = 0 → c_payOK (c_collN q i).2 i) → SM (c_collN q n).2 d
  | 0, _ => h
  | n + 1, ok => by
    have h1 := SM_coll h n (fun i hi => ok i (by omega))
    show SM (c_step (c_collN q n) n).2 d
    unfold c_step
    by_cases hd : (c_collN q n).2.1 5 n 6 = (c_collN q n).2.1 0 0 5
    · rw [if_pos hd]
      exact SM_try h1 (ok n (Nat.lt_succ_self n) hd)
    · rw [if_neg hd]; exact h1
/-- days pass -/
theorem SM_pass {sg : Sg} {dd : Nat} (hd : sg.1 0 0 5 = nI dd) (h : SM sg (dd / 30)) : ∀ k, dd + k ≤ 3600 → (∀ q, q < k → c_daySafe (c_passN sg q).2) → SM (c_passN sg k).2 ((dd + k) / 30)
  | 0, _, _ => h
  | k + 1, hk, ok => by
    have h1 := SM_pass hd h k (by omega) (fun q hq => ok q (by omega))
    have h2 := SM_day0 (c_passN_day sg dd hd k) (by omega) h1
    exact SM_coll (q := (0, c_day0 (c_passN sg k).2)) h2 _ (fun i hi => ok k (Nat.lt_succ_self k) i hi)
/-- how many payments -/
theorem coll_cnt (q : Int32 × Sg) : ∀ n, ∃ m : Nat, (c_collN q n).1 = q.1 + nI m ∧ sN (c_collN q n).2 4 = sN q.2 4 + m
  | 0 => ⟨0, (Int32.add_zero _).symm, rfl⟩
  | n + 1 => by
    obtain ⟨m, h1, h2⟩ := coll_cnt q n
    show ∃ m : Nat, (c_step (c_collN q n) n).1 = q.1 + nI m ∧ sN (c_step (c_collN q n) n).2 4 = sN q.2 4 + m
    unfold c_step
    by_cases hd : (c_collN q n).2.1 5 n 6 = (c_collN q n).2.1 0 0 5
    · rw [if_pos hd]
      by_cases hf : (c_collN q n).2.1 5 n 3 = 0
      · have t1 : c_tp (c_collN q n).2 n = 1 := if_pos hf
        have t2 : c_try (c_collN q n).2 n = c_pay (c_collN q n).2 n := if_pos hf
        have t4 : sN (c_pay (c_collN q n).2 n) 4 = sN (c_collN q n).2 4 + 1 := c_sell_N _ _ _ _ _
        refine ⟨m + 1, ?_, ?_⟩
        · show (if c_tp (c_collN q n).2 n = 0 then (c_collN q n).1 else (c_collN q n).1 + 1) = _
          rw [t1, if_neg (by decide), h1, Int32.add_assoc, nI_1]
        · show sN (c_try (c_collN q n).2 n) 4 = _
          rw [t2, t4, h2]; omega
      · have t1 : c_tp (c_collN q n).2 n = 0 := if_neg hf
        have t2 : c_try (c_collN q n).2 n = c_fail (c_collN q n).2 n := if_neg hf
        refine ⟨m, ?_, ?_⟩
        · show (if c_tp (c_collN q n).2 n = 0 then (c_collN q n).1 else (c_collN q n).1 + 1) = _
          rw [t1, if_pos rfl, h1]
        · show sN (c_try (c_collN q n).2 n) 4 = _
          rw [t2]; exact h2
    · rw [if_neg hd]
      exact ⟨m, h1, h2⟩
theorem pass_cnt (sg : Sg) : ∀ k, ∃ m : Nat, (c_passN sg k).1 = nI m ∧ sN (c_passN sg k).2 4 = sN sg 4 + m
  | 0 => ⟨0, rfl, rfl⟩
  | k + 1 => by
    obtain ⟨m, h1, h2⟩ := pass_cnt sg k
    obtain ⟨m', g1, g2⟩ := coll_cnt (0, c_day0 (c_passN sg k).2) (sN (c_day0 (c_passN sg k).2) 5)
    refine ⟨m + m', ?_, ?_⟩
    · show (c_passN sg k).1 + (c_day (c_passN sg k).2).1 = _
      rw [h1, show (c_day (c_passN sg k).2).1 = 0 + nI m' from g1, Int32.zero_add, nI_add]
    · show sN (c_day (c_passN sg k).2).2 4 = _
      rw [show sN (c_day (c_passN sg k).2).2 4 = sN (c_day0 (c_passN sg k).2) 4 + m' from g2, show sN (c_day0 (c_passN sg k).2) 4 = sN (c_passN sg k).2 4 from N_eq (c_day0_2 _) 4, h2]
      omega
/-- a new maker has nothing -/
theorem SM_maker {sg : Sg} {d : Nat} (t : Int32) (h : SM sg d) : SM (c_add (n_maker sg t) 0) d := by
  refine SM_add 0 ?_
  have hN : sN (n_maker sg t) 2 = sN sg 2 + 1 := rfl
  have e2 : (n_maker sg t).1 2 (sN sg 2) = gMaker t := by
    show (if 2 = 6 ∧ sN sg 2 = sN sg 2 then (fun _ => 0) else if 2 = 2 ∧ sN sg 2 = sN sg 2 then gMaker t else sg.1 2 (sN sg 2)) = gMaker t
    rw [if_neg (fun z => absurd z.1 (by decide)), if_pos ⟨rfl, rfl⟩]
  have e6 : (n_maker sg t).1 6 (sN sg 2) = (fun _ => 0) := if_pos ⟨rfl, rfl⟩
  have o : ∀ k i, i < sN sg 2 → (n_maker sg t).1 k i = sg.1 k i := fun k i hi => (sRow_ne (show i ≠ sN sg 2 by omega)).trans (sRow_ne (show i ≠ sN sg 2 by omega))
  have hz : mkb (n_maker sg t) d (sN sg 2) = 0 := by
    unfold mkb
    rw [e2, e6, zs_0]
    rfl
  have hold : zs (mkb (n_maker sg t) d) (sN sg 2) = zs (mkb sg d) (sN sg 2) := zs_cg _ (fun i hi => mkb_row ⟨o 2 i hi, o 6 i hi⟩)
  have e0 : (n_maker sg t).1 0 = sg.1 0 := by
    funext i
    show (if 0 = 6 ∧ i = sN sg 2 then (fun _ => 0) else if 0 = 2 ∧ i = sN sg 2 then gMaker t else sg.1 0 i) = _
    rw [if_neg (fun z => absurd z.1 (by decide)), if_neg (fun z => absurd z.1 (by decide))]
  have e1 : (n_maker sg t).1 1 = sg.1 1 := by
    funext i
    show (if 1 = 6 ∧ i = sN sg 2 then (fun _ => 0) else if 1 = 2 ∧ i = sN sg 2 then gMaker t else sg.1 1 i) = _
    rw [if_neg (fun z => absurd z.1 (by decide)), if_neg (fun z => absurd z.1 (by decide))]
  unfold SM SMd at *
  rw [hN, e0, e1]
  show _ + _ + (zs (mkb (n_maker sg t) d) (sN sg 2) + mkb (n_maker sg t) d (sN sg 2)) = _
  rw [hold, hz, Int32.add_zero]
  exact h
theorem SM_prod {sg : Sg} {d : Nat} (i : Nat) (v : Int32) (h : SM sg d) : SM (c_add (n_prod sg i v) 1) d := by
  have o : ∀ k, k ≠ 7 → (n_prod sg i v).1 k = sg.1 k := fun k hk => by
    funext x
    exact if_neg (fun z => hk z.1)
  exact SM_add 1 (h.k (o 0 (by decide)) (o 1 (by decide)) (o 2 (by decide)) (o 6 (by decide)) rfl)
theorem SM_sub {sg : Sg} {d : Nat} (j p : Nat) (g : Nat → Int32) (h : SM sg d) : SM (c_add (n_sub sg j p g) 3) d := by
  have o : ∀ k, k ≠ 5 → (n_sub sg j p g).1 k = sg.1 k := fun k hk => by
    funext x
    exact if_neg (fun z => hk z.1)
  exact SM_add 3 (h.k (o 0 (by decide)) (o 1 (by decide)) (o 2 (by decide)) (o 6 (by decide)) rfl)
theorem SM_0 : SM sg0 0 := by
  unfold SM SMd
  rfl
