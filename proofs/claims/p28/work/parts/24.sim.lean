/-! the two states side by side -/
def RLd (sg : Sg) (mu : Rm) (j : Nat) : Prop := (∃ r : Nat, r ≤ 30 ∧ sg.1 1 j 1 = nI r ∧ mu.1 1 j = nI r) ∧ (∃ h : Nat, h < 2 ∧ sg.1 1 j 2 = nI (1 - h) ∧ mu.1 2 j = nI h) ∧ mu.1 3 j = sg.1 1 j 3
def RM (sg : Sg) (mu : Rm) (i : Nat) : Prop := mu.1 5 i = sg.1 2 i 0 ∧ mu.1 6 i = sg.1 2 i 4 ∧ mu.1 7 i = sg.1 2 i 3 ∧ mu.1 8 i = sg.1 2 i 2 ∧ ∀ m, m < 120 → mu.1 9 (120 * i + m) = sg.1 6 i m
def RP (sg : Sg) (mu : Rm) (p : Nat) : Prop := sg.2 3 p 1 < sN sg 2 ∧ mu.1 11 p = nI (sg.2 3 p 1) ∧ ∀ j, j < 5 → ∃ v : Nat, v ≤ 100000 ∧ sg.1 7 p j = nI v ∧ mu.1 12 (5 * p + j) = nI v
def RS (sg : Sg) (mu : Rm) (s : Nat) : Prop := ∃ a b c m k l h z : Nat, pkB a b c m k l h z ∧ mu.2 s = lN (pkN a b c m k l h z) ∧ sg.1 4 s 2 = nI m ∧ sg.1 4 s 3 = nI a ∧ sg.1 4 s 4 = nI b ∧ sg.1 4 s 5 = nI c ∧ sg.1 4 s 6 = nI a - nI b - nI c + (if h = 1 then nI b else 0) ∧ sg.1 4 s 7 = nI (1 - h) ∧ sg.1 4 s 8 = nI z ∧ sg.2 4 s 0 = k ∧ sg.2 4 s 1 = l ∧ k < sN sg 2
def RU (sg : Sg) (mu : Rm) (u : Nat) : Prop := sg.2 5 u 0 < 5 ∧ sg.2 5 u 2 < sN sg 3 ∧ mu.1 16 u = nI (sg.2 5 u 2) ∧ mu.1 17 u = nI (sg.2 5 u 0) ∧ mu.1 18 u = sg.1 5 u 6 ∧ mu.1 19 u = sg.1 5 u 4 ∧ mu.1 20 u = sg.1 5 u 5 ∧ (∃ h : Nat, h < 2 ∧ sg.1 5 u 1 = nI h ∧ mu.1 21 u = nI h) ∧ (∃ f : Nat, f < 2 ∧ sg.1 5 u 3 = nI f ∧ mu.1 22 u = nI f) ∧ ∃ n : Nat, sg.1 5 u 5 = nI n ∧ n ≤ 120 ∧ (sg.1 5 u 6 = -1 ∨ ∃ x t : Nat, sg.1 5 u 6 = nI x ∧ 30 * n + 1 ≤ x ∧ x ≤ 4000 ∧ sg.1 5 u 4 = nI t ∧ t ≤ 5)
/-- numbers of things, and the day -/
def RN (sg : Sg) (mu : Rm) : Prop := (mu.1 4 0 = nI (sN sg 2) ∧ sN sg 2 ≤ 6) ∧ (mu.1 10 0 = nI (sN sg 3) ∧ sN sg 3 ≤ 20) ∧ mu.1 13 0 = nI (sN sg 4) ∧ (mu.1 15 0 = nI (sN sg 5) ∧ sN sg 5 ≤ 40) ∧ ∃ d : Nat, d ≤ 3600 ∧ sg.1 0 0 5 = nI d ∧ mu.1 0 0 = nI d
def RT (sg : Sg) (mu : Rm) : Prop := mu.1 23 0 = sg.1 0 0 6 ∧ mu.1 24 0 = sg.1 0 0 7
def LW (sg : Sg) : Prop := ∀ L, L < 4 → lw sg L
/-- all but subscriptions -/
def RB (sg : Sg) (mu : Rm) : Prop := RN sg mu ∧ RT sg mu ∧ (∀ j, j < 5 → RLd sg mu j) ∧ (∀ i, i < sN sg 2 → RM sg mu i) ∧ (∀ p, p < sN sg 3 → RP sg mu p) ∧ (∀ s, s < sN sg 4 → RS sg mu s) ∧ LW sg
theorem RLd.cg {sg sg' : Sg} {mu mu' : Rm} {j : Nat} (h : RLd sg mu j) (e1 : sg'.1 1 j 1 = sg.1 1 j 1) (e2 : sg'.1 1 j 2 = sg.1 1 j 2) (e3 : sg'.1 1 j 3 = sg.1 1 j 3) (m1 : mu'.1 1 j = mu.1 1 j) (m2 : mu'.1 2 j = mu.1 2 j) (m3 : mu'.1 3 j = mu.1 3 j) : RLd sg' mu' j := by
  unfold RLd
  rw [e1, e2, e3, m1, m2, m3]
  exact h
theorem RS.cg {sg sg' : Sg} {mu mu' : Rm} {s : Nat} (h : RS sg mu s) (e1 : sg'.1 4 s = sg.1 4 s) (e2 : sg'.2 4 s 0 = sg.2 4 s 0) (e3 : sg'.2 4 s 1 = sg.2 4 s 1) (e4 : sN sg' 2 = sN sg 2) (m : mu'.2 s = mu.2 s) : RS sg' mu' s := by
  unfold RS
  rw [e1, e2, e3, e4, m]
  exact h
theorem RP.cg {sg sg' : Sg} {mu mu' : Rm} {p : Nat} (h : RP sg mu p) (e1 : sg'.1 7 p = sg.1 7 p) (e2 : sg'.2 3 p 1 = sg.2 3 p 1) (e4 : sN sg' 2 = sN sg 2) (m1 : mu'.1 11 = mu.1 11) (m2 : mu'.1 12 = mu.1 12) : RP sg' mu' p := by
  unfold RP
  rw [e1, e2, e4, m1, m2]
  exact h
theorem RM.cg {sg sg' : Sg} {mu mu' : Rm} {i : Nat} (h : RM sg mu i) (e2 : sg'.1 2 i = sg.1 2 i) (e6 : sg'.1 6 i = sg.1 6 i) (m5 : mu'.1 5 = mu.1 5) (m6 : mu'.1 6 = mu.1 6) (m7 : mu'.1 7 = mu.1 7) (m8 : mu'.1 8 = mu.1 8) (m9 : mu'.1 9 = mu.1 9) : RM sg' mu' i := by
  unfold RM
  rw [e2, e6, m5, m6, m7, m8, m9]
  exact h
theorem rs2 (mu : Rm) (p ld pr old : Int32) (f : Nat) (h : f ≠ 13) : (r_sells mu p ld pr old).2.1 f = (r_sell2 mu p ld pr old).1 f := if_neg h
/-- a row's answers -/
theorem pk_part {a b c m k l h z : Nat} (B : pkB a b c m k l h z) : r_pof (lN (pkN a b c m k l h z)) = nI a - nI b - nI c + (if h = 1 then nI b else 0) := by
  have e : (nI h = 1) ↔ h = 1 := nI_eq (b := 1) (by have := B.2.2.2.2.2.2.1; omega) (by decide)
  unfold r_pof
  rw [pk_price B, pk_tax B, pk_share B, pk_pass B]
  by_cases hh : h = 1
  · rw [if_pos hh, if_pos (e.mpr hh)]
  · rw [if_neg hh, if_neg (fun z => hh (e.mp z))]
theorem rc_7 (mu : Rm) (s : Int64) (g : Int32) {k : Nat} (hk : r_part s 54 3 = nI k) (hk6 : k < 6) (i : Nat) : (r_counts mu s g).1 7 i = if i = k then mu.1 7 k + g * r_pof s else mu.1 7 i := by
  show upd (mu.1 7) (r_part s 54 3).toNatClampNeg (mu.1 7 (r_part s 54 3).toNatClampNeg + g * r_pof s) i = _
  rw [hk, nI_clamp (by omega)]
  rfl
theorem rc_3 (mu : Rm) (s : Int64) (g : Int32) {l : Nat} (hl : r_part s 57 3 = nI l) (hl5 : l < 5) (j : Nat) : (r_counts mu s g).1 3 j = if j = l then mu.1 3 l + (if r_part s 60 1 = 1 then 0 else g * r_tax s) else mu.1 3 j := by
  show upd (mu.1 3) (r_part s 57 3).toNatClampNeg (mu.1 3 (r_part s 57 3).toNatClampNeg + (if r_part s 60 1 = 1 then 0 else g * r_tax s)) j = _
  rw [hl, nI_clamp (by omega)]
  rfl
theorem rc_o (mu : Rm) (s : Int64) (g : Int32) (f : Nat) (h3 : f ≠ 3) (h7 : f ≠ 7) (h23 : f ≠ 23) (h24 : f ≠ 24) : (r_counts mu s g).1 f = mu.1 f := (if_neg h3).trans ((if_neg h24).trans ((if_neg h23).trans (if_neg h7)))
theorem cb_0 (sg : Sg) (s : Nat) (g : Int32) : (c_book sg s g).1 0 0 6 = sg.1 0 0 6 + g * sg.1 4 s 5 ∧ (c_book sg s g).1 0 0 7 = sg.1 0 0 7 + g * sg.1 4 s 3 := by
  unfold c_book
  split <;> exact ⟨rfl, rfl⟩
theorem cb_2 (sg : Sg) (s : Nat) (g : Int32) (i f : Nat) : (c_book sg s g).1 2 i f = if i = sg.2 4 s 0 ∧ f = 3 then sg.1 2 (sg.2 4 s 0) 3 + g * sg.1 4 s 6 else sg.1 2 i f := by
  have e : ∀ (F : Nat → Nat → Nat → Int32) (v : Int32), up3 F 2 (sg.2 4 s 0) 3 v 2 i f = if i = sg.2 4 s 0 ∧ f = 3 then v else F 2 i f := fun F v => by
    unfold up3
    simp
  unfold c_book
  split
  · exact e _ _
  · exact e _ _
theorem cb_1 (sg : Sg) (s : Nat) (g : Int32) (j f : Nat) : (c_book sg s g).1 1 j f = if j = sg.2 4 s 1 ∧ f = 3 then sg.1 1 (sg.2 4 s 1) 3 + (if sg.1 4 s 7 = 0 then 0 else g * sg.1 4 s 4) else sg.1 1 j f := by
  unfold c_book
  split
  · show sg.1 1 j f = _
    split
    · rename_i h
      rw [h.1, h.2]
      exact (Int32.add_zero _).symm
    · rfl
  · show up3 _ 1 (sg.2 4 s 1) 3 _ 1 j f = _
    unfold up3
    simp
    rfl
theorem cb_o (sg : Sg) (s : Nat) (g : Int32) (k : Nat) (h0 : k ≠ 0) (h1 : k ≠ 1) (h2 : k ≠ 2) : (c_book sg s g).1 k = sg.1 k := by
  have e : ∀ (F : Nat → Nat → Nat → Int32) (k0 i j : Nat) (v : Int32), k ≠ k0 → up3 F k0 i j v k = F k := fun F k0 i j v h => by
    funext a b
    exact if_neg (fun z => h z.1)
  unfold c_book
  split
  · show up3 (up3 (up3 sg.1 0 0 7 _) 0 0 6 _) 2 _ 3 _ k = _
    rw [e _ 2 _ _ _ h2, e _ 0 _ _ _ h0, e _ 0 _ _ _ h0]
  · show up3 (up3 (up3 (up3 sg.1 0 0 7 _) 0 0 6 _) 2 _ 3 _) 1 _ 3 _ k = _
    rw [e _ 1 _ _ _ h1, e _ 2 _ _ _ h2, e _ 0 _ _ _ h0, e _ 0 _ _ _ h0]
theorem cb_1e {sg : Sg} {s j : Nat} (g : Int32) (l0 : sg.2 4 s 1 = j) : (c_book sg s g).1 1 j 3 = sg.1 1 j 3 + (if sg.1 4 s 7 = 0 then 0 else g * sg.1 4 s 4) := by
  subst l0
  exact (cb_1 sg s g _ 3).trans (if_pos ⟨rfl, rfl⟩)
theorem cb_1n {sg : Sg} {s j : Nat} (g : Int32) (l0 : ¬ j = sg.2 4 s 1) : (c_book sg s g).1 1 j 3 = sg.1 1 j 3 := (cb_1 sg s g j 3).trans (if_neg (fun y => l0 y.1))
theorem cb_2e {sg : Sg} {s j : Nat} (g : Int32) (l0 : sg.2 4 s 0 = j) : (c_book sg s g).1 2 j 3 = sg.1 2 j 3 + g * sg.1 4 s 6 := by
  subst l0
  exact (cb_2 sg s g _ 3).trans (if_pos ⟨rfl, rfl⟩)
theorem cb_2n {sg : Sg} {s j : Nat} (g : Int32) (l0 : ¬ j = sg.2 4 s 0) : (c_book sg s g).1 2 j 3 = sg.1 2 j 3 := (cb_2 sg s g j 3).trans (if_neg (fun y => l0 y.1))
section SB
variable {sg : Sg} {mu : Rm} {s a b c m k l h z : Nat}
theorem sim_book (B : pkB a b c m k l h z) {w : Int64} (hw : w = lN (pkN a b c m k l h z)) (e3 : sg.1 4 s 3 = nI a) (e4 : sg.1 4 s 4 = nI b) (e5 : sg.1 4 s 5 = nI c) (e6 : sg.1 4 s 6 = nI a - nI b - nI c + (if h = 1 then nI b else 0)) (e7 : sg.1 4 s 7 = nI (1 - h)) (k0 : sg.2 4 s 0 = k) (l0 : sg.2 4 s 1 = l) (g : Int32) (hT : RT sg mu) :
    RT (c_book sg s g) (r_counts mu w g) ∧ (∀ j, RLd sg mu j → RLd (c_book sg s g) (r_counts mu w g) j) ∧ (∀ i, RM sg mu i → RM (c_book sg s g) (r_counts mu w g) i) := by
  subst hw
  have hh : h < 2 := B.2.2.2.2.2.2.1
  have hk6 : k < 6 := B.2.2.2.2.1
  have hl5 : l < 5 := B.2.2.2.2.2.1
  have e60 : (r_part (lN (pkN a b c m k l h z)) 60 1 = 1) ↔ h = 1 := by
    rw [pk_pass B]
    exact nI_eq (b := 1) (by omega) (by decide)
  have e70 : (sg.1 4 s 7 = 0) ↔ h = 1 := by
    rw [e7]
    exact (nI_eq (b := 0) (by omega) (by decide)).trans (by omega)
  refine ⟨⟨?_, ?_⟩, fun j hj => ?_, fun i hi => ?_⟩
  · show mu.1 23 0 + g * r_share _ = _
    rw [(cb_0 sg s g).1, pk_share B, e5, hT.1]
  · show mu.1 24 0 + g * r_price _ = _
    rw [(cb_0 sg s g).2, pk_price B, e3, hT.2]
  · obtain ⟨h1, h2, h3⟩ := hj
    refine ⟨?_, ?_, ?_⟩
    · rw [cb_1, if_neg (fun z => absurd z.2 (by decide)), rc_o _ _ _ 1 (by decide) (by decide) (by decide) (by decide)]
      exact h1
    · rw [cb_1, if_neg (fun z => absurd z.2 (by decide)), rc_o _ _ _ 2 (by decide) (by decide) (by decide) (by decide)]
      exact h2
    · by_cases e : j = l
      · subst e
        rw [cb_1e g l0, (rc_3 _ _ _ (pk_land B) hl5 j).trans (if_pos rfl), pk_tax B, e4, h3]
        by_cases hz : h = 1
        · rw [if_pos (e60.mpr hz), if_pos (e70.mpr hz)]
        · rw [if_neg (fun y => hz (e60.mp y)), if_neg (fun y => hz (e70.mp y))]
      · rw [cb_1n g (fun y => e (y.trans l0)), (rc_3 _ _ _ (pk_land B) hl5 j).trans (if_neg e), h3]
  · obtain ⟨h5, h6, h7, h8, h9⟩ := hi
    refine ⟨?_, ?_, ?_, ?_, fun m' hm => ?_⟩
    · rw [cb_2, if_neg (fun z => absurd z.2 (by decide)), rc_o _ _ _ 5 (by decide) (by decide) (by decide) (by decide)]
      exact h5
    · rw [cb_2, if_neg (fun z => absurd z.2 (by decide)), rc_o _ _ _ 6 (by decide) (by decide) (by decide) (by decide)]
      exact h6
    · by_cases e : i = k
      · subst e
        rw [cb_2e g k0, (rc_7 _ _ _ (pk_maker B) hk6 i).trans (if_pos rfl), pk_part B, e6, h7]
      · rw [cb_2n g (fun y => e (y.trans k0)), (rc_7 _ _ _ (pk_maker B) hk6 i).trans (if_neg e), h7]
    · rw [cb_2, if_neg (fun z => absurd z.2 (by decide)), rc_o _ _ _ 8 (by decide) (by decide) (by decide) (by decide)]
      exact h8
    · rw [cb_o sg s g 6 (by decide) (by decide) (by decide), rc_o _ _ _ 9 (by decide) (by decide) (by decide) (by decide)]
      exact h9 m' hm
end SB
/-- the numbers of a sale, on both sides -/
theorem sale_num {sg : Sg} {mu : Rm} (R : RB sg mu) {p j v : Nat} {lt old : Int32} (hp : p < sN sg 3) (hj : j < 5) (hv : v ≤ 100000) (hlo : lt = 0 ↔ old = 0) :
    ∃ b c m h : Nat, pkB v b c m (sg.2 3 p 1) j h 0 ∧ c_tax sg j (nI v) = nI b ∧ r_tx mu (nI j) (nI v) = nI b ∧ (nI v - nI b) * c_pct sg p lt / 100 = nI c ∧ sg.1 0 0 5 / 30 = nI m ∧ sg.1 1 j 2 = nI (1 - h) ∧ (¬ 100 + mu.1 1 j = 0) ∧ r_row mu (nI p) (nI j) (nI v) old = lN (pkN v b c m (sg.2 3 p 1) j h 0) := by
  obtain ⟨⟨⟨n2, n2'⟩, ⟨n3, n3'⟩, n4, ⟨n5, n5'⟩, d, hd, hd1, hd2⟩, -, rl, rm, rp, -, -⟩ := R
  obtain ⟨k1, k2, -⟩ := rp p hp
  obtain ⟨⟨r, hr, r1, r2⟩, ⟨h, hh, h1, h2⟩, -⟩ := rl j hj
  obtain ⟨-, m6, -⟩ := rm _ k1
  have hvr : v * r ≤ 100000 * 30 := Nat.mul_le_mul hv hr
  have hvr2 : v * r ≤ v * 30 := Nat.mul_le_mul_left v hr
  have hb1 : v * r / (100 + r) ≤ v * r / 100 := Nat.div_le_div_left (by omega) (by decide)
  have hb : v * r / (100 + r) < 2 ^ 15 := by omega
  have hbv : v * r / (100 + r) ≤ v := by omega
  have tax : ∀ x : Int32, x = nI r → nI v * x / (100 + x) = nI (v * r / (100 + r)) := fun x hx => by
    subst hx
    show nI v * nI r / (nI 100 + nI r) = _
    rw [pk_mul, nI_add, pk_div (by omega) (by omega) (by omega)]
  have tC : c_tax sg j (nI v) = nI (v * r / (100 + r)) := tax _ r1
  have tR : r_tx mu (nI j) (nI v) = nI (v * r / (100 + r)) := by
    unfold r_tx
    rw [nI_clamp (by omega)]
    exact tax _ r2
  obtain ⟨q, hq, hq1⟩ : ∃ q : Nat, q ≤ 30 ∧ c_pct sg p lt = nI q := by
    unfold c_pct
    split
    · exact ⟨15, by decide, rfl⟩
    · exact ⟨30, by decide, rfl⟩
  have hc0 : (v - v * r / (100 + r)) * q ≤ 100000 * 30 := Nat.mul_le_mul (Nat.le_trans (Nat.sub_le _ _) hv) hq
  have sC_ : (nI v - nI (v * r / (100 + r))) * c_pct sg p lt / 100 = nI ((v - v * r / (100 + r)) * q / 100) := by
    rw [hq1, pk_sub hbv, pk_mul]
    exact pk_div (d := 100) (by omega) (by decide) (by decide)
  have pcts : (if ¬ old = 0 ∨ mu.1 6 (mu.1 11 (nI p).toNatClampNeg).toNatClampNeg < 1000000 then (15 : Int32) else 30) = c_pct sg p lt := by
    unfold c_pct
    rw [nI_clamp (by omega), k2, nI_clamp (by omega), m6]
    by_cases e : lt = 0
    · simp [e, hlo.mp e]
    · have e' : ¬ old = 0 := fun z => e (hlo.mpr z)
      simp [e, e']
  have sR : r_sh mu (nI p) (nI j) (nI v) old = nI ((v - v * r / (100 + r)) * q / 100) := by
    unfold r_sh
    rw [tR, pcts]
    exact sC_
  have hm : sg.1 0 0 5 / 30 = nI (d / 30) := by
    rw [hd1]
    exact pk_div (d := 30) (by omega) (by decide) (by decide)
  have hm2 : mu.1 0 0 / 30 = nI (d / 30) := by
    rw [hd2]
    exact pk_div (d := 30) (by omega) (by decide) (by decide)
  have B : pkB v (v * r / (100 + r)) ((v - v * r / (100 + r)) * q / 100) (d / 30) (sg.2 3 p 1) j h 0 := ⟨by omega, hb, by omega, by omega, by omega, hj, hh, by decide⟩
  refine ⟨_, _, _, h, B, tC, tR, sC_, hm, h1, ?_, ?_⟩
  · rw [r2]
    show ¬ nI 100 + nI r = 0
    rw [nI_add]
    exact nI_ne0 (by omega) (by omega)
  · unfold r_row
    rw [tR, sR, hm2, nI_clamp (show p < 2 ^ 31 by omega), k2, nI_clamp (show j < 2 ^ 31 by omega), h2]
    exact pk_row B
theorem c_sell_1 (sg : Sg) (p j : Nat) (v lt : Int32) (k : Nat) (h9 : k ≠ 9) : (c_sell sg p j v lt).1 k = (c_bkd sg p j v lt).1 k := by
  show up3 (c_bkd sg p j v lt).1 9 2 0 _ k = _
  funext a b
  exact if_neg (fun z => h9 z.1)
theorem c_net_4 (sg : Sg) (p j : Nat) (v lt : Int32) : (c_net sg p j v lt).1 4 (sN sg 4) = g_sale sg j (sg.1 0 0 5 / 30) v (c_pct sg p lt) := by
  show (c_new sg p j v lt).1 4 (sN sg 4) = _
  exact sRow_at (sg := sg)
theorem c_net_4n (sg : Sg) (p j : Nat) (v lt : Int32) {s : Nat} (h : s ≠ sN sg 4) : (c_net sg p j v lt).1 4 s = sg.1 4 s := by
  show (c_new sg p j v lt).1 4 s = _
  exact sRow_ne (sg := sg) h
theorem c_net_2 (sg : Sg) (p j : Nat) (v lt : Int32) (i f : Nat) : (c_net sg p j v lt).1 2 i f = if i = sg.2 3 p 1 ∧ f = 4 then sg.1 2 (sg.2 3 p 1) 4 + (v - c_tax sg j v) else sg.1 2 i f := by
  have e : (c_new sg p j v lt).1 4 (sN sg 4) 4 = c_tax sg j v := by
    have : (c_new sg p j v lt).1 4 (sN sg 4) = g_sale sg j (sg.1 0 0 5 / 30) v (c_pct sg p lt) := sRow_at (sg := sg)
    rw [this]
    rfl
  show up3 (c_new sg p j v lt).1 2 (sg.2 3 p 1) 4 ((c_new sg p j v lt).1 2 (sg.2 3 p 1) 4 + (v - (c_new sg p j v lt).1 4 (sN sg 4) 4)) 2 i f = _
  rw [e]
  unfold up3
  simp
  rfl
theorem c_sell_o (sg : Sg) (p j : Nat) (v lt : Int32) (k : Nat) (h0 : k ≠ 0) (h1 : k ≠ 1) (h2 : k ≠ 2) (h4 : k ≠ 4) (h9 : k ≠ 9) : (c_sell sg p j v lt).1 k = sg.1 k := by
  rw [c_sell_1 sg p j v lt k h9]
  refine (cb_o _ _ _ k h0 h1 h2).trans ?_
  show up3 (fun k' i' => if k' = 4 ∧ i' = sN sg 4 then _ else sg.1 k' i') 2 (sg.2 3 p 1) 4 _ k = _
  funext a b
  refine (if_neg (fun z => h2 z.1)).trans ?_
  show (if k = 4 ∧ a = sN sg 4 then _ else sg.1 k a) b = _
  rw [if_neg (fun z => h4 z.1)]
theorem c_sell_24 (sg : Sg) (p j : Nat) (v lt : Int32) (s f : Nat) : (c_sell sg p j v lt).2 4 s f = (c_new sg p j v lt).2 4 s f := by
  show (c_bkd sg p j v lt).2 4 s f = _
  rw [c_bkd_2]
theorem c_new_24 (sg : Sg) (p j : Nat) (v lt : Int32) {s : Nat} (h : s ≠ sN sg 4) (f : Nat) : (c_new sg p j v lt).2 4 s f = sg.2 4 s f := (n_sale_r _ _ _ _ _ _).trans (up3_i h (up3_i h rfl))
theorem c_sell_lw {sg : Sg} (h : LW sg) (hN : sN sg 4 < 5400) (p j : Nat) (v lt : Int32) : LW (c_sell sg p j v lt) := by
  intro L hL
  by_cases e : L = 2
  · subst e
    obtain ⟨w1, w2, w3, w4, w5⟩ := h 2 (by decide)
    have w2 : sF sg 2 = sN sg 4 := w2
    have w3 : sN sg 4 ≤ sC sg 2 := w3
    have a1 : sZ (c_sell sg p j v lt) 2 = sN sg 4 + 1 := (show sZ (c_sell sg p j v lt) 2 = sF (c_bkd sg p j v lt) 2 + 1 from rfl).trans (by rw [c_bkd_F, w2])
    have a2 : sF (c_sell sg p j v lt) 2 = sN sg 4 + 1 := (show sF (c_sell sg p j v lt) 2 = sF (c_bkd sg p j v lt) 2 + 1 from rfl).trans (by rw [c_bkd_F, w2])
    have a3 := c_sell_N sg p j v lt
    have a4 := c_sell_C sg p j v lt
    have hcap : sN sg 4 + 1 ≤ capN sg 2 ∧ 10 ≤ capN sg 2 ∧ capN sg 2 ≤ 60000 := by
      unfold capN
      split
      · omega
      · split <;> omega
    refine ⟨a1.trans a3.symm, a2.trans a3.symm, ?_, Or.inr ?_, ?_⟩
    · rw [show sN (c_sell sg p j v lt) (2 + 2) = sN sg 4 + 1 from a3, a4]; exact hcap.1
    · rw [a4]; exact hcap.2.1
    · rw [a4]; exact hcap.2.2
  · exact lw_of (c_sell_2 _ _ _ _ _ 20 (2 + L) 0 (by decide) (fun _ => by omega) (fun z => absurd z (by decide))) (c_sell_2 _ _ _ _ _ 21 L 0 (by decide) (fun z => absurd z (by decide)) (fun _ => e)) (c_sell_2 _ _ _ _ _ 22 L 0 (by decide) (fun z => absurd z (by decide)) (fun _ => e)) (c_sell_2 _ _ _ _ _ 23 L 0 (by decide) (fun z => absurd z (by decide)) (fun _ => e)) (h L hL)
theorem sim_sell {sg : Sg} {mu : Rm} (R : RB sg mu) {p j v : Nat} {lt old : Int32} (hp : p < sN sg 3) (hj : j < 5) (hv : v ≤ 100000) (hlo : lt = 0 ↔ old = 0) (hN : sN sg 4 < 5400) :
    r_sellOK mu (nI p) (nI j) (nI v) old ∧ RB (c_sell sg p j (nI v) lt) (r_sells mu (nI p) (nI j) (nI v) old).2 ∧ (r_sells mu (nI p) (nI j) (nI v) old).1 = nI (sN sg 4) := by
  obtain ⟨b, c, m, h, B, tC, tR, sC_, hm, h1, hd, rowE⟩ := sale_num R hp hj hv hlo
  obtain ⟨⟨⟨n2, n2'⟩, ⟨n3, n3'⟩, n4, ⟨n5, n5'⟩, d, hd0, hd1, hd2⟩, rt, rl, rm, rp, rs, lws⟩ := R
  obtain ⟨k1, k2, -⟩ := rp p hp
  have hk : (mu.1 11 (nI p).toNatClampNeg) = nI (sg.2 3 p 1) := by rw [nI_clamp (by omega)]; exact k2
  have hK : (mu.1 11 (nI p).toNatClampNeg).toNatClampNeg = sg.2 3 p 1 := by rw [hk, nI_clamp (by omega)]
  have h13 : (mu.1 13 0).toNatClampNeg = sN sg 4 := by rw [n4, nI_clamp (by omega)]
  -- the sale's fields
  have g3 : (c_net sg p j (nI v) lt).1 4 (sN sg 4) 3 = nI v := by rw [c_net_4]; rfl
  have g4 : (c_net sg p j (nI v) lt).1 4 (sN sg 4) 4 = nI b := by rw [c_net_4]; exact tC
  have g5 : (c_net sg p j (nI v) lt).1 4 (sN sg 4) 5 = nI c := by
    rw [c_net_4]
    show (nI v - c_tax sg j (nI v)) * c_pct sg p lt / 100 = _
    rw [tC]; exact sC_
  have hh : h < 2 := B.2.2.2.2.2.2.1
  have held : (sg.1 1 j 2 = 0) ↔ h = 1 := by
    rw [h1]
    exact (nI_eq (b := 0) (by omega) (by decide)).trans (by omega)
  have g6 : (c_net sg p j (nI v) lt).1 4 (sN sg 4) 6 = nI v - nI b - nI c + (if h = 1 then nI b else 0) := by
    rw [c_net_4]
    show nI v - c_tax sg j (nI v) - (nI v - c_tax sg j (nI v)) * c_pct sg p lt / 100 + (if sg.1 1 j 2 = 0 then c_tax sg j (nI v) else 0) = _
    rw [tC, sC_]
    by_cases hz : h = 1
    · rw [if_pos hz, if_pos (held.mpr hz)]
    · rw [if_neg hz, if_neg (fun y => hz (held.mp y))]
  have g7 : (c_net sg p j (nI v) lt).1 4 (sN sg 4) 7 = nI (1 - h) := by rw [c_net_4]; exact h1
  have g2 : (c_net sg p j (nI v) lt).1 4 (sN sg 4) 2 = nI m := by rw [c_net_4]; exact hm
  have g8 : (c_net sg p j (nI v) lt).1 4 (sN sg 4) 8 = nI 0 := by rw [c_net_4]; rfl
  -- behind the booking
  have bk : RT (c_bkd sg p j (nI v) lt) (r_sell2 mu (nI p) (nI j) (nI v) old) ∧ (∀ j', RLd (c_net sg p j (nI v) lt) (r_sell1 mu (nI p) (nI j) (nI v) old) j' → RLd (c_bkd sg p j (nI v) lt) (r_sell2 mu (nI p) (nI j) (nI v) old) j') ∧ (∀ i, RM (c_net sg p j (nI v) lt) (r_sell1 mu (nI p) (nI j) (nI v) old) i → RM (c_bkd sg p j (nI v) lt) (r_sell2 mu (nI p) (nI j) (nI v) old) i) := sim_book (sg := c_net sg p j (nI v) lt) (mu := r_sell1 mu (nI p) (nI j) (nI v) old) (s := sN sg 4) B rowE g3 g4 g5 g6 g7 (c_new_0 sg p j (nI v) lt) (c_new_1 sg p j (nI v) lt) 1 rt
  obtain ⟨bT, bL, bM⟩ := bk
  have mid : ∀ i, i < sN sg 2 → RM (c_net sg p j (nI v) lt) (r_sell1 mu (nI p) (nI j) (nI v) old) i := by
    intro i hi
    obtain ⟨m5, m6, m7, m8, m9⟩ := rm i hi
    refine ⟨?_, ?_, ?_, ?_, m9⟩
    · rw [c_net_2, if_neg (fun z => absurd z.2 (by decide))]; exact m5
    · rw [c_net_2]
      show upd (mu.1 6) (mu.1 11 (nI p).toNatClampNeg).toNatClampNeg (mu.1 6 (mu.1 11 (nI p).toNatClampNeg).toNatClampNeg + (nI v - r_tx mu (nI j) (nI v))) i = _
      rw [hK, tR, tC]
      by_cases e : i = sg.2 3 p 1
      · rw [e, pk_us, if_pos ⟨rfl, rfl⟩, ← e, m6]
      · rw [pk_un e, if_neg (fun z => e z.1), m6]
    · rw [c_net_2, if_neg (fun z => absurd z.2 (by decide))]; exact m7
    · rw [c_net_2, if_neg (fun z => absurd z.2 (by decide))]; exact m8
  have eN : sN (c_sell sg p j (nI v) lt) 2 = sN sg 2 := c_sell_2 _ _ _ _ _ 20 2 0 (by decide) (fun _ => by decide) (fun z => absurd z (by decide))
  have eN3 : sN (c_sell sg p j (nI v) lt) 3 = sN sg 3 := c_sell_2 _ _ _ _ _ 20 3 0 (by decide) (fun _ => by decide) (fun z => absurd z (by decide))
  have eN5 : sN (c_sell sg p j (nI v) lt) 5 = sN sg 5 := c_sell_2 _ _ _ _ _ 20 5 0 (by decide) (fun _ => by decide) (fun z => absurd z (by decide))
  have e13 : (r_sell2 mu (nI p) (nI j) (nI v) old).1 13 0 = nI (sN sg 4) := by
    unfold r_sell2
    rw [rc_o _ _ _ 13 (by decide) (by decide) (by decide) (by decide)]
    exact n4
  have eM : ∀ f, f ≠ 3 → f ≠ 6 → f ≠ 7 → f ≠ 13 → f ≠ 23 → f ≠ 24 → (r_sells mu (nI p) (nI j) (nI v) old).2.1 f = mu.1 f := fun f a1 a2 a3 a4 a5 a6 => r_sells_ne mu _ _ _ _ f a1 a2 a3 a4 a5 a6
  refine ⟨⟨vp_in_nI (by omega) (by decide), vp_in_nI hj (by decide), ?_, ?_, ?_, ?_, ?_⟩, ⟨⟨⟨?_, ?_⟩, ⟨?_, ?_⟩, ?_, ⟨?_, ?_⟩, d, hd0, ?_, ?_⟩, ⟨?_, ?_⟩, fun j' hj' => ?_, fun i hi => ?_, fun p' hp' => ?_, fun s hs => ?_, c_sell_lw lws hN p j (nI v) lt⟩, ?_⟩
  · rw [hk]; exact vp_in_nI (by omega) (by decide)
  · rw [nI_clamp (by omega)]; exact hd
  · rw [n4]; exact vp_in_nI hN (by decide)
  · rw [rowE, pk_maker B]; exact vp_in_nI (by omega) (by decide)
  · rw [rowE, pk_land B]; exact vp_in_nI hj (by decide)
  · rw [eN, eM 4 (by decide) (by decide) (by decide) (by decide) (by decide) (by decide)]; exact n2
  · rw [eN]; exact n2'
  · rw [eN3, eM 10 (by decide) (by decide) (by decide) (by decide) (by decide) (by decide)]; exact n3
  · rw [eN3]; exact n3'
  · rw [c_sell_N]
    show (r_sell2 mu (nI p) (nI j) (nI v) old).1 13 0 + 1 = _
    rw [e13, nI_1]
  · rw [eN5, eM 15 (by decide) (by decide) (by decide) (by decide) (by decide) (by decide)]; exact n5
  · rw [eN5]; exact n5'
  · rw [c_sell_day]; exact hd1
  · rw [eM 0 (by decide) (by decide) (by decide) (by decide) (by decide) (by decide)]; exact hd2
  · rw [c_sell_1 _ _ _ _ _ 0 (by decide), rs2 _ _ _ _ _ 23 (by decide)]; exact bT.1
  · rw [c_sell_1 _ _ _ _ _ 0 (by decide), rs2 _ _ _ _ _ 24 (by decide)]; exact bT.2
  · have := bL j' ((rl j' hj').cg rfl rfl rfl rfl rfl rfl)
    exact this.cg (by rw [c_sell_1 _ _ _ _ _ 1 (by decide)]) (by rw [c_sell_1 _ _ _ _ _ 1 (by decide)]) (by rw [c_sell_1 _ _ _ _ _ 1 (by decide)]) (by rw [rs2 _ _ _ _ _ 1 (by decide)]) (by rw [rs2 _ _ _ _ _ 2 (by decide)]) (by rw [rs2 _ _ _ _ _ 3 (by decide)])
  · rw [eN] at hi
    exact (bM i (mid i hi)).cg (by rw [c_sell_1 _ _ _ _ _ 2 (by decide)]) (by rw [c_sell_1 _ _ _ _ _ 6 (by decide)]) (rs2 _ _ _ _ _ 5 (by decide)) (rs2 _ _ _ _ _ 6 (by decide)) (rs2 _ _ _ _ _ 7 (by decide)) (rs2 _ _ _ _ _ 8 (by decide)) (rs2 _ _ _ _ _ 9 (by decide))
  · rw [eN3] at hp'
    exact (rp p' hp').cg (by rw [c_sell_o _ _ _ _ _ 7 (by decide) (by decide) (by decide) (by decide) (by decide)]) (c_sell_2 _ _ _ _ _ 3 p' 1 (by decide) (fun z => absurd z (by decide)) (fun z => absurd z (by decide))) eN (eM 11 (by decide) (by decide) (by decide) (by decide) (by decide) (by decide)) (eM 12 (by decide) (by decide) (by decide) (by decide) (by decide) (by decide))
  · rw [c_sell_N] at hs
    have r2 : (r_sells mu (nI p) (nI j) (nI v) old).2.2 s = vp_updL mu.2 (sN sg 4) (lN (pkN v b c m (sg.2 3 p 1) j h 0)) s := by
      show vp_updL mu.2 (mu.1 13 0).toNatClampNeg (r_row mu (nI p) (nI j) (nI v) old) s = _
      rw [h13, rowE]
    have c4 : (c_sell sg p j (nI v) lt).1 4 s = (c_net sg p j (nI v) lt).1 4 s := by
      rw [c_sell_1 _ _ _ _ _ 4 (by decide)]
      exact congrFun (cb_o _ _ _ 4 (by decide) (by decide) (by decide)) s
    by_cases e : s = sN sg 4
    · subst e
      refine ⟨v, b, c, m, sg.2 3 p 1, j, h, 0, B, r2.trans pk_uLs, ?_, ?_, ?_, ?_, ?_, ?_, ?_, ?_, ?_, ?_⟩
      · rw [c4]; exact g2
      · rw [c4]; exact g3
      · rw [c4]; exact g4
      · rw [c4]; exact g5
      · rw [c4]; exact g6
      · rw [c4]; exact g7
      · rw [c4]; exact g8
      · rw [c_sell_24]; exact c_new_0 sg p j (nI v) lt
      · rw [c_sell_24]; exact c_new_1 sg p j (nI v) lt
      · rw [eN]; exact k1
    · exact (rs s (by omega)).cg (c4.trans (c_net_4n sg p j (nI v) lt e)) ((c_sell_24 _ _ _ _ _ _ _).trans (c_new_24 sg p j (nI v) lt e 0)) ((c_sell_24 _ _ _ _ _ _ _).trans (c_new_24 sg p j (nI v) lt e 1)) eN (r2.trans (pk_uLn e))
  · show (r_sell2 mu (nI p) (nI j) (nI v) old).1 13 0 + 1 - 1 = _
    rw [e13, nI_1, nI_pred]
