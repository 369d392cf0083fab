/-! the two states side by side -/
def RLd (sg : Sg) (mu : Rm) (j : Nat) : Prop := (∃ r : Nat, r ≤ 30 ∧ sg.1 1 j 1 = nI r ∧ mu.1 1 j = nI r) ∧ (∃ h : Nat, h < 2 ∧ sg.1 1 j 2 = nI (1 - h) ∧ mu.1 2 j = nI h) ∧ mu.1 3 j = sg.1 1 j 3
def RM (sg : Sg) (mu : Rm) (i : Nat) : Prop := mu.1 5 i = sg.1 2 i 0 ∧ mu.1 6 i = sg.1 2 i 4 ∧ mu.1 7 i = sg.1 2 i 3 ∧ mu.1 8 i = sg.1 2 i 2 ∧ ∀ m, m < 120 → mu.1 9 (120 * i + m) = sg.1 6 i m
def RP (sg : Sg) (mu : Rm) (p : Nat) : Prop := sg.2 3 p 1 < sN sg 2 ∧ mu.1 11 p = nI (sg.2 3 p 1) ∧ ∀ j, j < 5 → ∃ v : Nat, v ≤ 100000 ∧ sg.1 7 p j = nI v ∧ mu.1 12 (5 * p + j) = nI v
def RS (sg : Sg) (mu : Rm) (s : Nat) : Prop := ∃ a b c m k l h z : Nat, pkB a b c m k l h z ∧ mu.2 s = lN (pkN a b c m k l h z) ∧ sg.1 4 s 2 = nI m ∧ sg.1 4 s 3 = nI a ∧ sg.1 4 s 4 = nI b ∧ sg.1 4 s 5 = nI c ∧ sg.1 4 s 6 = nI a - nI b - nI c + (if h = 1 then nI b else 0) ∧ sg.1 4 s 7 = nI (1 - h) ∧ sg.1 4 s 8 = nI z ∧ sg.2 4 s 0 = k ∧ sg.2 4 s 1 = l ∧ k < sN sg 2
def RU (sg : Sg) (mu : Rm) (u : Nat) : Prop := sg.2 5 u 0 < 5 ∧ sg.2 5 u 2 < sN sg 3 ∧ mu.1 16 u = nI (sg.2 5 u 2) ∧ mu.1 17 u = nI (sg.2 5 u 0) ∧ mu.1 18 u = sg.1 5 u 6 ∧ mu.1 19 u = sg.1 5 u 4 ∧ mu.1 20 u = sg.1 5 u 5 ∧ (∃ h : Nat, h < 2 ∧ sg.1 5 u 1 = nI h ∧ mu.1 21 u = nI h) ∧ (∃ f : Nat, f < 2 ∧ sg.1 5 u 3 = nI f ∧ mu.1 22 u = nI f) ∧ ∃ n : Nat, sg.1 5 u 5 = nI n ∧ n ≤ 120 ∧ (sg.1 5 u 6 = -1 ∨ ∃ x t : Nat, sg.1 5 u 6 = nI x ∧ 30 * n + 1 ≤ x ∧ x ≤ 4000 ∧ sg.1 5 u 4 = nI t ∧ t ≤ 5)
/-- numbers of things, and the day -/
def RN (sg : Sg) (mu : Rm) : Prop := (mu.1 4 0 = nI (sN sg 2) ∧ sN sg 2 ≤ 6) ∧ (mu.1 10 0 = nI (sN sg 3) ∧ sN sg 3 ≤ 20) ∧ mu.1 13 0 = nI (sN sg 4) ∧ (mu.1 15 0 = nI (sN sg 5) ∧ sN sg 5 ≤ 40) ∧ ∃ d : Nat, d ≤ 3600 ∧ sg.1 0 0 5 = nI d ∧ mu.1 0 0 = nI d
def RT (sg : Sg) (mu : Rm) : Prop := mu.1 23 0 = sg.1 0 0 6 ∧ mu.1 24 0 = sg.1 0 0 7
def LW (sg : Sg) : Prop := ∀ L, L < 4 → lw sg L
/-- all but subscriptions -/
def RB (sg : Sg) (mu : Rm) : Prop := RN sg mu ∧ RT sg mu ∧ (∀ j, j < 5 → RLd sg mu j) ∧ (∀ i, i < sN sg 2 → RM sg mu i) ∧ (∀ p, p < sN sg 3 → RP sg mu p) ∧ (∀ s, s < sN sg 4 → RS sg mu s) ∧ LW sg
theorem RLd.cg {sg sg' : Sg} {mu mu' : Rm} {j : Nat} (h : RLd sg mu j) (e1 : sg'.1 1 j 1 = sg.1 1 j 1) (e2 : sg'.1 1 j 2 = sg.1 1 j 2) (e3 : sg'.1 1 j 3 = sg.1 1 j 3) (m1 : mu'.1 1 j = mu.1 1 j) (m2 : mu'.1 2 j = mu.1 2 j) (m3 : mu'.1 3 j = mu.1 3 j) : RLd sg' mu' j := by
  unfold RLd
  rw [e1, e2, e3, m1, m2, m3]
  exact h
theorem RS.cg {sg sg' : Sg} {mu mu' : Rm} {s : Nat} (h : RS sg mu s) (e1 : sg'.1 4 s = sg.1 4 s) (e2 : sg'.2 4 s 0 = sg.2 4 s 0) (e3 : sg'.2 4 s 1 = sg.2 4 s 1) (e4 : sN sg' 2 = sN sg 2) (m : mu'.2 s = mu.2 s) : RS sg' mu' s := by
  unfold RS
  rw [e1, e2, e3, e4, m]
  exact h
theorem RP.cg {sg sg' : Sg} {mu mu' : Rm} {p : Nat} (h : RP sg mu p) (e1 : sg'.1 7 p = sg.1 7 p) (e2 : sg'.2 3 p 1 = sg.2 3 p 1) (e4 : sN sg' 2 = sN sg 2) (m1 : mu'.1 11 = mu.1 11) (m2 : mu'.1 12 = mu.1 12) : RP sg' mu' p := by
  unfold RP
  rw [e1, e2, e4, m1, m2]
  exact h
/-- a row's answers -/
theorem pk_part {a b c m k l h z : Nat} (B : pkB a b c m k l h z) : r_pof (lN (pkN a b c m k l h z)) = nI a - nI b - nI c + (if h = 1 then nI b else 0) := by
  have e : (nI h = 1) ↔ h = 1 := nI_eq (b := 1) (by have := B.2.2.2.2.2.2.1; omega) (by decide)
  unfold r_pof
  rw [pk_price B, pk_tax B, pk_share B, pk_pass B]
  by_cases hh : h = 1
  · rw [if_pos hh, if_pos (e.mpr hh)]
  · rw [if_neg hh, if_neg (fun z => hh (e.mp z))]
theorem rc_7 (mu : Rm) (s : Int64) (g : Int32) {k : Nat} (hk : r_part s 54 3 = nI k) (hk6 : k < 6) (i : Nat) : (r_counts mu s g).1 7 i = if i = k then mu.1 7 k + g * r_pof s else mu.1 7 i := by
  show upd (mu.1 7) (r_part s 54 3).toNatClampNeg (mu.1 7 (r_part s 54 3).toNatClampNeg + g * r_pof s) i = _
  rw [hk, nI_clamp (by omega)]
  rfl
theorem rc_3 (mu : Rm) (s : Int64) (g : Int32) {l : Nat} (hl : r_part s 57 3 = nI l) (hl5 : l < 5) (j : Nat) : (r_counts mu s g).1 3 j = if j = l then mu.1 3 l + (if r_part s 60 1 = 1 then 0 else g * r_tax s) else mu.1 3 j := by
  show upd (mu.1 3) (r_part s 57 3).toNatClampNeg (mu.1 3 (r_part s 57 3).toNatClampNeg + (if r_part s 60 1 = 1 then 0 else g * r_tax s)) j = _
  rw [hl, nI_clamp (by omega)]
  rfl
theorem rc_o (mu : Rm) (s : Int64) (g : Int32) (f : Nat) (h3 : f ≠ 3) (h7 : f ≠ 7) (h23 : f ≠ 23) (h24 : f ≠ 24) : (r_counts mu s g).1 f = mu.1 f := (if_neg h3).trans ((if_neg h24).trans ((if_neg h23).trans (if_neg h7)))
theorem cb_0 (sg : Sg) (s : Nat) (g : Int32) : (c_book sg s g).1 0 0 6 = sg.1 0 0 6 + g * sg.1 4 s 5 ∧ (c_book sg s g).1 0 0 7 = sg.1 0 0 7 + g * sg.1 4 s 3 := by
  unfold c_book
  split <;> exact ⟨rfl, rfl⟩
theorem cb_2 (sg : Sg) (s : Nat) (g : Int32) (i f : Nat) : (c_book sg s g).1 2 i f = if i = sg.2 4 s 0 ∧ f = 3 then sg.1 2 (sg.2 4 s 0) 3 + g * sg.1 4 s 6 else sg.1 2 i f := by
  have e : ∀ (F : Nat → Nat → Nat → Int32) (v : Int32), up3 F 2 (sg.2 4 s 0) 3 v 2 i f = if i = sg.2 4 s 0 ∧ f = 3 then v else F 2 i f := fun F v => by
    unfold up3
    simp
  unfold c_book
  split
  · exact e _ _
  · exact e _ _
theorem cb_1 (sg : Sg) (s : Nat) (g : Int32) (j f : Nat) : (c_book sg s g).1 1 j f = if j = sg.2 4 s 1 ∧ f = 3 then sg.1 1 (sg.2 4 s 1) 3 + (if sg.1 4 s 7 = 0 then 0 else g * sg.1 4 s 4) else sg.1 1 j f := by
  unfold c_book
  split
  · show sg.1 1 j f = _
    split
    · rename_i h
      rw [h.1, h.2]
      exact (Int32.add_zero _).symm
    · rfl
  · show up3 _ 1 (sg.2 4 s 1) 3 _ 1 j f = _
    unfold up3
    simp
    rfl
theorem cb_o (sg : Sg) (s : Nat) (g : Int32) (k : Nat) (h0 : k ≠ 0) (h1 : k ≠ 1) (h2 : k ≠ 2) : (c_book sg s g).1 k = sg.1 k := by
  have e : ∀ (F : Nat → Nat → Nat → Int32) (k0 i j : Nat) (v : Int32), k ≠ k0 → up3 F k0 i j v k = F k := fun F k0 i j v h => by
    funext a b
    exact if_neg (fun z => h z.1)
  unfold c_book
  split
  · show up3 (up3 (up3 sg.1 0 0 7 _) 0 0 6 _) 2 _ 3 _ k = _
    rw [e _ 2 _ _ _ h2, e _ 0 _ _ _ h0, e _ 0 _ _ _ h0]
  · show up3 (up3 (up3 (up3 sg.1 0 0 7 _) 0 0 6 _) 2 _ 3 _) 1 _ 3 _ k = _
    rw [e _ 1 _ _ _ h1, e _ 2 _ _ _ h2, e _ 0 _ _ _ h0, e _ 0 _ _ _ h0]
theorem cb_1e {sg : Sg} {s j : Nat} (g : Int32) (l0 : sg.2 4 s 1 = j) : (c_book sg s g).1 1 j 3 = sg.1 1 j 3 + (if sg.1 4 s 7 = 0 then 0 else g * sg.1 4 s 4) := by
  subst l0
  exact (cb_1 sg s g _ 3).trans (if_pos ⟨rfl, rfl⟩)
theorem cb_1n {sg : Sg} {s j : Nat} (g : Int32) (l0 : ¬ j = sg.2 4 s 1) : (c_book sg s g).1 1 j 3 = sg.1 1 j 3 := (cb_1 sg s g j 3).trans (if_neg (fun y => l0 y.1))
theorem cb_2e {sg : Sg} {s j : Nat} (g : Int32) (l0 : sg.2 4 s 0 = j) : (c_book sg s g).1 2 j 3 = sg.1 2 j 3 + g * sg.1 4 s 6 := by
  subst l0
  exact (cb_2 sg s g _ 3).trans (if_pos ⟨rfl, rfl⟩)
theorem cb_2n {sg : Sg} {s j : Nat} (g : Int32) (l0 : ¬ j = sg.2 4 s 0) : (c_book sg s g).1 2 j 3 = sg.1 2 j 3 := (cb_2 sg s g j 3).trans (if_neg (fun y => l0 y.1))
section SB
variable {sg : Sg} {mu : Rm} {s a b c m k l h z : Nat}
theorem sim_book (B : pkB a b c m k l h z) {w : Int64} (hw : w = lN (pkN a b c m k l h z)) (e3 : sg.1 4 s 3 = nI a) (e4 : sg.1 4 s 4 = nI b) (e5 : sg.1 4 s 5 = nI c) (e6 : sg.1 4 s 6 = nI a - nI b - nI c + (if h = 1 then nI b else 0)) (e7 : sg.1 4 s 7 = nI (1 - h)) (k0 : sg.2 4 s 0 = k) (l0 : sg.2 4 s 1 = l) (g : Int32) (hT : RT sg mu) :
    RT (c_book sg s g) (r_counts mu w g) ∧ (∀ j, RLd sg mu j → RLd (c_book sg s g) (r_counts mu w g) j) ∧ (∀ i, RM sg mu i → RM (c_book sg s g) (r_counts mu w g) i) := by
  subst hw
  have hh : h < 2 := B.2.2.2.2.2.2.1
  have hk6 : k < 6 := B.2.2.2.2.1
  have hl5 : l < 5 := B.2.2.2.2.2.1
  have e60 : (r_part (lN (pkN a b c m k l h z)) 60 1 = 1) ↔ h = 1 := by
    rw [pk_pass B]
    exact nI_eq (b := 1) (by omega) (by decide)
  have e70 : (sg.1 4 s 7 = 0) ↔ h = 1 := by
    rw [e7]
    exact (nI_eq (b := 0) (by omega) (by decide)).trans (by omega)
  refine ⟨⟨?_, ?_⟩, fun j hj => ?_, fun i hi => ?_⟩
  · show mu.1 23 0 + g * r_share _ = _
    rw [(cb_0 sg s g).1, pk_share B, e5, hT.1]
  · show mu.1 24 0 + g * r_price _ = _
    rw [(cb_0 sg s g).2, pk_price B, e3, hT.2]
  · obtain ⟨h1, h2, h3⟩ := hj
    refine ⟨?_, ?_, ?_⟩
    · rw [cb_1, if_neg (fun z => absurd z.2 (by decide)), rc_o _ _ _ 1 (by decide) (by decide) (by decide) (by decide)]
      exact h1
    · rw [cb_1, if_neg (fun z => absurd z.2 (by decide)), rc_o _ _ _ 2 (by decide) (by decide) (by decide) (by decide)]
      exact h2
    · by_cases e : j = l
      · subst e
        rw [cb_1e g l0, (rc_3 _ _ _ (pk_land B) hl5 j).trans (if_pos rfl), pk_tax B, e4, h3]
        by_cases hz : h = 1
        · rw [if_pos (e60.mpr hz), if_pos (e70.mpr hz)]
        · rw [if_neg (fun y => hz (e60.mp y)), if_neg (fun y => hz (e70.mp y))]
      · rw [cb_1n g (fun y => e (y.trans l0)), (rc_3 _ _ _ (pk_land B) hl5 j).trans (if_neg e), h3]
  · obtain ⟨h5, h6, h7, h8, h9⟩ := hi
    refine ⟨?_, ?_, ?_, ?_, fun m' hm => ?_⟩
    · rw [cb_2, if_neg (fun z => absurd z.2 (by decide)), rc_o _ _ _ 5 (by decide) (by decide) (by decide) (by decide)]
      exact h5
    · rw [cb_2, if_neg (fun z => absurd z.2 (by decide)), rc_o _ _ _ 6 (by decide) (by decide) (by decide) (by decide)]
      exact h6
    · by_cases e : i = k
      · subst e
        rw [cb_2e g k0, (rc_7 _ _ _ (pk_maker B) hk6 i).trans (if_pos rfl), pk_part B, e6, h7]
      · rw [cb_2n g (fun y => e (y.trans k0)), (rc_7 _ _ _ (pk_maker B) hk6 i).trans (if_neg e), h7]
    · rw [cb_2, if_neg (fun z => absurd z.2 (by decide)), rc_o _ _ _ 8 (by decide) (by decide) (by decide) (by decide)]
      exact h8
    · rw [cb_o sg s g 6 (by decide) (by decide) (by decide), rc_o _ _ _ 9 (by decide) (by decide) (by decide) (by decide)]
      exact h9 m' hm
end SB
/-- the numbers of a sale, on both sides -/
theorem sale_num {sg : Sg} {mu : Rm} (R : RB sg mu) {p j v : Nat} {lt old : Int32} (hp : p < sN sg 3) (hj : j < 5) (hv : v ≤ 100000) (hlo : lt = 0 ↔ old = 0) :
    ∃ b c m h : Nat, pkB v b c m (sg.2 3 p 1) j h 0 ∧ c_tax sg j (nI v) = nI b ∧ r_tx mu (nI j) (nI v) = nI b ∧ (nI v - nI b) * c_pct sg p lt / 100 = nI c ∧ sg.1 0 0 5 / 30 = nI m ∧ sg.1 1 j 2 = nI (1 - h) ∧ (¬ 100 + mu.1 1 j = 0) ∧ r_row mu (nI p) (nI j) (nI v) old = lN (pkN v b c m (sg.2 3 p 1) j h 0) := by
  obtain ⟨⟨⟨n2, n2'⟩, ⟨n3, n3'⟩, n4, ⟨n5, n5'⟩, d, hd, hd1, hd2⟩, -, rl, rm, rp, -, -⟩ := R
  obtain ⟨k1, k2, -⟩ := rp p hp
  obtain ⟨⟨r, hr, r1, r2⟩, ⟨h, hh, h1, h2⟩, -⟩ := rl j hj
  obtain ⟨-, m6, -⟩ := rm _ k1
  have hvr : v * r ≤ 100000 * 30 := Nat.mul_le_mul hv hr
  have hvr2 : v * r ≤ v * 30 := Nat.mul_le_mul_left v hr
  have hb1 : v * r / (100 + r) ≤ v * r / 100 := Nat.div_le_div_left (by omega) (by decide)
  have hb : v * r / (100 + r) < 2 ^ 15 := by omega
  have hbv : v * r / (100 + r) ≤ v := by omega
  have tax : ∀ x : Int32, x = nI r → nI v * x / (100 + x) = nI (v * r / (100 + r)) := fun x hx => by
    subst hx
    show nI v * nI r / (nI 100 + nI r) = _
    rw [pk_mul, nI_add, pk_div (by omega) (by omega) (by omega)]
  have tC : c_tax sg j (nI v) = nI (v * r / (100 + r)) := tax _ r1
  have tR : r_tx mu (nI j) (nI v) = nI (v * r / (100 + r)) := by
    unfold r_tx
    rw [nI_clamp (by omega)]
    exact tax _ r2
  obtain ⟨q, hq, hq1⟩ : ∃ q : Nat, q ≤ 30 ∧ c_pct sg p lt = nI q := by
    unfold c_pct
    split
    · exact ⟨15, by decide, rfl⟩
    · exact ⟨30, by decide, rfl⟩
  have hc0 : (v - v * r / (100 + r)) * q ≤ 100000 * 30 := Nat.mul_le_mul (Nat.le_trans (Nat.sub_le _ _) hv) hq
  have sC_ : (nI v - nI (v * r / (100 + r))) * c_pct sg p lt / 100 = nI ((v - v * r / (100 + r)) * q / 100) := by
    rw [hq1, pk_sub hbv, pk_mul]
    exact pk_div (d := 100) (by omega) (by decide) (by decide)
  have pcts : (if ¬ old = 0 ∨ mu.1 6 (mu.1 11 (nI p).toNatClampNeg).toNatClampNeg < 1000000 then (15 : Int32) else 30) = c_pct sg p lt := by
    unfold c_pct
    rw [nI_clamp (by omega), k2, nI_clamp (by omega), m6]
    by_cases e : lt = 0
    · simp [e, hlo.mp e]
    · have e' : ¬ old = 0 := fun z => e (hlo.mpr z)
      simp [e, e']
  have sR : r_sh mu (nI p) (nI j) (nI v) old = nI ((v - v * r / (100 + r)) * q / 100) := by
    unfold r_sh
    rw [tR, pcts]
    exact sC_
  have hm : sg.1 0 0 5 / 30 = nI (d / 30) := by
    rw [hd1]
    exact pk_div (d := 30) (by omega) (by decide) (by decide)
  have hm2 : mu.1 0 0 / 30 = nI (d / 30) := by
    rw [hd2]
    exact pk_div (d := 30) (by omega) (by decide) (by decide)
  have B : pkB v (v * r / (100 + r)) ((v - v * r / (100 + r)) * q / 100) (d / 30) (sg.2 3 p 1) j h 0 := ⟨by omega, hb, by omega, by omega, by omega, hj, hh, by decide⟩
  refine ⟨_, _, _, h, B, tC, tR, sC_, hm, h1, ?_, ?_⟩
  · rw [r2]
    show ¬ nI 100 + nI r = 0
    rw [nI_add]
    exact nI_ne0 (by omega) (by omega)
  · unfold r_row
    rw [tR, sR, hm2, nI_clamp (show p < 2 ^ 31 by omega), k2, nI_clamp (show j < 2 ^ 31 by omega), h2]
    exact pk_row B
