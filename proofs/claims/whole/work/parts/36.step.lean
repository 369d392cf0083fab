/-! each call, both sides: the same exception, the same answer, the same relation behind it -/
def RI (c : Nat) (sg : Sg) (mu : Rm) : Prop := RA c sg mu ∧ RZ (sN sg 2) mu
theorem phC_ex : ∃ f : Sg → Nat, ∀ sg, f sg = phc sg + (sC sg 0 + sC sg 1 + sC sg 3) := ⟨_, fun _ => rfl⟩
theorem phS_ex : ∃ f : Sg → Nat, ∀ sg, f sg = phs sg + 4 * (sC sg 0 + sC sg 1 + sC sg 3) := ⟨_, fun _ => rfl⟩
/-- cells and slots of all that grows -/
noncomputable def phC : Sg → Nat := Classical.choose phC_ex
noncomputable def phS : Sg → Nat := Classical.choose phS_ex
theorem phC_eq (sg : Sg) : phC sg = phc sg + (sC sg 0 + sC sg 1 + sC sg 3) := Classical.choose_spec phC_ex sg
theorem phS_eq (sg : Sg) : phS sg = phs sg + 4 * (sC sg 0 + sC sg 1 + sC sg 3) := Classical.choose_spec phS_ex sg
theorem phC_at (sg : Sg) : phC sg = (sN sg 4 + sC sg 2) + (sC sg 0 + sC sg 1 + sC sg 3) := (phC_eq sg).trans (by rw [phc_eq])
theorem phS_at (sg : Sg) : phS sg = (9 * sN sg 4 + 4 * sC sg 2) + 4 * (sC sg 0 + sC sg 1 + sC sg 3) := (phS_eq sg).trans (by rw [phs_eq])
theorem ph_gen {sg sg' : Sg} {a b c d e a' b' c' d' e' mc ms : Nat} (h4 : sN sg 4 = a) (h2 : sC sg 2 = b) (h0 : sC sg 0 = c) (h1 : sC sg 1 = d) (h3 : sC sg 3 = e) (g4 : sN sg' 4 = a') (g2 : sC sg' 2 = b') (g0 : sC sg' 0 = c') (g1 : sC sg' 1 = d') (g3 : sC sg' 3 = e')
    (hc : (a + b) + (c + d + e) + mc ≤ (a' + b') + (c' + d' + e') + 20) (hs : (9 * a + 4 * b) + 4 * (c + d + e) + ms ≤ (9 * a' + 4 * b') + 4 * (c' + d' + e') + 200) : phC sg + mc ≤ phC sg' + 20 ∧ phS sg + ms ≤ phS sg' + 200 := by
  rw [phC_at, phC_at, phS_at, phS_at, h4, h2, h0, h1, h3, g4, g2, g0, g1, g3]
  exact ⟨hc, hs⟩
theorem ph_same {sg sg' : Sg} {mc ms : Nat} (e : sg'.2 = sg.2) (hc : mc ≤ 20) (hs : ms ≤ 200) : phC sg + mc ≤ phC sg' + 20 ∧ phS sg + ms ≤ phS sg' + 200 :=
  ph_gen rfl rfl rfl rfl rfl (N_eq e 4) (congrFun (congrFun (congrFun e 22) 2) 0) (congrFun (congrFun (congrFun e 22) 0) 0) (congrFun (congrFun (congrFun e 22) 1) 0) (congrFun (congrFun (congrFun e 22) 3) 0) (Nat.add_le_add_left hc _) (Nat.add_le_add_left hs _)
theorem nI_pp (n : Nat) : nI n + 1 - 1 = nI n := by
  rw [nI_1]
  exact nI_pred n
theorem ix_cs (x : Int32) {n : Nat} {z : Int32} (hz : z = nI n) (hn : n < 2 ^ 31) : (∃ i : Nat, i < n ∧ x = nI i ∧ 0 ≤ x ∧ x ≤ z - 1) ∨ (¬ (0 ≤ x ∧ x < nI n) ∧ ¬ (0 ≤ x ∧ x ≤ z - 1)) := by
  subst hz
  rcases pk_ix x hn with h | h | ⟨j, hj, rfl⟩
  · exact Or.inr ⟨fun a => absurd a.1 (Int32.not_le.mpr h), fun a => absurd a.1 (Int32.not_le.mpr h)⟩
  · refine Or.inr ⟨fun a => absurd a.2 (Int32.not_lt.mpr h), fun a => ?_⟩
    cases n with
    | zero => exact absurd (Int32.le_trans a.1 a.2) (by decide)
    | succ n =>
      rw [nI_pred] at a
      exact absurd ((nI_leI hn (by omega)).mp (Int32.le_trans h a.2)) (by omega)
  · refine Or.inl ⟨j, hj, rfl, nI_pos' (by omega), ?_⟩
    obtain ⟨q, rfl⟩ : ∃ q, n = q + 1 := ⟨n - 1, by omega⟩
    rw [nI_pred]
    exact nI_le (by omega) (by omega)
theorem rg_cs (x : Int32) {B : Int32} {N : Nat} (hB : B.toInt = N) (h : 0 ≤ x ∧ x ≤ B) : ∃ j : Nat, j ≤ N ∧ x = nI j := nI_of2 hB (Int32.not_lt.mpr h.1) h.2
section RIF
variable {c : Nat} {sg : Sg} {mu : Rm}
theorem RI.lw (R : RI c sg mu) (L : Nat) (hL : L < 4) : lw sg L := R.1.1.2.2.2.2.2.2 L hL
theorem RI.n2 (R : RI c sg mu) : mu.1 4 0 = nI (sN sg 2) ∧ sN sg 2 ≤ 6 := R.1.1.1.1
theorem RI.n3 (R : RI c sg mu) : mu.1 10 0 = nI (sN sg 3) ∧ sN sg 3 ≤ 20 := R.1.1.1.2.1
theorem RI.n4 (R : RI c sg mu) : mu.1 13 0 = nI (sN sg 4) := R.1.1.1.2.2.1
theorem RI.n5 (R : RI c sg mu) : mu.1 15 0 = nI (sN sg 5) ∧ sN sg 5 ≤ 40 := R.1.1.1.2.2.2.1
theorem RI.dd (R : RI c sg mu) : ∃ d : Nat, d ≤ 3600 ∧ sg.1 0 0 5 = nI d ∧ mu.1 0 0 = nI d := R.1.1.1.2.2.2.2
theorem RI.lt (R : RI c sg mu) (hc : c < 600) : sN sg 4 < 5400 := R.1.lt hc
theorem RI.thr (R : RI c sg mu) (x : Int32) : RI (c + 1) sg (rI mu 25 0 x) := ⟨(R.1.thr x).suc, R.2⟩
theorem RI.thr2 (R : RI c sg mu) (y x : Int32) : RI (c + 1) sg (rI (rI mu 25 0 y) 25 0 x) := ⟨((R.1.thr y).thr x).suc, R.2⟩
theorem RI.r3 (R : RI c sg mu) : ∀ i, i < sN sg 3 → sg.2 3 i 1 < sN sg 2 := fun i hi => (R.1.1.2.2.2.2.1 i hi).1
theorem RI.r4 (R : RI c sg mu) : ∀ i, i < sN sg 4 → sg.2 4 i 0 < sN sg 2 := fun i hi => by
  obtain ⟨a, b, c', m, k, l, h, z, B, w, s2, s3, s4, s5, s6, s7, s8, k0, l0, kl⟩ := R.1.1.2.2.2.2.2.1 i hi
  rw [k0]; exact kl
theorem RI.r5 (R : RI c sg mu) : ∀ i, i < sN sg 5 → sg.2 5 i 2 < sN sg 3 := fun i hi => (R.1.2.1 i hi).2.1
theorem not_lt6 {n N : Nat} {B : Int32} (hB : B = nI N) (hn : N ≤ n) (h : n < 2 ^ 31) : ¬ nI n < B := by rw [hB]; exact nI_nlt hn h
end RIF
section STS
variable {l : Launch} {D : va_G} {Y : Nat → Nat} {A : Nat → Prop} {sg : Sg} {al : Nat → Nat → Nat} {o ao : Nat} {ar : Nat → Nat} {mu : Rm} {c : Nat}
def ST (l : Launch) (D : va_G) (Y : Nat → Nat) (A : Nat → Prop) (sg : Sg) (al : Nat → Nat → Nat) (o ao : Nat) (ar : Nat → Nat) (mu : Rm) (c : Nat) (yL : MethodName) (wL : Cond) (AsL : List Value) (yR : MethodName) (wR : Cond) (AsR : List Value) : Prop := ∃ (k r b : Int32) (sg' : Sg) (mu' : Rm) (mc ms FR LR : Nat), RI (c + 1) sg' mu' ∧ (phC sg + mc ≤ phC sg' + 20 ∧ phS sg + ms ≤ phS sg' + 200) ∧ mu'.1 25 0 = k ∧ (k = 0 → b = r) ∧
  CT l yL wL 14 340 D Y A AsL (LWo D Y A sg al o ar mu ao lT) (fun _ : Nat → Nat → Nat => some (.int k)) (fun al' : Nat → Nat → Nat => fun H => al' 0 0 = al 0 0 ∧ LWo D Y A sg' al' o ar mu ao (lP k r) H) noX mc ms ∧ FR ≤ 13 ∧ LR ≤ 310 ∧
  ∀ (al' : Nat → Nat → Nat) (P : Int64 → Prop), CT l yR wR FR LR D Y A AsR (LWo D Y A sg' al' o ar mu ao P) (fun _ : Unit => some (.int b)) (fun _ : Unit => LWo D Y A sg' al' o ar mu' ao P) noX 0 0
/-- of a call that answers nothing -/
def STv (l : Launch) (D : va_G) (Y : Nat → Nat) (A : Nat → Prop) (sg : Sg) (al : Nat → Nat → Nat) (o ao : Nat) (ar : Nat → Nat) (mu : Rm) (c : Nat) (yL : MethodName) (wL : Cond) (AsL : List Value) (yR : MethodName) (wR : Cond) (AsR : List Value) : Prop := ∃ (k : Int32) (sg' : Sg) (mu' : Rm) (mc ms FR LR : Nat), RI (c + 1) sg' mu' ∧ (phC sg + mc ≤ phC sg' + 20 ∧ phS sg + ms ≤ phS sg' + 200) ∧ mu'.1 25 0 = k ∧
  CT l yL wL 14 340 D Y A AsL (LWo D Y A sg al o ar mu ao lT) (fun _ : Nat → Nat → Nat => some (.int k)) (fun al' : Nat → Nat → Nat => fun H => al' 0 0 = al 0 0 ∧ LWo D Y A sg' al' o ar mu ao lT H) noX mc ms ∧ FR ≤ 13 ∧ LR ≤ 310 ∧
  ∀ (al' : Nat → Nat → Nat) (P : Int64 → Prop), CT l yR wR FR LR D Y A AsR (LWo D Y A sg' al' o ar mu ao P) (fun _ : Unit => none) (fun _ : Unit => LWo D Y A sg' al' o ar mu' ao P) noX 0 0
variable {yL yR : MethodName} {wL wR : Cond} {AsL AsR : List Value} {k r b b0 : Int32} {sg' : Sg} {mu' : Rm} {mc ms FR LR : Nat}
theorem ST.bad (R' : RI (c + 1) sg mu') (h25 : mu'.1 25 0 = k) (hk : ¬ k = 0) (hW : CT l yL wL 14 340 D Y A AsL (LWo D Y A sg al o ar mu ao lT) (fun _ : Nat → Nat → Nat => some (.int k)) (fun al' : Nat → Nat → Nat => fun H => al' 0 0 = al 0 0 ∧ LWo D Y A sg al' o ar mu ao (lP k 0) H) noX 1 6) (hF : FR ≤ 13) (hL : LR ≤ 310)
    (hR : ∀ B : Nat → Prop, CT l yR wR FR LR D Y B AsR (WR D Y B o ar mu) (fun _ : Unit => some (.int b0)) (fun _ : Unit => WR D Y B o ar mu') noX 0 0) : ST l D Y A sg al o ao ar mu c yL wL AsL yR wR AsR :=
  ⟨k, 0, b0, sg, mu', 1, 6, FR, LR, R', ph_same rfl (by decide) (by decide), h25, fun z => absurd z hk, hW, hF, hL, fun _ _ => CT.rf hR⟩
theorem ST.good (R' : RI (c + 1) sg' mu') (hc : phC sg + mc ≤ phC sg' + 20 ∧ phS sg + ms ≤ phS sg' + 200) (h25 : mu'.1 25 0 = 0) (hb : b = r) (hW : CT l yL wL 14 340 D Y A AsL (LWo D Y A sg al o ar mu ao lT) (fun _ : Nat → Nat → Nat => some (.int 0)) (fun al' : Nat → Nat → Nat => fun H => al' 0 0 = al 0 0 ∧ LWo D Y A sg' al' o ar mu ao (lP 0 r) H) noX mc ms) (hF : FR ≤ 13) (hL : LR ≤ 310)
    (hR : ∀ B : Nat → Prop, CT l yR wR FR LR D Y B AsR (WR D Y B o ar mu) (fun _ : Unit => some (.int b)) (fun _ : Unit => WR D Y B o ar mu') noX 0 0) : ST l D Y A sg al o ao ar mu c yL wL AsL yR wR AsR :=
  ⟨0, r, b, sg', mu', mc, ms, FR, LR, R', hc, h25, fun _ => hb, hW, hF, hL, fun _ _ => CT.rf hR⟩
theorem STv.mk (R' : RI (c + 1) sg' mu') (hc : phC sg + mc ≤ phC sg' + 20 ∧ phS sg + ms ≤ phS sg' + 200) (h25 : mu'.1 25 0 = k) (hW : CT l yL wL 14 340 D Y A AsL (LWo D Y A sg al o ar mu ao lT) (fun _ : Nat → Nat → Nat => some (.int k)) (fun al' : Nat → Nat → Nat => fun H => al' 0 0 = al 0 0 ∧ LWo D Y A sg' al' o ar mu ao lT H) noX mc ms) (hF : FR ≤ 13) (hL : LR ≤ 310)
    (hR : ∀ B : Nat → Prop, CT l yR wR FR LR D Y B AsR (WR D Y B o ar mu) (fun _ : Unit => none) (fun _ : Unit => WR D Y B o ar mu') noX 0 0) : STv l D Y A sg al o ao ar mu c yL wL AsL yR wR AsR :=
  ⟨k, sg', mu', mc, ms, FR, LR, R', hc, h25, hW, hF, hL, fun _ _ => CT.rf hR⟩
end STS
theorem up3_2k {f : Nat → Nat → Nat → Nat} {k i j v k' i' j' : Nat} (h : ¬ (k' = k ∧ i' = i ∧ j' = j)) : up3 f k i j v k' i' j' = f k' i' j' := if_neg h
theorem ph_addG {S sg : Sg} {L x y : Nat} (hL : L = 0 ∨ L = 1 ∨ L = 3) (hN : sN S 4 = sN sg 4) (hC : ∀ q, sC S q = sC sg q) (hF : sF S L = sF sg L) (hx : x ≤ 20) (hy : y ≤ 200) : phC sg + (x + (capN sg L - sC sg L)) ≤ phC (c_add S L) + 20 ∧ phS sg + (y + 4 * (capN sg L - sC sg L)) ≤ phS (c_add S L) + 200 := by
  have hcap : capN S L = capN sg L := by unfold capN; rw [hC, hF]
  have h4 : sN (c_add S L) 4 = sN sg 4 := (c_add_2o S L 20 4 0 (Or.inl (by decide))).trans hN
  have ho : ∀ q, q ≠ L → sC (c_add S L) q = sC sg q := fun q hq => (c_add_2o S L 22 q 0 (Or.inr hq)).trans (hC q)
  have hs : sC (c_add S L) L = capN sg L := by
    rw [← hcap]
    show up3 (up3 (up3 S.2 22 L 0 (capN S L)) 23 L 0 (sF S L + 1)) 21 L 0 (sF S L + 1) 22 L 0 = capN S L
    rw [up3_2k (fun z => absurd z.1 (by decide)), up3_2k (fun z => absurd z.1 (by decide)), up3_at]
  have hle := capN_le sg L
  rcases hL with rfl | rfl | rfl
  · exact ph_gen rfl rfl rfl rfl rfl h4 (ho 2 (by decide)) hs (ho 1 (by decide)) (ho 3 (by decide)) (by omega) (by omega)
  · exact ph_gen rfl rfl rfl rfl rfl h4 (ho 2 (by decide)) (ho 0 (by decide)) hs (ho 3 (by decide)) (by omega) (by omega)
  · exact ph_gen rfl rfl rfl rfl rfl h4 (ho 2 (by decide)) (ho 0 (by decide)) (ho 1 (by decide)) hs (by omega) (by omega)
theorem ph_add0 (sg : Sg) (t : Int32) : phC sg + (2 + (capN sg 0 - sC sg 0)) ≤ phC (c_add (n_maker sg t) 0) + 20 ∧ phS sg + (125 + 4 * (capN sg 0 - sC sg 0)) ≤ phS (c_add (n_maker sg t) 0) + 200 := ph_addG (Or.inl rfl) rfl (fun q => rfl) rfl (by decide) (by decide)
theorem ph_add1 (sg : Sg) (i : Nat) (v : Int32) : phC sg + (2 + (capN sg 1 - sC sg 1)) ≤ phC (c_add (n_prod sg i v) 1) + 20 ∧ phS sg + (8 + 4 * (capN sg 1 - sC sg 1)) ≤ phS (c_add (n_prod sg i v) 1) + 200 := ph_addG (Or.inr (Or.inl rfl)) rfl (fun q => rfl) rfl (by decide) (by decide)
theorem ph_add3 (sg : Sg) (j i : Nat) (g : Nat → Int32) : phC sg + (1 + (capN sg 3 - sC sg 3)) ≤ phC (c_add (n_sub sg j i g) 3) + 20 ∧ phS sg + (7 + 4 * (capN sg 3 - sC sg 3)) ≤ phS (c_add (n_sub sg j i g) 3) + 200 := ph_addG (Or.inr (Or.inr rfl)) rfl (fun q => rfl) rfl (by decide) (by decide)
theorem ph_sell (sg : Sg) (p j : Nat) (v lt : Int32) : phC sg + (1 + (capN sg 2 - sC sg 2)) ≤ phC (c_sell sg p j v lt) + 20 ∧ phS sg + (9 + 4 * (capN sg 2 - sC sg 2)) ≤ phS (c_sell sg p j v lt) + 200 := by
  have ho : ∀ q, q ≠ 2 → sC (c_sell sg p j v lt) q = sC sg q := fun q hq => c_sell_2 sg p j v lt 22 q 0 (by decide) (fun z => absurd z (by decide)) (fun _ => hq)
  have hle := capN_le sg 2
  exact ph_gen rfl rfl rfl rfl rfl (c_sell_N sg p j v lt) (c_sell_C sg p j v lt) (ho 0 (by decide)) (ho 1 (by decide)) (ho 3 (by decide)) (by omega) (by omega)
theorem sell_N2 (sg : Sg) (p j : Nat) (v lt : Int32) : sN sg 2 = sN (c_sell sg p j v lt) 2 := (c_sell_2 sg p j v lt 20 2 0 (by decide) (fun _ => by decide) (fun z => absurd z (by decide))).symm
theorem pass_N2 (sg : Sg) (q : Nat) : sN sg 2 = sN (c_passN sg q).2 2 := (c_passN_2 sg 20 2 0 (by decide) (fun _ => by decide) (fun z => absurd z (by decide)) q).symm
theorem ph_pass (sg : Sg) (q : Nat) : phC sg + (phc (c_passN sg q).2 - phc sg) ≤ phC (c_passN sg q).2 + 20 ∧ phS sg + (phs (c_passN sg q).2 - phs sg) ≤ phS (c_passN sg q).2 + 200 := by
  have ho : ∀ L, L ≠ 2 → sC (c_passN sg q).2 L = sC sg L := fun L hL => c_passN_2 sg 22 L 0 (by decide) (fun z => absurd z (by decide)) (fun _ => hL) q
  obtain ⟨g1, g2⟩ := c_passN_le sg (Nat.zero_le q)
  have g1 : phc sg ≤ phc (c_passN sg q).2 := g1
  have g2 : phs sg ≤ phs (c_passN sg q).2 := g2
  rw [phC_eq, phC_eq, phS_eq, phS_eq, ho 0 (by decide), ho 1 (by decide), ho 3 (by decide)]
  generalize phc (c_passN sg q).2 = x at *
  generalize phs (c_passN sg q).2 = y at *
  omega
theorem ph_move (sg : Sg) (u i : Nat) : phC sg + 0 ≤ phC (sP sg 5 u 2 i) + 20 ∧ phS sg + 0 ≤ phS (sP sg 5 u 2 i) + 200 := ph_gen rfl rfl rfl rfl rfl (a' := sN sg 4) (b' := sC sg 2) (c' := sC sg 0) (d' := sC sg 1) (e' := sC sg 3) rfl rfl rfl rfl rfl (by omega) (by omega)
theorem rp_ne (mu : Rm) (i : Nat) (x b v y : Int32) (f : Nat) (h10 : f ≠ 10) (h11 : f ≠ 11) (h12 : f ≠ 12) (h25 : f ≠ 25) : (rI (r_fillP (rI (rI mu 25 0 0) 11 i x) b v 5) 10 0 y).1 f = mu.1 f := by
  rw [rI_o _ _ _ _ h10, r_fillP_ne _ _ _ f h12, rI_o _ _ _ _ h11, rI_o _ _ _ _ h25]
theorem tax_ne {x : Int32} {q : Nat} (e : x = nI q) (hq : q ≤ 30) : 0 < 100 + x := by
  rw [e, show (100 : Int32) + nI q = nI (100 + q) from nI_add 100 q]
  exact nI_lt (a := 0) (by omega) (by omega)
theorem bit_cs {x : Int32} {w : Nat} (e : x = nI (1 - w)) (hw : w < 2) : x = 0 ∨ x = 1 := by
  rcases (show w = 0 ∨ w = 1 by omega) with rfl | rfl
  · exact Or.inr e
  · exact Or.inl e
theorem refund_Z {mu : Rm} {N k i : Nat} {s w : Int64} (Z : RZ N mu) (hN : N ≤ 6) (hk : r_part s 54 3 = nI k) (hkN : k < N) : RZ N (rR (r_counts (rI mu 25 0 0) s (-1)) i w) := by
  intro x hx hx6
  obtain ⟨z6, z7, z8, z9⟩ := Z x hx hx6
  have o : ∀ f, f ≠ 3 → f ≠ 7 → f ≠ 23 → f ≠ 24 → f ≠ 25 → (r_counts (rI mu 25 0 0) s (-1)).1 f = mu.1 f := fun f h3 h7 h23 h24 h25 => (rc_o _ _ _ f h3 h7 h23 h24).trans (if_neg h25)
  refine ⟨?_, ?_, ?_, fun m hm => ?_⟩
  · show (r_counts (rI mu 25 0 0) s (-1)).1 6 x = 0
    rw [o 6 (by decide) (by decide) (by decide) (by decide) (by decide)]; exact z6
  · show (r_counts (rI mu 25 0 0) s (-1)).1 7 x = 0
    rw [rc_7 _ _ _ hk (by omega) x, if_neg (by omega)]; exact z7
  · show (r_counts (rI mu 25 0 0) s (-1)).1 8 x = 0
    rw [o 8 (by decide) (by decide) (by decide) (by decide) (by decide)]; exact z8
  · show (r_counts (rI mu 25 0 0) s (-1)).1 9 (120 * x + m) = 0
    rw [o 9 (by decide) (by decide) (by decide) (by decide) (by decide)]; exact z9 m hm
section STT
variable {l : Launch} {D : va_G} {Y : Nat → Nat} {A : Nat → Prop} {sg : Sg} {al : Nat → Nat → Nat} {o ao : Nat} {ar : Nat → Nat} {mu : Rm} {c : Nat}
set_option maxHeartbeats 2000000 in
theorem st_setTax (hlt : l.stackTraces = false) (R : RI c sg mu) (hc : c < 600) (a b h : Int32) (hh : h = 0 ∨ h = 1) : ST l D Y A sg al o ao ar mu c yL_setTax (Cond.codeWith yL_setTax cL_setTax 6 (some .int) [(0, 12, 15, 13)]) [.ref (al 0 0), .int a, .int b, .int h, .ref ao] yX6_setTax (Cond.code yX6_setTax cX6_setTax 5 (some .int)) [.ref o, .int a, .int b, .int h] := by
  by_cases ha : 0 ≤ a ∧ a ≤ 4
  · obtain ⟨j, hj, rfl⟩ := rg_cs (N := 4) a rfl ha
    by_cases hb : 0 ≤ b ∧ b ≤ 30
    · obtain ⟨q, hq, rfl⟩ := rg_cs (N := 30) b rfl hb
      obtain ⟨s1, s2⟩ := sim_setTax R.1 (show j < 5 by omega) hq hh
      exact ST.good ⟨s1.suc, R.2.cg rfl rfl rfl rfl⟩ (ph_same rfl (by decide) (by decide)) rfl s2 (lo_setTax l D Y A sg _ al o ao ar mu _ _ _ _ (Nat.le_of_ble_eq_true rfl) (Nat.le_of_ble_eq_true rfl) (CT.cls0 fun B => cc_setTax l D Y B sg al [] j (by omega) (nI q) h hh hb.1 hb.2)) (Nat.le_of_ble_eq_true rfl) (Nat.le_of_ble_eq_true rfl) (fun B => ct_setTax_ok l D Y B o ar mu (nI j) (nI q) h ha.1 ha.2 hb.1 hb.2 (vp_in_nI (by omega) (by decide)))
    · exact ST.bad (R.thr 1) rI_at (by decide) (lx_setTax_1 l D Y A sg al o ao ar mu _ _ _ 0 (Nat.le_of_ble_eq_true rfl) (Nat.le_of_ble_eq_true rfl) (CT.clsX fun B => cx_setTax_2 l D Y B sg al [] hlt j (by omega) b h hb)) (Nat.le_of_ble_eq_true rfl) (Nat.le_of_ble_eq_true rfl) (fun B => ct_setTax_1b l D Y B o ar mu (nI j) b h ha.1 ha.2 hb)
  · exact ST.bad (R.thr 1) rI_at (by decide) (lx_setTax_1 l D Y A sg al o ao ar mu _ _ _ 0 (Nat.le_of_ble_eq_true rfl) (Nat.le_of_ble_eq_true rfl) (CT.clsX fun B => cx_setTax_1 l D Y B sg al [] hlt a ha b h)) (Nat.le_of_ble_eq_true rfl) (Nat.le_of_ble_eq_true rfl) (fun B => ct_setTax_1a l D Y B o ar mu a b h ha)
set_option maxHeartbeats 2000000 in
theorem st_addMaker (hlt : l.stackTraces = false) (R : RI c sg mu) (hc : c < 600) (a : Int32)  : ST l D Y A sg al o ao ar mu c yL_addMaker (Cond.codeWith yL_addMaker cL_addMaker 4 (some .int) [(0, 9, 12, 13), (0, 9, 15, 19)]) [.ref (al 0 0), .int a, .ref ao] yX6_addMaker (Cond.code yX6_addMaker cX6_addMaker 2 (some .int)) [.ref o, .int a] := by
  obtain ⟨n2, n6⟩ := R.n2
  by_cases ha : 0 ≤ a ∧ a ≤ 1000000
  · by_cases hn : sN sg 2 < 6
    · obtain ⟨s1, s2⟩ := sim_addMaker R.1 R.2 (t := a) hn
      have hm : ¬ mu.1 4 0 = 6 := fun z => absurd ((nI_eq (a := sN sg 2) (b := 6) (by omega) (by decide)).mp (n2.symm.trans z)) (by omega)
      exact ST.good ⟨s1.suc, s2⟩ (ph_add0 sg a) rfl (by rw [n2]; exact nI_pp _) (lo_addMaker l D Y A sg _ al o ao ar mu _ _ (Nat.le_of_ble_eq_true rfl) (Nat.le_of_ble_eq_true rfl) (CT.cls1 fun B => cc_addMaker l D Y B sg al a ha.1 ha.2 (R.lw 0 (by decide)) hn R.r3 R.r4)) (Nat.le_of_ble_eq_true rfl) (Nat.le_of_ble_eq_true rfl) (fun B => ct_addMaker_ok l D Y B o ar mu a ha.1 ha.2 hm (by rw [n2]; exact vp_in_nI hn (by decide)))
    · have e6 : sN sg 2 = 6 := by omega
      exact ST.bad (R.thr 2) rI_at (by decide) (lx_addMaker_2 l D Y A sg al o ao ar mu _ 0 (Nat.le_of_ble_eq_true rfl) (Nat.le_of_ble_eq_true rfl) (CT.clsX fun B => cx_addMaker_2 l D Y B sg al [] hlt a ha.1 ha.2 (R.lw 0 (by decide)).1 (not_lt6 (N := 6) rfl (by omega) (by omega)))) (Nat.le_of_ble_eq_true rfl) (Nat.le_of_ble_eq_true rfl) (fun B => ct_addMaker_2 l D Y B o ar mu a ha.1 ha.2 (by rw [n2, e6]; rfl))
  · exact ST.bad (R.thr 1) rI_at (by decide) (lx_addMaker_1 l D Y A sg al o ao ar mu _ 0 (Nat.le_of_ble_eq_true rfl) (Nat.le_of_ble_eq_true rfl) (CT.clsX fun B => cx_addMaker_1 l D Y B sg al [] hlt a ha)) (Nat.le_of_ble_eq_true rfl) (Nat.le_of_ble_eq_true rfl) (fun B => ct_addMaker_1 l D Y B o ar mu a ha)
set_option maxHeartbeats 2000000 in
theorem st_addProduct (hlt : l.stackTraces = false) (R : RI c sg mu) (hc : c < 600) (a v : Int32)  : ST l D Y A sg al o ao ar mu c yL_addProduct (Cond.codeWith yL_addProduct cL_addProduct 5 (some .int) [(0, 10, 13, 25), (0, 10, 17, 13), (0, 10, 21, 19)]) [.ref (al 0 0), .int a, .int v, .ref ao] yX6_addProduct (Cond.code yX6_addProduct cX6_addProduct 4 (some .int)) [.ref o, .int a, .int v] := by
  obtain ⟨n2, n6⟩ := R.n2
  obtain ⟨n3, n20⟩ := R.n3
  rcases ix_cs a n2 (by omega) with ⟨i, hi, rfl, a1, a2⟩ | ⟨h1, h2⟩
  · by_cases hv : 0 ≤ v ∧ v ≤ 100000
    · obtain ⟨q, hq, rfl⟩ := rg_cs (N := 100000) v rfl hv
      by_cases hn : sN sg 3 < 20
      · have s1 := sim_addProduct R.1 hi hq hn
        have hm : ¬ mu.1 10 0 = 20 := fun z => absurd ((nI_eq (a := sN sg 3) (b := 20) (by omega) (by decide)).mp (n3.symm.trans z)) (by omega)
        exact ST.good ⟨s1.suc, R.2.cg (rp_ne _ _ _ _ _ _ 6 (by decide) (by decide) (by decide) (by decide)) (rp_ne _ _ _ _ _ _ 7 (by decide) (by decide) (by decide) (by decide)) (rp_ne _ _ _ _ _ _ 8 (by decide) (by decide) (by decide) (by decide)) (rp_ne _ _ _ _ _ _ 9 (by decide) (by decide) (by decide) (by decide))⟩ (ph_add1 sg i (nI q)) (by rw [rI_o _ _ _ _ (show 25 ≠ 10 by decide), r_fillP_ne _ _ _ 25 (by decide)]; rfl) (nI_pp _) (lo_addProduct l D Y A sg _ al o ao ar mu _ _ _ (Nat.le_of_ble_eq_true rfl) (Nat.le_of_ble_eq_true rfl) (CT.cls1 fun B => cc_addProduct l D Y B sg al (R.lw 0 (by decide)) i hi (nI q) hv.1 hv.2 (R.lw 1 (by decide)) hn R.r5)) (Nat.le_of_ble_eq_true rfl) (Nat.le_of_ble_eq_true rfl) (fun B => ct_addProduct_ok l D Y B o ar mu (nI i) (nI q) (sN sg 3) n3 hn a1 a2 hv.1 hv.2 hm)
      · have e6 : sN sg 3 = 20 := by omega
        exact ST.bad (R.thr 3) rI_at (by decide) (lx_addProduct_3 l D Y A sg al o ao ar mu _ _ 0 (Nat.le_of_ble_eq_true rfl) (Nat.le_of_ble_eq_true rfl) (CT.clsX fun B => cx_addProduct_3 l D Y B sg al [] hlt (R.lw 0 (by decide)) i hi (nI q) hv.1 hv.2 (R.lw 1 (by decide)).1 (not_lt6 (N := 20) rfl (by omega) (by omega)))) (Nat.le_of_ble_eq_true rfl) (Nat.le_of_ble_eq_true rfl) (fun B => ct_addProduct_3 l D Y B o ar mu (nI i) (nI q) a1 a2 hv.1 hv.2 (by rw [n3, e6]; rfl))
    · exact ST.bad (R.thr 2) rI_at (by decide) (lx_addProduct_2 l D Y A sg al o ao ar mu _ _ 0 (Nat.le_of_ble_eq_true rfl) (Nat.le_of_ble_eq_true rfl) (CT.clsX fun B => cx_addProduct_2 l D Y B sg al [] hlt (R.lw 0 (by decide)) i hi v hv)) (Nat.le_of_ble_eq_true rfl) (Nat.le_of_ble_eq_true rfl) (fun B => ct_addProduct_2 l D Y B o ar mu (nI i) v a1 a2 hv)
  · exact ST.bad (R.thr 1) rI_at (by decide) (lx_addProduct_1 l D Y A sg al o ao ar mu _ _ 0 (Nat.le_of_ble_eq_true rfl) (Nat.le_of_ble_eq_true rfl) (CT.clsX fun B => cx_addProduct_1 l D Y B sg al [] hlt (R.lw 0 (by decide)) v a h1)) (Nat.le_of_ble_eq_true rfl) (Nat.le_of_ble_eq_true rfl) (fun B => ct_addProduct_1 l D Y B o ar mu a v h2)
set_option maxHeartbeats 2000000 in
theorem st_setPrice (hlt : l.stackTraces = false) (R : RI c sg mu) (hc : c < 600) (a b v : Int32)  : ST l D Y A sg al o ao ar mu c yL_setPrice (Cond.codeWith yL_setPrice cL_setPrice 6 (some .int) [(0, 12, 15, 25), (0, 12, 19, 13)]) [.ref (al 0 0), .int a, .int b, .int v, .ref ao] yX6_setPrice (Cond.code yX6_setPrice cX6_setPrice 5 (some .int)) [.ref o, .int a, .int b, .int v] := by
  obtain ⟨n3, n20⟩ := R.n3
  rcases ix_cs a n3 (by omega) with ⟨i, hi, rfl, a1, a2⟩ | ⟨h1, h2⟩
  · by_cases hb : 0 ≤ b ∧ b ≤ 4
    · obtain ⟨j, hj, rfl⟩ := rg_cs (N := 4) b rfl hb
      by_cases hv : 0 ≤ v ∧ v ≤ 100000
      · obtain ⟨q, hq, rfl⟩ := rg_cs (N := 100000) v rfl hv
        obtain ⟨s1, s2⟩ := sim_setPrice R.1 hi (show j < 5 by omega) hq
        exact ST.good ⟨s1.suc, R.2.cg rfl rfl rfl rfl⟩ (ph_same rfl (by decide) (by decide)) rfl s2 (lo_setPrice l D Y A sg _ al o ao ar mu _ _ _ _ (Nat.le_of_ble_eq_true rfl) (Nat.le_of_ble_eq_true rfl) (CT.cls0 fun B => cc_setPrice l D Y B sg al [] (R.lw 1 (by decide)) i j hi (by omega) (nI q) hv.1 hv.2)) (Nat.le_of_ble_eq_true rfl) (Nat.le_of_ble_eq_true rfl) (fun B => ct_setPrice_ok l D Y B o ar mu (nI i) (nI j) (nI q) a1 a2 hb.1 hb.2 hv.1 hv.2 (vp_m5 (by omega) (by omega)))
      · exact ST.bad (R.thr 2) rI_at (by decide) (lx_setPrice_2 l D Y A sg al o ao ar mu _ _ _ 0 (Nat.le_of_ble_eq_true rfl) (Nat.le_of_ble_eq_true rfl) (CT.clsX fun B => cx_setPrice_3 l D Y B sg al [] hlt (R.lw 1 (by decide)) i j hi (by omega) v hv)) (Nat.le_of_ble_eq_true rfl) (Nat.le_of_ble_eq_true rfl) (fun B => ct_setPrice_2b l D Y B o ar mu (nI i) (nI j) v a1 a2 hb.1 hb.2 hv)
    · exact ST.bad (R.thr 2) rI_at (by decide) (lx_setPrice_2 l D Y A sg al o ao ar mu _ _ _ 0 (Nat.le_of_ble_eq_true rfl) (Nat.le_of_ble_eq_true rfl) (CT.clsX fun B => cx_setPrice_2 l D Y B sg al [] hlt (R.lw 1 (by decide)) i hi b hb v)) (Nat.le_of_ble_eq_true rfl) (Nat.le_of_ble_eq_true rfl) (fun B => ct_setPrice_2a l D Y B o ar mu (nI i) b v a1 a2 hb)
  · exact ST.bad (R.thr 1) rI_at (by decide) (lx_setPrice_1 l D Y A sg al o ao ar mu _ _ _ 0 (Nat.le_of_ble_eq_true rfl) (Nat.le_of_ble_eq_true rfl) (CT.clsX fun B => cx_setPrice_1 l D Y B sg al [] hlt (R.lw 1 (by decide)) a h1 b v)) (Nat.le_of_ble_eq_true rfl) (Nat.le_of_ble_eq_true rfl) (fun B => ct_setPrice_1 l D Y B o ar mu a b v h2)
set_option maxHeartbeats 2000000 in
theorem st_buy (hlt : l.stackTraces = false) (R : RI c sg mu) (hc : c < 600) (a b : Int32)  : ST l D Y A sg al o ao ar mu c yL_buy (Cond.codeWith yL_buy cL_buy 5 (some .int) [(0, 10, 13, 25), (0, 10, 17, 13)]) [.ref (al 0 0), .int a, .int b, .ref ao] yX6_buy (Cond.code yX6_buy cX6_buy 3 (some .int)) [.ref o, .int a, .int b] := by
  obtain ⟨n3, n20⟩ := R.n3
  rcases ix_cs a n3 (by omega) with ⟨i, hi, rfl, a1, a2⟩ | ⟨h1, h2⟩
  · by_cases hb : 0 ≤ b ∧ b ≤ 4
    · obtain ⟨j, hj, rfl⟩ := rg_cs (N := 4) b rfl hb
      have hN := R.lt hc
      obtain ⟨s1, s2, s3, s4⟩ := sim_buy R.1 R.2 hN hi (show j < 5 by omega)
      obtain ⟨⟨q, hq, e1, -⟩, ⟨w, hw, e2, -⟩, -⟩ := R.1.1.2.2.1 j (by omega)
      exact ST.good ⟨s2, (sell_N2 sg i j _ _) ▸ s4⟩ (ph_sell sg i j _ _) (by rw [r_sells_ne _ _ _ _ _ 25 (by decide) (by decide) (by decide) (by decide) (by decide) (by decide)]; rfl) s3 (lo_buy l D Y A sg _ al o ao ar mu _ _ _ (Nat.le_of_ble_eq_true rfl) (Nat.le_of_ble_eq_true rfl) (CT.cls1 fun B => cc_buy l D Y B sg al (R.lw 1 (by decide)) i j hi (by omega) (R.r3 i hi) (tax_ne e1 hq) (bit_cs e2 hw) (R.lw 2 (by decide)) (by omega))) (Nat.le_of_ble_eq_true rfl) (Nat.le_of_ble_eq_true rfl) (fun B => ct_buy_ok l D Y B o ar mu (nI i) (nI j) a1 a2 hb.1 hb.2 (vp_m5 (by omega) (by omega)) s1)
    · exact ST.bad (R.thr 2) rI_at (by decide) (lx_buy_2 l D Y A sg al o ao ar mu _ _ 0 (Nat.le_of_ble_eq_true rfl) (Nat.le_of_ble_eq_true rfl) (CT.clsX fun B => cx_buy_2 l D Y B sg al [] hlt (R.lw 1 (by decide)) i hi b hb)) (Nat.le_of_ble_eq_true rfl) (Nat.le_of_ble_eq_true rfl) (fun B => ct_buy_2 l D Y B o ar mu (nI i) b a1 a2 hb)
  · exact ST.bad (R.thr 1) rI_at (by decide) (lx_buy_1 l D Y A sg al o ao ar mu _ _ 0 (Nat.le_of_ble_eq_true rfl) (Nat.le_of_ble_eq_true rfl) (CT.clsX fun B => cx_buy_1 l D Y B sg al [] hlt (R.lw 1 (by decide)) a h1 b)) (Nat.le_of_ble_eq_true rfl) (Nat.le_of_ble_eq_true rfl) (fun B => ct_buy_1 l D Y B o ar mu a b h2)
set_option maxHeartbeats 2000000 in
theorem st_refund (hlt : l.stackTraces = false) (R : RI c sg mu) (hc : c < 600) (a : Int32)  : ST l D Y A sg al o ao ar mu c yL_refund (Cond.codeWith yL_refund cL_refund 4 (some .int) [(0, 9, 12, 25), (0, 9, 15, 19)]) [.ref (al 0 0), .int a, .ref ao] yX6_refund (Cond.code yX6_refund cX6_refund 2 (some .int)) [.ref o, .int a] := by
  have hN := R.lt hc
  rcases ix_cs a R.n4 (by omega) with ⟨i, hi, rfl, a1, a2⟩ | ⟨h1, h2⟩
  · have hcl : (nI i).toNatClampNeg = i := nI_clamp (by omega)
    obtain ⟨p, q, t, m, k, w, h, z, B0, e0, s2, s3, s4, s5, s6, s7, s8, k0, l0, kl⟩ := R.1.1.2.2.2.2.2.1 i hi
    have hz2 : z < 2 := B0.2.2.2.2.2.2.2
    have p61 : r_part (mu.2 (nI i).toNatClampNeg) 61 1 = nI z := by rw [hcl, e0]; exact pk_ref B0
    have p47 : r_part (mu.2 (nI i).toNatClampNeg) 47 7 = nI m := by rw [hcl, e0]; exact pk_month B0
    obtain ⟨d, hd, d1, d2⟩ := R.dd
    have hin : vp_in (nI i) 5400 := vp_in_nI (by omega) (by decide)
    rcases (show z = 0 ∨ z = 1 by omega) with rfl | rfl
    · have hr0 : ¬ r_part (mu.2 (nI i).toNatClampNeg) 61 1 = 1 := by rw [p61]; decide
      by_cases hq : sg.1 0 0 5 / 30 - sg.1 4 i 2 ≤ 3
      · obtain ⟨t1, t2⟩ := sim_refund R.1 hN hi s8
        have hk : r_part (mu.2 (nI i).toNatClampNeg) 54 3 = nI k := by rw [hcl, e0]; exact pk_maker B0
        have hw : r_part (mu.2 (nI i).toNatClampNeg) 57 3 = nI w := by rw [hcl, e0]; exact pk_land B0
        exact ST.good ⟨t1.suc, (show sN sg 2 = sN (c_book (sI sg 4 i 8 1) i (-1)) 2 from (N_eq (sg := sI sg 4 i 8 1) (c_book_2 _ _ _) 2).symm) ▸ refund_Z R.2 R.n2.2 hk kl⟩ (ph_same (c_book_2 _ _ _) (by decide) (by decide)) ((congrFun (r_counts_ne (rI mu 25 0 0) (mu.2 (nI i).toNatClampNeg) (-1) 25 (by decide) (by decide) (by decide) (by decide)) 0).trans rI_at) t2 (lo_refund l D Y A sg _ al o ao ar mu _ _ (Nat.le_of_ble_eq_true rfl) (Nat.le_of_ble_eq_true rfl) (CT.cls0 fun B => cc_refund l D Y B sg al [] (R.lw 2 (by decide)) i hi (R.r4 i hi) (by rw [l0]; exact B0.2.2.2.2.2.1) s8 hq)) (Nat.le_of_ble_eq_true rfl) (Nat.le_of_ble_eq_true rfl) (fun B => ct_refund_ok l D Y B o ar mu (nI i) a1 a2 hin hr0 (by rw [p47, d2, ← d1, ← s2]; exact hq) (by rw [hk]; exact vp_in_nI B0.2.2.2.2.1 (by decide)) (by rw [hw]; exact vp_in_nI B0.2.2.2.2.2.1 (by decide)))
      · exact ST.bad (R.thr2 0 2) rI_at (by decide) (lx_refund_2 l D Y A sg al o ao ar mu _ 0 (Nat.le_of_ble_eq_true rfl) (Nat.le_of_ble_eq_true rfl) (CT.clsX fun B => cx_refund_3 l D Y B sg al [] hlt (R.lw 2 (by decide)) i hi s8 hq)) (Nat.le_of_ble_eq_true rfl) (Nat.le_of_ble_eq_true rfl) (fun B => ct_refund_2b l D Y B o ar mu (nI i) a1 a2 hin hr0 (by rw [p47, d2, ← d1, ← s2]; exact hq))
    · exact ST.bad (R.thr2 0 2) rI_at (by decide) (lx_refund_2 l D Y A sg al o ao ar mu _ 0 (Nat.le_of_ble_eq_true rfl) (Nat.le_of_ble_eq_true rfl) (CT.clsX fun B => cx_refund_2 l D Y B sg al [] hlt (R.lw 2 (by decide)) i hi (by rw [s8]; decide))) (Nat.le_of_ble_eq_true rfl) (Nat.le_of_ble_eq_true rfl) (fun B => ct_refund_2a l D Y B o ar mu (nI i) a1 a2 hin (by rw [p61]; rfl))
  · exact ST.bad (R.thr 1) rI_at (by decide) (lx_refund_1 l D Y A sg al o ao ar mu _ 0 (Nat.le_of_ble_eq_true rfl) (Nat.le_of_ble_eq_true rfl) (CT.clsX fun B => cx_refund_1 l D Y B sg al [] hlt (R.lw 2 (by decide)) a h1)) (Nat.le_of_ble_eq_true rfl) (Nat.le_of_ble_eq_true rfl) (fun B => ct_refund_1 l D Y B o ar mu a h2)
set_option maxHeartbeats 2000000 in
theorem st_paid (hlt : l.stackTraces = false) (R : RI c sg mu) (hc : c < 600) (a : Int32)  : ST l D Y A sg al o ao ar mu c yL_paid (Cond.codeWith yL_paid cL_paid 4 (some .int) [(0, 9, 12, 25)]) [.ref (al 0 0), .int a, .ref ao] yX6_paid (Cond.code yX6_paid cX6_paid 2 (some .int)) [.ref o, .int a] := by
  have hN := R.lt hc
  rcases ix_cs a R.n4 (by omega) with ⟨i, hi, rfl, a1, a2⟩ | ⟨h1, h2⟩
  · have hcl : (nI i).toNatClampNeg = i := nI_clamp (by omega)
    obtain ⟨p, q, t, m, k, w, h, z, B0, e0, s2, s3, s4, s5, s6, s7, s8, k0, l0, kl⟩ := R.1.1.2.2.2.2.2.1 i hi
    exact ST.good (R.thr 0) (ph_same rfl (by decide) (by decide)) rI_at (by rw [hcl, e0, s3]; exact pk_price B0) (lo_paid l D Y A sg _ al o ao ar mu _ _ (Nat.le_of_ble_eq_true rfl) (Nat.le_of_ble_eq_true rfl) (CT.cls0 fun B => cc_paid l D Y B sg al [] (R.lw 2 (by decide)) i hi)) (Nat.le_of_ble_eq_true rfl) (Nat.le_of_ble_eq_true rfl) (fun B => ct_paid1 l D Y B o ar mu (nI i) a1 a2 (vp_in_nI (by omega) (by decide)))
  · exact ST.bad (R.thr 1) rI_at (by decide) (lx_paid_1 l D Y A sg al o ao ar mu _ 0 (Nat.le_of_ble_eq_true rfl) (Nat.le_of_ble_eq_true rfl) (CT.clsX fun B => cx_paid l D Y B sg al [] hlt (R.lw 2 (by decide)) a h1)) (Nat.le_of_ble_eq_true rfl) (Nat.le_of_ble_eq_true rfl) (fun B => ct_paid0 l D Y B o ar mu a h2)
set_option maxHeartbeats 2000000 in
theorem st_tax (hlt : l.stackTraces = false) (R : RI c sg mu) (hc : c < 600) (a : Int32)  : ST l D Y A sg al o ao ar mu c yL_tax (Cond.codeWith yL_tax cL_tax 4 (some .int) [(0, 9, 12, 25)]) [.ref (al 0 0), .int a, .ref ao] yX6_tax (Cond.code yX6_tax cX6_tax 2 (some .int)) [.ref o, .int a] := by
  have hN := R.lt hc
  rcases ix_cs a R.n4 (by omega) with ⟨i, hi, rfl, a1, a2⟩ | ⟨h1, h2⟩
  · have hcl : (nI i).toNatClampNeg = i := nI_clamp (by omega)
    obtain ⟨p, q, t, m, k, w, h, z, B0, e0, s2, s3, s4, s5, s6, s7, s8, k0, l0, kl⟩ := R.1.1.2.2.2.2.2.1 i hi
    exact ST.good (R.thr 0) (ph_same rfl (by decide) (by decide)) rI_at (by rw [hcl, e0, s4]; exact pk_tax B0) (lo_tax l D Y A sg _ al o ao ar mu _ _ (Nat.le_of_ble_eq_true rfl) (Nat.le_of_ble_eq_true rfl) (CT.cls0 fun B => cc_tax l D Y B sg al [] (R.lw 2 (by decide)) i hi)) (Nat.le_of_ble_eq_true rfl) (Nat.le_of_ble_eq_true rfl) (fun B => ct_tax1 l D Y B o ar mu (nI i) a1 a2 (vp_in_nI (by omega) (by decide)))
  · exact ST.bad (R.thr 1) rI_at (by decide) (lx_tax_1 l D Y A sg al o ao ar mu _ 0 (Nat.le_of_ble_eq_true rfl) (Nat.le_of_ble_eq_true rfl) (CT.clsX fun B => cx_tax l D Y B sg al [] hlt (R.lw 2 (by decide)) a h1)) (Nat.le_of_ble_eq_true rfl) (Nat.le_of_ble_eq_true rfl) (fun B => ct_tax0 l D Y B o ar mu a h2)
set_option maxHeartbeats 2000000 in
theorem st_shopShare (hlt : l.stackTraces = false) (R : RI c sg mu) (hc : c < 600) (a : Int32)  : ST l D Y A sg al o ao ar mu c yL_shopShare (Cond.codeWith yL_shopShare cL_shopShare 4 (some .int) [(0, 9, 12, 25)]) [.ref (al 0 0), .int a, .ref ao] yX6_shopShare (Cond.code yX6_shopShare cX6_shopShare 2 (some .int)) [.ref o, .int a] := by
  have hN := R.lt hc
  rcases ix_cs a R.n4 (by omega) with ⟨i, hi, rfl, a1, a2⟩ | ⟨h1, h2⟩
  · have hcl : (nI i).toNatClampNeg = i := nI_clamp (by omega)
    obtain ⟨p, q, t, m, k, w, h, z, B0, e0, s2, s3, s4, s5, s6, s7, s8, k0, l0, kl⟩ := R.1.1.2.2.2.2.2.1 i hi
    exact ST.good (R.thr 0) (ph_same rfl (by decide) (by decide)) rI_at (by rw [hcl, e0, s5]; exact pk_share B0) (lo_shopShare l D Y A sg _ al o ao ar mu _ _ (Nat.le_of_ble_eq_true rfl) (Nat.le_of_ble_eq_true rfl) (CT.cls0 fun B => cc_shopShare l D Y B sg al [] (R.lw 2 (by decide)) i hi)) (Nat.le_of_ble_eq_true rfl) (Nat.le_of_ble_eq_true rfl) (fun B => ct_shopShare1 l D Y B o ar mu (nI i) a1 a2 (vp_in_nI (by omega) (by decide)))
  · exact ST.bad (R.thr 1) rI_at (by decide) (lx_shopShare_1 l D Y A sg al o ao ar mu _ 0 (Nat.le_of_ble_eq_true rfl) (Nat.le_of_ble_eq_true rfl) (CT.clsX fun B => cx_shopShare l D Y B sg al [] hlt (R.lw 2 (by decide)) a h1)) (Nat.le_of_ble_eq_true rfl) (Nat.le_of_ble_eq_true rfl) (fun B => ct_shopShare0 l D Y B o ar mu a h2)
set_option maxHeartbeats 2000000 in
theorem st_makerPart (hlt : l.stackTraces = false) (R : RI c sg mu) (hc : c < 600) (a : Int32)  : ST l D Y A sg al o ao ar mu c yL_makerPart (Cond.codeWith yL_makerPart cL_makerPart 4 (some .int) [(0, 9, 12, 25)]) [.ref (al 0 0), .int a, .ref ao] yX6_makerPart (Cond.code yX6_makerPart cX6_makerPart 2 (some .int)) [.ref o, .int a] := by
  have hN := R.lt hc
  rcases ix_cs a R.n4 (by omega) with ⟨i, hi, rfl, a1, a2⟩ | ⟨h1, h2⟩
  · have hcl : (nI i).toNatClampNeg = i := nI_clamp (by omega)
    obtain ⟨p, q, t, m, k, w, h, z, B0, e0, s2, s3, s4, s5, s6, s7, s8, k0, l0, kl⟩ := R.1.1.2.2.2.2.2.1 i hi
    exact ST.good (R.thr 0) (ph_same rfl (by decide) (by decide)) rI_at (by rw [hcl, e0, s6]; exact pk_part B0) (lo_makerPart l D Y A sg _ al o ao ar mu _ _ (Nat.le_of_ble_eq_true rfl) (Nat.le_of_ble_eq_true rfl) (CT.cls0 fun B => cc_makerPart l D Y B sg al [] (R.lw 2 (by decide)) i hi)) (Nat.le_of_ble_eq_true rfl) (Nat.le_of_ble_eq_true rfl) (fun B => ct_makerPart1 l D Y B o ar mu (nI i) a1 a2 (vp_in_nI (by omega) (by decide)))
  · exact ST.bad (R.thr 1) rI_at (by decide) (lx_makerPart_1 l D Y A sg al o ao ar mu _ 0 (Nat.le_of_ble_eq_true rfl) (Nat.le_of_ble_eq_true rfl) (CT.clsX fun B => cx_makerPart l D Y B sg al [] hlt (R.lw 2 (by decide)) a h1)) (Nat.le_of_ble_eq_true rfl) (Nat.le_of_ble_eq_true rfl) (fun B => ct_makerPart0 l D Y B o ar mu a h2)
set_option maxHeartbeats 2000000 in
theorem st_subscribe (hlt : l.stackTraces = false) (R : RI c sg mu) (hc : c < 600) (a b v h : Int32) (hh : h = 0 ∨ h = 1) : ST l D Y A sg al o ao ar mu c yL_subscribe (Cond.codeWith yL_subscribe cL_subscribe 7 (some .int) [(0, 14, 17, 25), (0, 14, 21, 13), (0, 14, 25, 19)]) [.ref (al 0 0), .int a, .int b, .int v, .int h, .ref ao] yX6_subscribe (Cond.code yX6_subscribe cX6_subscribe 5 (some .int)) [.ref o, .int a, .int b, .int v, .int h] := by
  obtain ⟨n3, n20⟩ := R.n3
  obtain ⟨n5, n40⟩ := R.n5
  rcases ix_cs a n3 (by omega) with ⟨i, hi, rfl, a1, a2⟩ | ⟨h1, h2⟩
  · by_cases hb : 0 ≤ b ∧ b ≤ 4
    · obtain ⟨j, hj, rfl⟩ := rg_cs (N := 4) b rfl hb
      by_cases hv : 1 ≤ v ∧ v ≤ 60
      · obtain ⟨q, hq, rfl⟩ := rg_cs (N := 60) v rfl ⟨Int32.le_trans (by decide) hv.1, hv.2⟩
        have hq1 : 1 ≤ q := (nI_leI (a := 1) (by decide) (by omega)).mp hv.1
        by_cases hn : sN sg 5 < 40
        · have s1 := sim_subscribe R.1 hi (show j < 5 by omega) hq1 hq hh hn
          have hm : ¬ mu.1 15 0 = 40 := fun z => absurd ((nI_eq (a := sN sg 5) (b := 40) (by omega) (by decide)).mp (n5.symm.trans z)) (by omega)
          exact ST.good ⟨s1.suc, R.2.cg rfl rfl rfl rfl⟩ (ph_add3 sg j i _) rfl (by rw [n5]; exact nI_pp _) (lo_subscribe l D Y A sg _ al o ao ar mu _ _ _ _ _ (Nat.le_of_ble_eq_true rfl) (Nat.le_of_ble_eq_true rfl) (CT.cls1 fun B => cc_subscribe l D Y B sg al (R.lw 1 (by decide)) i j hi (by omega) (nI q) h hh hv.1 hv.2 (R.lw 3 (by decide)) hn)) (Nat.le_of_ble_eq_true rfl) (Nat.le_of_ble_eq_true rfl) (fun B => ct_subscribe_ok l D Y B o ar mu (nI i) (nI j) (nI q) h a1 a2 hb.1 hb.2 hv.1 hv.2 hm (by rw [n5]; exact vp_in_nI hn (by decide)))
        · have e6 : sN sg 5 = 40 := by omega
          exact ST.bad (R.thr 3) rI_at (by decide) (lx_subscribe_3 l D Y A sg al o ao ar mu _ _ _ _ 0 (Nat.le_of_ble_eq_true rfl) (Nat.le_of_ble_eq_true rfl) (CT.clsX fun B => cx_subscribe_4 l D Y B sg al [] hlt (R.lw 1 (by decide)) i hi (nI q) h j (by omega) hv.1 hv.2 (R.lw 3 (by decide)).1 (not_lt6 (N := 40) rfl (by omega) (by omega)))) (Nat.le_of_ble_eq_true rfl) (Nat.le_of_ble_eq_true rfl) (fun B => ct_subscribe_3 l D Y B o ar mu (nI i) (nI j) (nI q) h a1 a2 hb.1 hb.2 hv.1 hv.2 (by rw [n5, e6]; rfl))
      · exact ST.bad (R.thr 2) rI_at (by decide) (lx_subscribe_2 l D Y A sg al o ao ar mu _ _ _ _ 0 (Nat.le_of_ble_eq_true rfl) (Nat.le_of_ble_eq_true rfl) (CT.clsX fun B => cx_subscribe_3 l D Y B sg al [] hlt (R.lw 1 (by decide)) i hi v h j (by omega) hv)) (Nat.le_of_ble_eq_true rfl) (Nat.le_of_ble_eq_true rfl) (fun B => ct_subscribe_2b l D Y B o ar mu (nI i) (nI j) v h a1 a2 hb.1 hb.2 hv)
    · exact ST.bad (R.thr 2) rI_at (by decide) (lx_subscribe_2 l D Y A sg al o ao ar mu _ _ _ _ 0 (Nat.le_of_ble_eq_true rfl) (Nat.le_of_ble_eq_true rfl) (CT.clsX fun B => cx_subscribe_2 l D Y B sg al [] hlt (R.lw 1 (by decide)) i hi v h b hb)) (Nat.le_of_ble_eq_true rfl) (Nat.le_of_ble_eq_true rfl) (fun B => ct_subscribe_2a l D Y B o ar mu (nI i) b v h a1 a2 hb)
  · exact ST.bad (R.thr 1) rI_at (by decide) (lx_subscribe_1 l D Y A sg al o ao ar mu _ _ _ _ 0 (Nat.le_of_ble_eq_true rfl) (Nat.le_of_ble_eq_true rfl) (CT.clsX fun B => cx_subscribe_1 l D Y B sg al [] hlt (R.lw 1 (by decide)) b v h a h1)) (Nat.le_of_ble_eq_true rfl) (Nat.le_of_ble_eq_true rfl) (fun B => ct_subscribe_1 l D Y B o ar mu a b v h h2)
set_option maxHeartbeats 2000000 in
theorem st_move (hlt : l.stackTraces = false) (R : RI c sg mu) (hc : c < 600) (a b : Int32)  : ST l D Y A sg al o ao ar mu c yL_move (Cond.codeWith yL_move cL_move 5 (some .int) [(0, 10, 13, 25), (0, 10, 17, 13), (0, 10, 21, 19)]) [.ref (al 0 0), .int a, .int b, .ref ao] yX6_move (Cond.code yX6_move cX6_move 4 (some .int)) [.ref o, .int a, .int b] := by
  obtain ⟨n3, n20⟩ := R.n3
  obtain ⟨n5, n40⟩ := R.n5
  rcases ix_cs a n5 (by omega) with ⟨u, hu, rfl, a1, a2⟩ | ⟨h1, h2⟩
  · have hcl : (nI u).toNatClampNeg = u := nI_clamp (by omega)
    obtain ⟨ul, up, u16, u17, u18, u19, u20, -⟩ := R.1.2.1 u hu
    have e16 : mu.1 16 (nI u).toNatClampNeg = nI (sg.2 5 u 2) := by rw [hcl]; exact u16
    have e18 : mu.1 18 (nI u).toNatClampNeg = sg.1 5 u 6 := by rw [hcl]; exact u18
    have hin : vp_in (nI u) 40 := vp_in_nI (by omega) (by decide)
    rcases ix_cs b n3 (by omega) with ⟨i, hi, rfl, b1, b2⟩ | ⟨g1, g2⟩
    · by_cases he : i = sg.2 5 u 2
      · exact ST.bad (R.thr2 0 2) rI_at (by decide) (lx_move_2 l D Y A sg al o ao ar mu _ _ 0 (Nat.le_of_ble_eq_true rfl) (Nat.le_of_ble_eq_true rfl) (CT.clsX fun B => cx_move_3 l D Y B sg al [] hlt (R.lw 3 (by decide)) (R.lw 1 (by decide)) u i hu hi up he)) (Nat.le_of_ble_eq_true rfl) (Nat.le_of_ble_eq_true rfl) (fun B => ct_move_2a l D Y B o ar mu (nI u) (nI i) a1 a2 b1 b2 hin (by rw [e16, he]))
      · have hs : ¬ mu.1 16 (nI u).toNatClampNeg = nI i := fun z => he ((nI_eq (by omega) (by omega)).mp (e16.symm.trans z)).symm
        have p11 : mu.1 11 (mu.1 16 (nI u).toNatClampNeg).toNatClampNeg = nI (sg.2 3 (sg.2 5 u 2) 1) := by rw [e16, nI_clamp (by omega)]; exact (R.1.1.2.2.2.2.1 _ up).2.1
        have q11 : mu.1 11 (nI i).toNatClampNeg = nI (sg.2 3 i 1) := by rw [nI_clamp (by omega)]; exact (R.1.1.2.2.2.2.1 _ hi).2.1
        have hj : vp_in (mu.1 16 (nI u).toNatClampNeg) 20 := by rw [e16]; exact vp_in_nI (by omega) (by decide)
        have hb : vp_in (nI i) 20 := vp_in_nI (by omega) (by decide)
        have m1 := R.r3 i hi
        have m2 := R.r3 _ up
        have n6 := R.n2.2
        by_cases hm : sg.2 3 i 1 = sg.2 3 (sg.2 5 u 2) 1
        · have hme : mu.1 11 (mu.1 16 (nI u).toNatClampNeg).toNatClampNeg = mu.1 11 (nI i).toNatClampNeg := by rw [p11, q11, hm]
          by_cases hd : sg.1 5 u 6 = -1
          · exact ST.bad (R.thr2 0 3) rI_at (by decide) (lx_move_3 l D Y A sg al o ao ar mu _ _ 0 (Nat.le_of_ble_eq_true rfl) (Nat.le_of_ble_eq_true rfl) (CT.clsX fun B => cx_move_5 l D Y B sg al [] hlt (R.lw 3 (by decide)) (R.lw 1 (by decide)) u i hu hi up m1 m2 he hm hd)) (Nat.le_of_ble_eq_true rfl) (Nat.le_of_ble_eq_true rfl) (fun B => ct_move_3 l D Y B o ar mu (nI u) (nI i) a1 a2 b1 b2 hin hj hb hs hme (e18.trans hd))
          · exact ST.good ⟨(sim_move R.1 hu hi).suc, R.2.cg rfl rfl rfl rfl⟩ (ph_move sg u i) rfl e16 (lo_move l D Y A sg _ al o ao ar mu _ _ _ (Nat.le_of_ble_eq_true rfl) (Nat.le_of_ble_eq_true rfl) (CT.cls0 fun B => cc_move l D Y B sg al [] (R.lw 3 (by decide)) (R.lw 1 (by decide)) u i hu hi up m1 m2 he hm hd)) (Nat.le_of_ble_eq_true rfl) (Nat.le_of_ble_eq_true rfl) (fun B => ct_move_ok l D Y B o ar mu (nI u) (nI i) a1 a2 b1 b2 hin hj hb hs hme (fun z => hd (e18.symm.trans z)))
        · exact ST.bad (R.thr2 0 2) rI_at (by decide) (lx_move_2 l D Y A sg al o ao ar mu _ _ 0 (Nat.le_of_ble_eq_true rfl) (Nat.le_of_ble_eq_true rfl) (CT.clsX fun B => cx_move_4 l D Y B sg al [] hlt (R.lw 3 (by decide)) (R.lw 1 (by decide)) u i hu hi up m1 m2 he hm)) (Nat.le_of_ble_eq_true rfl) (Nat.le_of_ble_eq_true rfl) (fun B => ct_move_2b l D Y B o ar mu (nI u) (nI i) a1 a2 b1 b2 hin hj hb hs (fun z => hm ((nI_eq (by omega) (by omega)).mp (q11.symm.trans (z.symm.trans p11)))))
    · exact ST.bad (R.thr 1) rI_at (by decide) (lx_move_1 l D Y A sg al o ao ar mu _ _ 0 (Nat.le_of_ble_eq_true rfl) (Nat.le_of_ble_eq_true rfl) (CT.clsX fun B => cx_move_2 l D Y B sg al [] hlt (R.lw 3 (by decide)) (R.lw 1 (by decide)) u hu b g1)) (Nat.le_of_ble_eq_true rfl) (Nat.le_of_ble_eq_true rfl) (fun B => ct_move_1b l D Y B o ar mu (nI u) b a1 a2 g2)
  · exact ST.bad (R.thr 1) rI_at (by decide) (lx_move_1 l D Y A sg al o ao ar mu _ _ 0 (Nat.le_of_ble_eq_true rfl) (Nat.le_of_ble_eq_true rfl) (CT.clsX fun B => cx_move_1 l D Y B sg al [] hlt (R.lw 3 (by decide)) a h1 b)) (Nat.le_of_ble_eq_true rfl) (Nat.le_of_ble_eq_true rfl) (fun B => ct_move_1a l D Y B o ar mu a b h2)
set_option maxHeartbeats 2000000 in
theorem st_setFailing (hlt : l.stackTraces = false) (R : RI c sg mu) (hc : c < 600) (a h : Int32) (hh : h = 0 ∨ h = 1) : STv l D Y A sg al o ao ar mu c yL_setFailing (Cond.codeWith yL_setFailing cL_setFailing 4 (some .int) [(0, 6, 9, 25), (0, 6, 12, 19)]) [.ref (al 0 0), .int a, .int h] yX6_setFailing (Cond.code yX6_setFailing cX6_setFailing 3 none) [.ref o, .int a, .int h] := by
  obtain ⟨n5, n40⟩ := R.n5
  rcases ix_cs a n5 (by omega) with ⟨u, hu, rfl, a1, a2⟩ | ⟨h1, h2⟩
  · have hcl : (nI u).toNatClampNeg = u := nI_clamp (by omega)
    obtain ⟨ul, up, u16, u17, u18, u19, u20, -⟩ := R.1.2.1 u hu
    have e18 : mu.1 18 (nI u).toNatClampNeg = sg.1 5 u 6 := by rw [hcl]; exact u18
    have hin : vp_in (nI u) 40 := vp_in_nI (by omega) (by decide)
    by_cases hd : sg.1 5 u 6 = -1
    · exact STv.mk (R.thr2 0 2) (ph_same rfl (by decide) (by decide)) rI_at (lx_setFailing_2 l D Y A sg al o ao ar mu _ _ 0 (Nat.le_of_ble_eq_true rfl) (Nat.le_of_ble_eq_true rfl) (CT.clsX fun B => cx_setFailing_2 l D Y B sg al [] hlt (R.lw 3 (by decide)) u hu h hd)) (Nat.le_of_ble_eq_true rfl) (Nat.le_of_ble_eq_true rfl) (fun B => ct_setFailing_2 l D Y B o ar mu (nI u) h a1 a2 hin (e18.trans hd))
    · exact STv.mk ⟨(sim_setFailing R.1 hu hh).suc, R.2.cg rfl rfl rfl rfl⟩ (ph_same rfl (by decide) (by decide)) rfl (lo_setFailing l D Y A sg _ al o ao ar mu _ _ 0 (Nat.le_of_ble_eq_true rfl) (Nat.le_of_ble_eq_true rfl) (CT.cls0 fun B => cc_setFailing l D Y B sg al [] (R.lw 3 (by decide)) u hu h hh hd)) (Nat.le_of_ble_eq_true rfl) (Nat.le_of_ble_eq_true rfl) (fun B => ct_setFailing_ok l D Y B o ar mu (nI u) h a1 a2 hin (fun z => hd (e18.symm.trans z)))
  · exact STv.mk (R.thr 1) (ph_same rfl (by decide) (by decide)) rI_at (lx_setFailing_1 l D Y A sg al o ao ar mu _ _ 0 (Nat.le_of_ble_eq_true rfl) (Nat.le_of_ble_eq_true rfl) (CT.clsX fun B => cx_setFailing_1 l D Y B sg al [] hlt (R.lw 3 (by decide)) h a h1)) (Nat.le_of_ble_eq_true rfl) (Nat.le_of_ble_eq_true rfl) (fun B => ct_setFailing_1 l D Y B o ar mu a h h2)
set_option maxHeartbeats 2000000 in
theorem st_cancel (hlt : l.stackTraces = false) (R : RI c sg mu) (hc : c < 600) (a : Int32)  : ST l D Y A sg al o ao ar mu c yL_cancel (Cond.codeWith yL_cancel cL_cancel 4 (some .int) [(0, 9, 12, 25), (0, 9, 15, 19)]) [.ref (al 0 0), .int a, .ref ao] yX6_cancel (Cond.code yX6_cancel cX6_cancel 2 (some .int)) [.ref o, .int a] := by
  obtain ⟨n5, n40⟩ := R.n5
  rcases ix_cs a n5 (by omega) with ⟨u, hu, rfl, a1, a2⟩ | ⟨h1, h2⟩
  · have hcl : (nI u).toNatClampNeg = u := nI_clamp (by omega)
    obtain ⟨ul, up, u16, u17, u18, u19, u20, -⟩ := R.1.2.1 u hu
    have e18 : mu.1 18 (nI u).toNatClampNeg = sg.1 5 u 6 := by rw [hcl]; exact u18
    have hin : vp_in (nI u) 40 := vp_in_nI (by omega) (by decide)
    by_cases hd : sg.1 5 u 6 = -1
    · exact ST.bad (R.thr2 0 2) rI_at (by decide) (lx_cancel_2 l D Y A sg al o ao ar mu _ 0 (Nat.le_of_ble_eq_true rfl) (Nat.le_of_ble_eq_true rfl) (CT.clsX fun B => cx_cancel_2 l D Y B sg al [] hlt (R.lw 3 (by decide)) u hu hd)) (Nat.le_of_ble_eq_true rfl) (Nat.le_of_ble_eq_true rfl) (fun B => ct_cancel_2 l D Y B o ar mu (nI u) a1 a2 hin (e18.trans hd))
    · exact ST.good ⟨(sim_cancel R.1 hu).suc, R.2.cg rfl rfl rfl rfl⟩ (ph_same rfl (by decide) (by decide)) rfl (by rw [hcl]; exact u20) (lo_cancel l D Y A sg _ al o ao ar mu _ _ (Nat.le_of_ble_eq_true rfl) (Nat.le_of_ble_eq_true rfl) (CT.cls0 fun B => cc_cancel l D Y B sg al [] (R.lw 3 (by decide)) u hu hd)) (Nat.le_of_ble_eq_true rfl) (Nat.le_of_ble_eq_true rfl) (fun B => ct_cancel_ok l D Y B o ar mu (nI u) a1 a2 hin (fun z => hd (e18.symm.trans z)))
  · exact ST.bad (R.thr 1) rI_at (by decide) (lx_cancel_1 l D Y A sg al o ao ar mu _ 0 (Nat.le_of_ble_eq_true rfl) (Nat.le_of_ble_eq_true rfl) (CT.clsX fun B => cx_cancel_1 l D Y B sg al [] hlt (R.lw 3 (by decide)) a h1)) (Nat.le_of_ble_eq_true rfl) (Nat.le_of_ble_eq_true rfl) (fun B => ct_cancel_1 l D Y B o ar mu a h2)
set_option maxHeartbeats 2000000 in
theorem st_payments (hlt : l.stackTraces = false) (R : RI c sg mu) (hc : c < 600) (a : Int32)  : ST l D Y A sg al o ao ar mu c yL_payments (Cond.codeWith yL_payments cL_payments 4 (some .int) [(0, 9, 12, 25)]) [.ref (al 0 0), .int a, .ref ao] yX6_payments (Cond.code yX6_payments cX6_payments 2 (some .int)) [.ref o, .int a] := by
  obtain ⟨n5, n40⟩ := R.n5
  rcases ix_cs a n5 (by omega) with ⟨u, hu, rfl, a1, a2⟩ | ⟨h1, h2⟩
  · have hcl : (nI u).toNatClampNeg = u := nI_clamp (by omega)
    obtain ⟨ul, up, u16, u17, u18, u19, u20, -⟩ := R.1.2.1 u hu
    exact ST.good (R.thr 0) (ph_same rfl (by decide) (by decide)) rI_at (by rw [hcl]; exact u20) (lo_payments l D Y A sg _ al o ao ar mu _ _ (Nat.le_of_ble_eq_true rfl) (Nat.le_of_ble_eq_true rfl) (CT.cls0 fun B => cc_payments l D Y B sg al [] (R.lw 3 (by decide)) u hu)) (Nat.le_of_ble_eq_true rfl) (Nat.le_of_ble_eq_true rfl) (fun B => ct_payments1 l D Y B o ar mu (nI u) a1 a2 (vp_in_nI (N := 40) (by omega) (by decide)))
  · exact ST.bad (R.thr 1) rI_at (by decide) (lx_payments_1 l D Y A sg al o ao ar mu _ 0 (Nat.le_of_ble_eq_true rfl) (Nat.le_of_ble_eq_true rfl) (CT.clsX fun B => cx_payments l D Y B sg al [] hlt (R.lw 3 (by decide)) a h1)) (Nat.le_of_ble_eq_true rfl) (Nat.le_of_ble_eq_true rfl) (fun B => ct_payments0 l D Y B o ar mu a h2)
set_option maxHeartbeats 2000000 in
theorem st_next (hlt : l.stackTraces = false) (R : RI c sg mu) (hc : c < 600) (a : Int32)  : ST l D Y A sg al o ao ar mu c yL_next (Cond.codeWith yL_next cL_next 4 (some .int) [(0, 9, 12, 25)]) [.ref (al 0 0), .int a, .ref ao] yX6_next (Cond.code yX6_next cX6_next 2 (some .int)) [.ref o, .int a] := by
  obtain ⟨n5, n40⟩ := R.n5
  rcases ix_cs a n5 (by omega) with ⟨u, hu, rfl, a1, a2⟩ | ⟨h1, h2⟩
  · have hcl : (nI u).toNatClampNeg = u := nI_clamp (by omega)
    obtain ⟨ul, up, u16, u17, u18, u19, u20, -⟩ := R.1.2.1 u hu
    exact ST.good (R.thr 0) (ph_same rfl (by decide) (by decide)) rI_at (by rw [hcl]; exact u18) (lo_next l D Y A sg _ al o ao ar mu _ _ (Nat.le_of_ble_eq_true rfl) (Nat.le_of_ble_eq_true rfl) (CT.cls0 fun B => cc_next l D Y B sg al [] (R.lw 3 (by decide)) u hu)) (Nat.le_of_ble_eq_true rfl) (Nat.le_of_ble_eq_true rfl) (fun B => ct_next1 l D Y B o ar mu (nI u) a1 a2 (vp_in_nI (N := 40) (by omega) (by decide)))
  · exact ST.bad (R.thr 1) rI_at (by decide) (lx_next_1 l D Y A sg al o ao ar mu _ 0 (Nat.le_of_ble_eq_true rfl) (Nat.le_of_ble_eq_true rfl) (CT.clsX fun B => cx_next l D Y B sg al [] hlt (R.lw 3 (by decide)) a h1)) (Nat.le_of_ble_eq_true rfl) (Nat.le_of_ble_eq_true rfl) (fun B => ct_next0 l D Y B o ar mu a h2)
set_option maxHeartbeats 2000000 in
theorem st_payout (hlt : l.stackTraces = false) (R : RI c sg mu) (hc : c < 600) (a b : Int32)  : ST l D Y A sg al o ao ar mu c yL_payout (Cond.codeWith yL_payout cL_payout 5 (some .int) [(0, 10, 13, 25), (0, 10, 17, 13)]) [.ref (al 0 0), .int a, .int b, .ref ao] yX6_payout (Cond.code yX6_payout cX6_payout 3 (some .int)) [.ref o, .int a, .int b] := by
  obtain ⟨n2, n6⟩ := R.n2
  obtain ⟨d, hd, d1, d2⟩ := R.dd
  rcases ix_cs a n2 (by omega) with ⟨i, hi, rfl, a1, a2⟩ | ⟨h1, h2⟩
  · have hz : sg.1 0 0 5 / 30 = nI (d / 30) := by rw [d1]; exact pk_div (a := d) (d := 30) (by omega) (by decide) (by decide)
    have hy : mu.1 0 0 / 30 = nI (d / 30) := by rw [d2]; exact pk_div (a := d) (d := 30) (by omega) (by decide) (by decide)
    rcases ix_cs b hz (by omega) with ⟨j, hj, rfl, b1, b2⟩ | ⟨g1, g2⟩
    · obtain ⟨m1, m2, m3, m4, m5⟩ := R.1.1.2.2.2.1 i hi
      exact ST.good (R.thr 0) (ph_same rfl (by decide) (by decide)) rI_at (by rw [show (120 : Int32) * nI i + nI j = nI (120 * i + j) from (congrArg (fun z => z + nI j) (pk_mul 120 i)).trans (nI_add _ _), nI_clamp (by omega), nI_clamp (by omega)]; exact m5 j (by omega)) (lo_payout l D Y A sg _ al o ao ar mu _ _ _ (Nat.le_of_ble_eq_true rfl) (Nat.le_of_ble_eq_true rfl) (CT.cls0 fun B => cc_payout l D Y B sg al [] (R.lw 0 (by decide)) i j hi (by omega) b2)) (Nat.le_of_ble_eq_true rfl) (Nat.le_of_ble_eq_true rfl) (fun B => ct_payout_ok l D Y B o ar mu (nI i) (nI j) a1 a2 b1 (by rw [hy, ← hz]; exact b2) (vp_m120 (by omega) (by omega)))
    · exact ST.bad (R.thr 2) rI_at (by decide) (lx_payout_2 l D Y A sg al o ao ar mu _ _ 0 (Nat.le_of_ble_eq_true rfl) (Nat.le_of_ble_eq_true rfl) (CT.clsX fun B => cx_payout_2 l D Y B sg al [] hlt (R.lw 0 (by decide)) i hi b g2)) (Nat.le_of_ble_eq_true rfl) (Nat.le_of_ble_eq_true rfl) (fun B => ct_payout_2 l D Y B o ar mu (nI i) b a1 a2 (by rw [hy, ← hz]; exact g2))
  · exact ST.bad (R.thr 1) rI_at (by decide) (lx_payout_1 l D Y A sg al o ao ar mu _ _ 0 (Nat.le_of_ble_eq_true rfl) (Nat.le_of_ble_eq_true rfl) (CT.clsX fun B => cx_payout_1 l D Y B sg al [] hlt (R.lw 0 (by decide)) a h1 b)) (Nat.le_of_ble_eq_true rfl) (Nat.le_of_ble_eq_true rfl) (fun B => ct_payout_1 l D Y B o ar mu a b h2)
set_option maxHeartbeats 2000000 in
theorem st_carried (hlt : l.stackTraces = false) (R : RI c sg mu) (hc : c < 600) (a : Int32)  : ST l D Y A sg al o ao ar mu c yL_carried (Cond.codeWith yL_carried cL_carried 4 (some .int) [(0, 9, 12, 25)]) [.ref (al 0 0), .int a, .ref ao] yX6_carried (Cond.code yX6_carried cX6_carried 2 (some .int)) [.ref o, .int a] := by
  obtain ⟨n2, n6⟩ := R.n2
  rcases ix_cs a n2 (by omega) with ⟨i, hi, rfl, a1, a2⟩ | ⟨h1, h2⟩
  · have hcl : (nI i).toNatClampNeg = i := nI_clamp (by omega)
    obtain ⟨m1, m2, m3, m4, m5⟩ := R.1.1.2.2.2.1 i hi
    exact ST.good (R.thr 0) (ph_same rfl (by decide) (by decide)) rI_at (by rw [hcl]; exact m4) (lo_carried l D Y A sg _ al o ao ar mu _ _ (Nat.le_of_ble_eq_true rfl) (Nat.le_of_ble_eq_true rfl) (CT.cls0 fun B => cc_carried l D Y B sg al [] (R.lw 0 (by decide)) i hi)) (Nat.le_of_ble_eq_true rfl) (Nat.le_of_ble_eq_true rfl) (fun B => ct_carried1 l D Y B o ar mu (nI i) a1 a2 (vp_in_nI (N := 6) (by omega) (by decide)))
  · exact ST.bad (R.thr 1) rI_at (by decide) (lx_carried_1 l D Y A sg al o ao ar mu _ 0 (Nat.le_of_ble_eq_true rfl) (Nat.le_of_ble_eq_true rfl) (CT.clsX fun B => cx_carried l D Y B sg al [] hlt (R.lw 0 (by decide)) a h1)) (Nat.le_of_ble_eq_true rfl) (Nat.le_of_ble_eq_true rfl) (fun B => ct_carried0 l D Y B o ar mu a h2)
set_option maxHeartbeats 2000000 in
theorem st_balance (hlt : l.stackTraces = false) (R : RI c sg mu) (hc : c < 600) (a : Int32)  : ST l D Y A sg al o ao ar mu c yL_balance (Cond.codeWith yL_balance cL_balance 4 (some .int) [(0, 9, 12, 25)]) [.ref (al 0 0), .int a, .ref ao] yX6_balance (Cond.code yX6_balance cX6_balance 2 (some .int)) [.ref o, .int a] := by
  obtain ⟨n2, n6⟩ := R.n2
  rcases ix_cs a n2 (by omega) with ⟨i, hi, rfl, a1, a2⟩ | ⟨h1, h2⟩
  · have hcl : (nI i).toNatClampNeg = i := nI_clamp (by omega)
    obtain ⟨m1, m2, m3, m4, m5⟩ := R.1.1.2.2.2.1 i hi
    exact ST.good (R.thr 0) (ph_same rfl (by decide) (by decide)) rI_at (by rw [hcl]; exact (by rw [m3, m4])) (lo_balance l D Y A sg _ al o ao ar mu _ _ (Nat.le_of_ble_eq_true rfl) (Nat.le_of_ble_eq_true rfl) (CT.cls0 fun B => cc_balance l D Y B sg al [] (R.lw 0 (by decide)) i hi)) (Nat.le_of_ble_eq_true rfl) (Nat.le_of_ble_eq_true rfl) (fun B => ct_balance1 l D Y B o ar mu (nI i) a1 a2 (vp_in_nI (N := 6) (by omega) (by decide)))
  · exact ST.bad (R.thr 1) rI_at (by decide) (lx_balance_1 l D Y A sg al o ao ar mu _ 0 (Nat.le_of_ble_eq_true rfl) (Nat.le_of_ble_eq_true rfl) (CT.clsX fun B => cx_balance l D Y B sg al [] hlt (R.lw 0 (by decide)) a h1)) (Nat.le_of_ble_eq_true rfl) (Nat.le_of_ble_eq_true rfl) (fun B => ct_balance0 l D Y B o ar mu a h2)
set_option maxHeartbeats 2000000 in
theorem st_heldTax (hlt : l.stackTraces = false) (R : RI c sg mu) (hc : c < 600) (a : Int32)  : ST l D Y A sg al o ao ar mu c yL_heldTax (Cond.codeWith yL_heldTax cL_heldTax 4 (some .int) [(0, 9, 12, 13)]) [.ref (al 0 0), .int a, .ref ao] yX6_heldTax (Cond.code yX6_heldTax cX6_heldTax 2 (some .int)) [.ref o, .int a] := by
  by_cases ha : 0 ≤ a ∧ a ≤ 4
  · obtain ⟨j, hj, rfl⟩ := rg_cs (N := 4) a rfl ha
    have hcl : (nI j).toNatClampNeg = j := nI_clamp (by omega)
    obtain ⟨-, -, m3⟩ := R.1.1.2.2.1 j (by omega)
    exact ST.good (R.thr 0) (ph_same rfl (by decide) (by decide)) rI_at (by rw [hcl]; exact m3) (lo_heldTax l D Y A sg _ al o ao ar mu _ _ (Nat.le_of_ble_eq_true rfl) (Nat.le_of_ble_eq_true rfl) (CT.cls0 fun B => cc_heldTax l D Y B sg al [] j (by omega))) (Nat.le_of_ble_eq_true rfl) (Nat.le_of_ble_eq_true rfl) (fun B => ct_heldTax1 l D Y B o ar mu (nI j) ha.1 ha.2 (vp_in_nI (N := 5) (by omega) (by decide)))
  · exact ST.bad (R.thr 1) rI_at (by decide) (lx_heldTax_1 l D Y A sg al o ao ar mu _ 0 (Nat.le_of_ble_eq_true rfl) (Nat.le_of_ble_eq_true rfl) (CT.clsX fun B => cx_heldTax l D Y B sg al [] hlt a ha)) (Nat.le_of_ble_eq_true rfl) (Nat.le_of_ble_eq_true rfl) (fun B => ct_heldTax0 l D Y B o ar mu a ha)
set_option maxHeartbeats 2000000 in
theorem st_pass (hlt : l.stackTraces = false) (R : RI c sg mu) (hc : c < 600) (a : Int32)  : ST l D Y A sg al o ao ar mu c yL_pass (Cond.codeWith yL_pass cL_pass 4 (some .int) [(0, 9, 12, 13), (0, 9, 15, 19)]) [.ref (al 0 0), .int a, .ref ao] yX6_pass (Cond.code yX6_pass cX6_pass 5 (some .int)) [.ref o, .int a] := by
  by_cases ha : 1 ≤ a ∧ a ≤ 400
  · obtain ⟨q, hq, rfl⟩ := rg_cs (N := 400) a rfl ⟨Int32.le_trans (by decide) ha.1, ha.2⟩
    have hq1 : 1 ≤ q := (nI_leI (a := 1) (by decide) (by omega)).mp ha.1
    obtain ⟨d, hd, d1, d2⟩ := R.dd
    by_cases h36 : d + q ≤ 3600
    · obtain ⟨s1, s2, s3⟩ := sim_pass (mu := rI mu 25 0 0) (R.1.thr 0) hc d1 h36 q (Nat.le_refl _)
      have hz := RZ_pass (mu := rI mu 25 0 0) (R.1.thr 0) hc d1 h36 R.2 q (Nat.le_refl _)
      exact ST.good ⟨s1.suc, (pass_N2 sg q) ▸ hz⟩ (ph_pass sg q) (by rw [r_passN_ne _ _ _ 25 (by decide)]; rfl) s2 (lo_pass l D Y A sg _ al o ao ar mu _ _ (Nat.le_of_ble_eq_true rfl) (Nat.le_of_ble_eq_true rfl) (CT.cls2 fun B => cc_pass l D Y B sg al q d (R.lw 0 (by decide)) (R.lw 3 (by decide)) d1 hq1 hq h36 (fun i hi => (s3 i hi).1))) (Nat.le_of_ble_eq_true rfl) (Nat.le_of_ble_eq_true rfl) (fun B => ct_pass_ok l D Y B o ar mu (sN sg 2) (sN sg 5) q d R.n2.1 R.n2.2 R.n5.1 R.n5.2 d2 hq1 hq h36 (fun k hk => (s3 k hk).2))
    · have hb : ∀ x : Int32, x = nI d → ¬ x + nI q ≤ 3600 := fun x hx z => h36 ((nI_leI (b := 3600) (by omega) (by decide)).mp (by rw [hx, nI_add] at z; exact z))
      exact ST.bad (R.thr 2) rI_at (by decide) (lx_pass_2 l D Y A sg al o ao ar mu _ 0 (Nat.le_of_ble_eq_true rfl) (Nat.le_of_ble_eq_true rfl) (CT.clsX fun B => cx_pass_2 l D Y B sg al [] hlt (nI q) ha.1 ha.2 (hb _ d1))) (Nat.le_of_ble_eq_true rfl) (Nat.le_of_ble_eq_true rfl) (fun B => ct_pass_2 l D Y B o ar mu q hq1 hq (hb _ d2))
  · exact ST.bad (R.thr 1) rI_at (by decide) (lx_pass_1 l D Y A sg al o ao ar mu _ 0 (Nat.le_of_ble_eq_true rfl) (Nat.le_of_ble_eq_true rfl) (CT.clsX fun B => cx_pass_1 l D Y B sg al [] hlt a ha)) (Nat.le_of_ble_eq_true rfl) (Nat.le_of_ble_eq_true rfl) (fun B => ct_pass_1 l D Y B o ar mu a ha)
end STT
