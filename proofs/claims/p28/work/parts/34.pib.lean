/-! the relation, potentials, room -/
def RI (c : Nat) (sg : Sg) (mu : Rm) : Prop := RA c sg mu ∧ RZ (sN sg 2) mu
theorem phC_ex : ∃ f : Sg → Nat, ∀ sg, f sg = phc sg + (sC sg 0 + sC sg 1 + sC sg 3) := ⟨_, fun _ => rfl⟩
theorem phS_ex : ∃ f : Sg → Nat, ∀ sg, f sg = phs sg + 4 * (sC sg 0 + sC sg 1 + sC sg 3) := ⟨_, fun _ => rfl⟩
/-- cells and slots of all that grows -/
noncomputable def phC : Sg → Nat := Classical.choose phC_ex
noncomputable def phS : Sg → Nat := Classical.choose phS_ex
theorem phC_eq (sg : Sg) : phC sg = phc sg + (sC sg 0 + sC sg 1 + sC sg 3) := Classical.choose_spec phC_ex sg
theorem phS_eq (sg : Sg) : phS sg = phs sg + 4 * (sC sg 0 + sC sg 1 + sC sg 3) := Classical.choose_spec phS_ex sg
theorem phC_at (sg : Sg) : phC sg = (sN sg 4 + sC sg 2) + (sC sg 0 + sC sg 1 + sC sg 3) := (phC_eq sg).trans (by rw [phc_eq])
theorem phS_at (sg : Sg) : phS sg = (9 * sN sg 4 + 4 * sC sg 2) + 4 * (sC sg 0 + sC sg 1 + sC sg 3) := (phS_eq sg).trans (by rw [phs_eq])
theorem ph_gen {sg sg' : Sg} {a b c d e a' b' c' d' e' mc ms : Nat} (h4 : sN sg 4 = a) (h2 : sC sg 2 = b) (h0 : sC sg 0 = c) (h1 : sC sg 1 = d) (h3 : sC sg 3 = e) (g4 : sN sg' 4 = a') (g2 : sC sg' 2 = b') (g0 : sC sg' 0 = c') (g1 : sC sg' 1 = d') (g3 : sC sg' 3 = e')
    (hc : (a + b) + (c + d + e) + mc ≤ (a' + b') + (c' + d' + e') + 20) (hs : (9 * a + 4 * b) + 4 * (c + d + e) + ms ≤ (9 * a' + 4 * b') + 4 * (c' + d' + e') + 200) : phC sg + mc ≤ phC sg' + 20 ∧ phS sg + ms ≤ phS sg' + 200 := by
  rw [phC_at, phC_at, phS_at, phS_at, h4, h2, h0, h1, h3, g4, g2, g0, g1, g3]
  exact ⟨hc, hs⟩
theorem ph_same {sg sg' : Sg} {mc ms : Nat} (e : sg'.2 = sg.2) (hc : mc ≤ 20) (hs : ms ≤ 200) : phC sg + mc ≤ phC sg' + 20 ∧ phS sg + ms ≤ phS sg' + 200 :=
  ph_gen rfl rfl rfl rfl rfl (N_eq e 4) (congrFun (congrFun (congrFun e 22) 2) 0) (congrFun (congrFun (congrFun e 22) 0) 0) (congrFun (congrFun (congrFun e 22) 1) 0) (congrFun (congrFun (congrFun e 22) 3) 0) (Nat.add_le_add_left hc _) (Nat.add_le_add_left hs _)
theorem nI_pp (n : Nat) : nI n + 1 - 1 = nI n := by
  rw [nI_1]
  exact nI_pred n
theorem ix_cs (x : Int32) {n : Nat} {z : Int32} (hz : z = nI n) (hn : n < 2 ^ 31) : (∃ i : Nat, i < n ∧ x = nI i ∧ 0 ≤ x ∧ x ≤ z - 1) ∨ (¬ (0 ≤ x ∧ x < nI n) ∧ ¬ (0 ≤ x ∧ x ≤ z - 1)) := by
  subst hz
  rcases pk_ix x hn with h | h | ⟨j, hj, rfl⟩
  · exact Or.inr ⟨fun a => absurd a.1 (Int32.not_le.mpr h), fun a => absurd a.1 (Int32.not_le.mpr h)⟩
  · refine Or.inr ⟨fun a => absurd a.2 (Int32.not_lt.mpr h), fun a => ?_⟩
    cases n with
    | zero => exact absurd (Int32.le_trans a.1 a.2) (by decide)
    | succ n =>
      rw [nI_pred] at a
      exact absurd ((nI_leI hn (by omega)).mp (Int32.le_trans h a.2)) (by omega)
  · refine Or.inl ⟨j, hj, rfl, nI_pos' (by omega), ?_⟩
    obtain ⟨q, rfl⟩ : ∃ q, n = q + 1 := ⟨n - 1, by omega⟩
    rw [nI_pred]
    exact nI_le (by omega) (by omega)
theorem rg_cs (x : Int32) {B : Int32} {N : Nat} (hB : B.toInt = N) (h : 0 ≤ x ∧ x ≤ B) : ∃ j : Nat, j ≤ N ∧ x = nI j := nI_of2 hB (Int32.not_lt.mpr h.1) h.2
section RIF
variable {c : Nat} {sg : Sg} {mu : Rm}
theorem RI.lw (R : RI c sg mu) (L : Nat) (hL : L < 4) : lw sg L := R.1.1.2.2.2.2.2.2 L hL
theorem RI.n2 (R : RI c sg mu) : mu.1 4 0 = nI (sN sg 2) ∧ sN sg 2 ≤ 6 := R.1.1.1.1
theorem RI.n3 (R : RI c sg mu) : mu.1 10 0 = nI (sN sg 3) ∧ sN sg 3 ≤ 20 := R.1.1.1.2.1
theorem RI.n4 (R : RI c sg mu) : mu.1 13 0 = nI (sN sg 4) := R.1.1.1.2.2.1
theorem RI.n5 (R : RI c sg mu) : mu.1 15 0 = nI (sN sg 5) ∧ sN sg 5 ≤ 40 := R.1.1.1.2.2.2.1
theorem RI.dd (R : RI c sg mu) : ∃ d : Nat, d ≤ 3600 ∧ sg.1 0 0 5 = nI d ∧ mu.1 0 0 = nI d := R.1.1.1.2.2.2.2
theorem RI.lt (R : RI c sg mu) (hc : c < 600) : sN sg 4 < 5400 := R.1.lt hc
theorem RI.thr (R : RI c sg mu) (x : Int32) : RI (c + 1) sg (rI mu 25 0 x) := ⟨(R.1.thr x).suc, R.2⟩
theorem RI.thr2 (R : RI c sg mu) (y x : Int32) : RI (c + 1) sg (rI (rI mu 25 0 y) 25 0 x) := ⟨((R.1.thr y).thr x).suc, R.2⟩
theorem RI.r3 (R : RI c sg mu) : ∀ i, i < sN sg 3 → sg.2 3 i 1 < sN sg 2 := fun i hi => (R.1.1.2.2.2.2.1 i hi).1
theorem RI.r4 (R : RI c sg mu) : ∀ i, i < sN sg 4 → sg.2 4 i 0 < sN sg 2 := fun i hi => by
  obtain ⟨a, b, c', m, k, l, h, z, B, w, s2, s3, s4, s5, s6, s7, s8, k0, l0, kl⟩ := R.1.1.2.2.2.2.2.1 i hi
  rw [k0]; exact kl
theorem RI.r5 (R : RI c sg mu) : ∀ i, i < sN sg 5 → sg.2 5 i 2 < sN sg 3 := fun i hi => (R.1.2.1 i hi).2.1
theorem not_lt6 {n N : Nat} {B : Int32} (hB : B = nI N) (hn : N ≤ n) (h : n < 2 ^ 31) : ¬ nI n < B := by rw [hB]; exact nI_nlt hn h
end RIF
theorem up3_2k {f : Nat → Nat → Nat → Nat} {k i j v k' i' j' : Nat} (h : ¬ (k' = k ∧ i' = i ∧ j' = j)) : up3 f k i j v k' i' j' = f k' i' j' := if_neg h
theorem ph_addG {S sg : Sg} {L x y : Nat} (hL : L = 0 ∨ L = 1 ∨ L = 3) (hN : sN S 4 = sN sg 4) (hC : ∀ q, sC S q = sC sg q) (hF : sF S L = sF sg L) (hx : x ≤ 20) (hy : y ≤ 200) : phC sg + (x + (capN sg L - sC sg L)) ≤ phC (c_add S L) + 20 ∧ phS sg + (y + 4 * (capN sg L - sC sg L)) ≤ phS (c_add S L) + 200 := by
  have hcap : capN S L = capN sg L := by unfold capN; rw [hC, hF]
  have h4 : sN (c_add S L) 4 = sN sg 4 := (c_add_2o S L 20 4 0 (Or.inl (by decide))).trans hN
  have ho : ∀ q, q ≠ L → sC (c_add S L) q = sC sg q := fun q hq => (c_add_2o S L 22 q 0 (Or.inr hq)).trans (hC q)
  have hs : sC (c_add S L) L = capN sg L := by
    rw [← hcap]
    show up3 (up3 (up3 S.2 22 L 0 (capN S L)) 23 L 0 (sF S L + 1)) 21 L 0 (sF S L + 1) 22 L 0 = capN S L
    rw [up3_2k (fun z => absurd z.1 (by decide)), up3_2k (fun z => absurd z.1 (by decide)), up3_at]
  have hle := capN_le sg L
  rcases hL with rfl | rfl | rfl
  · exact ph_gen rfl rfl rfl rfl rfl h4 (ho 2 (by decide)) hs (ho 1 (by decide)) (ho 3 (by decide)) (by omega) (by omega)
  · exact ph_gen rfl rfl rfl rfl rfl h4 (ho 2 (by decide)) (ho 0 (by decide)) hs (ho 3 (by decide)) (by omega) (by omega)
  · exact ph_gen rfl rfl rfl rfl rfl h4 (ho 2 (by decide)) (ho 0 (by decide)) (ho 1 (by decide)) hs (by omega) (by omega)
theorem ph_add0 (sg : Sg) (t : Int32) : phC sg + (2 + (capN sg 0 - sC sg 0)) ≤ phC (c_add (n_maker sg t) 0) + 20 ∧ phS sg + (125 + 4 * (capN sg 0 - sC sg 0)) ≤ phS (c_add (n_maker sg t) 0) + 200 := ph_addG (Or.inl rfl) rfl (fun q => rfl) rfl (by decide) (by decide)
theorem ph_add1 (sg : Sg) (i : Nat) (v : Int32) : phC sg + (2 + (capN sg 1 - sC sg 1)) ≤ phC (c_add (n_prod sg i v) 1) + 20 ∧ phS sg + (8 + 4 * (capN sg 1 - sC sg 1)) ≤ phS (c_add (n_prod sg i v) 1) + 200 := ph_addG (Or.inr (Or.inl rfl)) rfl (fun q => rfl) rfl (by decide) (by decide)
theorem ph_add3 (sg : Sg) (j i : Nat) (g : Nat → Int32) : phC sg + (1 + (capN sg 3 - sC sg 3)) ≤ phC (c_add (n_sub sg j i g) 3) + 20 ∧ phS sg + (7 + 4 * (capN sg 3 - sC sg 3)) ≤ phS (c_add (n_sub sg j i g) 3) + 200 := ph_addG (Or.inr (Or.inr rfl)) rfl (fun q => rfl) rfl (by decide) (by decide)
theorem ph_sell (sg : Sg) (p j : Nat) (v lt : Int32) : phC sg + (1 + (capN sg 2 - sC sg 2)) ≤ phC (c_sell sg p j v lt) + 20 ∧ phS sg + (9 + 4 * (capN sg 2 - sC sg 2)) ≤ phS (c_sell sg p j v lt) + 200 := by
  have ho : ∀ q, q ≠ 2 → sC (c_sell sg p j v lt) q = sC sg q := fun q hq => c_sell_2 sg p j v lt 22 q 0 (by decide) (fun z => absurd z (by decide)) (fun _ => hq)
  have hle := capN_le sg 2
  exact ph_gen rfl rfl rfl rfl rfl (c_sell_N sg p j v lt) (c_sell_C sg p j v lt) (ho 0 (by decide)) (ho 1 (by decide)) (ho 3 (by decide)) (by omega) (by omega)
theorem sell_N2 (sg : Sg) (p j : Nat) (v lt : Int32) : sN sg 2 = sN (c_sell sg p j v lt) 2 := (c_sell_2 sg p j v lt 20 2 0 (by decide) (fun _ => by decide) (fun z => absurd z (by decide))).symm
theorem pass_N2 (sg : Sg) (q : Nat) : sN sg 2 = sN (c_passN sg q).2 2 := (c_passN_2 sg 20 2 0 (by decide) (fun _ => by decide) (fun z => absurd z (by decide)) q).symm
theorem ph_pass (sg : Sg) (q : Nat) : phC sg + (phc (c_passN sg q).2 - phc sg) ≤ phC (c_passN sg q).2 + 20 ∧ phS sg + (phs (c_passN sg q).2 - phs sg) ≤ phS (c_passN sg q).2 + 200 := by
  have ho : ∀ L, L ≠ 2 → sC (c_passN sg q).2 L = sC sg L := fun L hL => c_passN_2 sg 22 L 0 (by decide) (fun z => absurd z (by decide)) (fun _ => hL) q
  obtain ⟨g1, g2⟩ := c_passN_le sg (Nat.zero_le q)
  have g1 : phc sg ≤ phc (c_passN sg q).2 := g1
  have g2 : phs sg ≤ phs (c_passN sg q).2 := g2
  rw [phC_eq, phC_eq, phS_eq, phS_eq, ho 0 (by decide), ho 1 (by decide), ho 3 (by decide)]
  generalize phc (c_passN sg q).2 = x at *
  generalize phs (c_passN sg q).2 = y at *
  omega
theorem ph_move (sg : Sg) (u i : Nat) : phC sg + 0 ≤ phC (sP sg 5 u 2 i) + 20 ∧ phS sg + 0 ≤ phS (sP sg 5 u 2 i) + 200 := ph_gen rfl rfl rfl rfl rfl (a' := sN sg 4) (b' := sC sg 2) (c' := sC sg 0) (d' := sC sg 1) (e' := sC sg 3) rfl rfl rfl rfl rfl (by omega) (by omega)
theorem rp_ne (mu : Rm) (i : Nat) (x b v y : Int32) (f : Nat) (h10 : f ≠ 10) (h11 : f ≠ 11) (h12 : f ≠ 12) (h25 : f ≠ 25) : (rI (r_fillP (rI (rI mu 25 0 0) 11 i x) b v 5) 10 0 y).1 f = mu.1 f := by
  rw [rI_o _ _ _ _ h10, r_fillP_ne _ _ _ f h12, rI_o _ _ _ _ h11, rI_o _ _ _ _ h25]
theorem tax_ne {x : Int32} {q : Nat} (e : x = nI q) (hq : q ≤ 30) : 0 < 100 + x := by
  rw [e, show (100 : Int32) + nI q = nI (100 + q) from nI_add 100 q]
  exact nI_lt (a := 0) (by omega) (by omega)
theorem bit_cs {x : Int32} {w : Nat} (e : x = nI (1 - w)) (hw : w < 2) : x = 0 ∨ x = 1 := by
  rcases (show w = 0 ∨ w = 1 by omega) with rfl | rfl
  · exact Or.inr e
  · exact Or.inl e
theorem refund_Z {mu : Rm} {N k i : Nat} {s w : Int64} (Z : RZ N mu) (hN : N ≤ 6) (hk : r_part s 54 3 = nI k) (hkN : k < N) : RZ N (rR (r_counts (rI mu 25 0 0) s (-1)) i w) := by
  intro x hx hx6
  obtain ⟨z6, z7, z8, z9⟩ := Z x hx hx6
  have o : ∀ f, f ≠ 3 → f ≠ 7 → f ≠ 23 → f ≠ 24 → f ≠ 25 → (r_counts (rI mu 25 0 0) s (-1)).1 f = mu.1 f := fun f h3 h7 h23 h24 h25 => (rc_o _ _ _ f h3 h7 h23 h24).trans (if_neg h25)
  refine ⟨?_, ?_, ?_, fun m hm => ?_⟩
  · show (r_counts (rI mu 25 0 0) s (-1)).1 6 x = 0
    rw [o 6 (by decide) (by decide) (by decide) (by decide) (by decide)]; exact z6
  · show (r_counts (rI mu 25 0 0) s (-1)).1 7 x = 0
    rw [rc_7 _ _ _ hk (by omega) x, if_neg (by omega)]; exact z7
  · show (r_counts (rI mu 25 0 0) s (-1)).1 8 x = 0
    rw [o 8 (by decide) (by decide) (by decide) (by decide) (by decide)]; exact z8
  · show (r_counts (rI mu 25 0 0) s (-1)).1 9 (120 * x + m) = 0
    rw [o 9 (by decide) (by decide) (by decide) (by decide) (by decide)]; exact z9 m hm
noncomputable def kkC (c : Nat) (sg : Sg) : Nat := 40 + 20 * c + phC sg
noncomputable def kkS (c : Nat) (sg : Sg) : Nat := 6640 + 200 * c + phS sg
theorem kk_room {c : Nat} {sg : Sg} {mu : Rm} (R : RI c sg mu) (hc : c < 600) : kkC c sg ≤ 684780 ∧ kkS c sg ≤ 7047283 := by
  have h4 := R.lt hc
  have b0 := (R.lw 0 (by decide)).2.2.2.2
  have b1 := (R.lw 1 (by decide)).2.2.2.2
  have b2 := (R.lw 2 (by decide)).2.2.2.2
  have b3 := (R.lw 3 (by decide)).2.2.2.2
  unfold kkC kkS
  rw [phC_at, phS_at]
  generalize sC sg 0 = x0 at *
  generalize sC sg 1 = x1 at *
  generalize sC sg 2 = x2 at *
  generalize sC sg 3 = x3 at *
  generalize sN sg 4 = x4 at *
  omega
theorem kk_up {c mc ms : Nat} {sg sg' : Sg} {mu' : Rm} (h : phC sg + mc ≤ phC sg' + 20 ∧ phS sg + ms ≤ phS sg' + 200) (R : RI (c + 1) sg' mu') (hc : c < 590) : (kkC c sg + mc ≤ kkC (c + 1) sg' ∧ kkS c sg + ms ≤ kkS (c + 1) sg') ∧ (kkC c sg + mc ≤ 684780 ∧ kkS c sg + ms ≤ 7047283) ∧ (kkC (c + 1) sg' ≤ 684780 ∧ kkS (c + 1) sg' ≤ 7047283) := by
  have hr := kk_room R (by omega)
  unfold kkC kkS at hr ⊢
  generalize phC sg = x0 at *
  generalize phC sg' = x1 at *
  generalize phS sg = x2 at *
  generalize phS sg' = x3 at *
  omega
section KGR
variable {p : Program} {l : Launch} {e : Env} {R : Room} {s : State} {m : MethodId} {args : Array Value} {below : List Frame} {meth : Method} {c : Code} {Q : State → Prop}
variable {A : Nat → Prop} {V : Heap → Prop} {k n nL pc : Nat} {lv : List (Nat × Value)} {st rest : List Value} {cc : ByteArray} {own : String} {D : va_G} {Y : Nat → Nat}
/-- a static call of a method with handlers -/
theorem k_callSW (C0 : CallFix p m c cc nL s args TT own) (K0 : PK D Y A s) {idx maxL F LOC mc ms : Nat} {y : MethodName} {bytes : ByteArray} {ret : Option FieldType} {hh : List (Nat × Nat × Nat × Nat)} {as : List Value} {S : Type} {rv : S → Option Value} {V' : S → Heap → Prop} {VX : String → Heap → Prop} {st0 : List Value}
    (d : decode cc pc = .ok (.invokestatic idx, 3)) (hM : CT l y (Cond.codeWith y bytes maxL ret hh) F LOC D Y A as V rv V' VX mc ms)
    (hw : GoodIn TT (va_wsS own idx y (Cond.codeWith y bytes maxL ret hh :: TT))) (hy : y.cls ≠ "java/lang/invoke/MethodHandle" ∧ y.cls ≠ "java/lang/invoke/VarHandle" ∧ (parseMethodDescriptor y.desc).map (fun d => d.parameters.length) = some as.length)
    (hst : st0 = as.reverse ++ rest) (hcat : (rest.map fun v => v.category).sum ≤ 8)
    (hR : F + 1 ≤ R.frames ∧ 8 + (maxL + 11) + LOC ≤ R.locals) (hf : k + mc ≤ R.cells ∧ n + ms ≤ R.slots)
    (kx : ∀ E, kX p l e R s m args below meth c Q A nL (VX E) (k + mc) (n + ms) pc lv E)
    (kk : ∀ u, kG p l e R s m args below meth c Q A nL (V' u) (k + mc) (n + ms) (pc + 3) lv ((rv u).toList ++ rest)) : kG p l e R s m args below meth c Q A nL V k n pc lv st0 :=
  k_run (a := as.toArray) (fun H locs ls hV hS hl => vx_runSX C0 hM (vx_cwSW as.length C0.2.2.2.2 hw rfl rfl rfl hy hR) ⟨k_blind, fun U hU hW => ⟨rfl, by rw [hU]; exact hV, K0.next hW (by rw [hU]; exact hS)⟩⟩ rfl rfl hl.1 hst (lv_room hcat) d hf) kx kk
/-- a contract out of its body's walk, of a method with handlers -/
theorem CT.ofH {l : Launch} {y : MethodName} {cc : ByteArray} {maxL : Nat} {ret : Option FieldType} {hh : List (Nat × Nat × Nat × Nat)} {F LOC mc ms : Nat} {As : List Value} {V : Heap → Prop} {S : Type} {rv : S → Option Value} {V' : S → Heap → Prop} {VX : String → Heap → Prop} (hy : plainName y.cls = true) (hAs : (lg_sl As).length ≤ maxL)
    (body : ∀ (p : Program) (e : Env) (s : State) (m : MethodId) (below : List Frame) (meth : Method) (c : Code), CallFix p m c cc maxL s As.toArray TT y.cls → PK D Y A s → meth.sig.returnType = ret → meth.locks = false → c.exceptionTable.toList = tableOf hh →
      kG p l e { frames := F, cells := mc, slots := ms, locals := LOC } s m As.toArray below meth c (kQ below rv V' VX A As.toArray s mc ms) A maxL V 0 0 0 (lv_args 0 As) []) :
    CT l y (Cond.codeWith y cc maxL ret hh) F LOC D Y A As V rv V' VX mc ms := by
  refine vx_ofWH (cc := cc) (maxL := maxL) (ret := ret) (hh := hh) hy rfl ?_
  intro p e s m args below meth c s₁ B hml hv
  obtain ⟨rfl, hV0, hK⟩ := hv
  have hts := atoms_spec (ws := Cond.codeWith y cc maxL ret hh :: TT) B.pre
  have h := body p e s m below meth c ⟨B.exec, B.bytes, hml, findClass_of_methodNamed B.named, fun w hw => hts w (List.mem_cons_of_mem _ hw)⟩ hK B.returns B.notSynchronized (vx_table (x := y) B (hts _ List.mem_cons_self))
  rw [lg_entry_eq]
  exact h s.heap [] _ hV0 va_S.rf (lv_entry As hAs)
end KGR
