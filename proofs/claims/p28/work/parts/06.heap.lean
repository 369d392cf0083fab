/-! rows that touch the heap: V says what the cell holds, V' what holds behind a store -/
section KH
variable {p : Program} {l : Launch} {e : Env} {R : Room} {s : State} {m : MethodId} {args : Array Value} {below : List Frame} {meth : Method} {c : Code} {Q : State → Prop}
variable {A : Nat → Prop} {V V' : Heap → Prop} {k n nL pc : Nat} {lv : List (Nat × Value)} {st rest : List Value} {cc : ByteArray} {own : String} {D : va_G} {Y : Nat → Nat} {a : Nat}
theorem at_P {q : Nat × va_E} {H : Heap} (h : va_at D vwCl q H) : va_P D vwCl [q] H := fun i x hx => by
  match i, hx with
  | 0, hx => cases hx; exact h
  | i + 1, hx => simp at hx
theorem k_get (C0 : CallFix p m c cc nL s args TT own) (K0 : PK D Y A s) {ref C : String} {T : u_T} {N ci index : Nat} {fs : List Value} {v : Value} (hin : ∀ w ∈ u_ws C T N, w ∈ TT) (hc : vwCl[ci]? = some (C, T, N)) (j : Nat) (hj : j < N) (d : decode cc pc = .ok (.getfield index, 3)) (hlink : Cond.fieldLink own index ref (T j).2.1 (T j).2.2.1 ∈ TT) (hsame : ∀ x, s.fieldFound? (T j).1 (T j).2.1 (T j).2.2.1 = some x → s.fieldFound? ref (T j).2.1 (T j).2.2.1 = some x)
    (hV : ∀ H, V H → va_at D vwCl (a, .inr (ci, fs)) H) (hv : fs[j]? = some v) (g : kG p l e R s m args below meth c Q A nL V k n (pc + 3) lv (v :: st)) : kG p l e R s m args below meth c Q A nL V k n pc lv (.ref a :: st) := fun H locs ls hV0 hS hl =>
  va_get (ws := [(a, .inr (ci, fs))]) C0.1 C0.2.1 C0.2.2.2.2 hin C0.2.2.2.1 K0.1.1 (at_P (hV H hV0)) 0 rfl hc j hj (C0.2.2.2.2 _ hlink) hsame hv d (g H locs ls hV0 hS hl)
theorem k_put (C0 : CallFix p m c cc nL s args TT own) (K0 : PK D Y A s) {ref C : String} {T : u_T} {N ci index : Nat} {fs : List Value} {v : Value} {ty : FieldType} (hin : ∀ w ∈ u_ws C T N, w ∈ TT) (hc : vwCl[ci]? = some (C, T, N)) (ty0 : Nat → FieldType) (hty : ∀ k, k < N → parseFieldDescriptor (T k).2.2.1 = some (ty0 k)) (hnm : ∀ a, a < N → ∀ b, b < N → a ≠ b → (T a).2.1 ≠ (T b).2.1) (j : Nat) (hj : j < N) (d : decode cc pc = .ok (.putfield index, 3)) (hlink : Cond.fieldLink own index ref (T j).2.1 (T j).2.2.1 ∈ TT) (hsame : ∀ x, s.fieldFound? (T j).1 (T j).2.1 (T j).2.2.1 = some x → s.fieldFound? ref (T j).2.1 (T j).2.2.1 = some x) (hfin : (T j).2.2.2 = false) (hd : parseFieldDescriptor (T j).2.2.1 = some ty) (hn : narrow ty v = v) (hfit : fits ty v = true) (hl2 : j < fs.length)
    (hV : ∀ H, V H → va_at D vwCl (a, .inr (ci, fs)) H ∧ A a) (hV' : ∀ H H', V H → H'.size = H.size → va_at D vwCl (a, .inr (ci, fs.set j v)) H' → (∀ q, q ≠ a → H'[q]? = H[q]?) → V' H') (g : kG p l e R s m args below meth c Q A nL V' k n (pc + 3) lv st) : kG p l e R s m args below meth c Q A nL V k n pc lv (v :: .ref a :: st) := by
  intro H locs ls hV0 hS hl
  obtain ⟨⟨r, h1, cell, q1, q2, q3, q4⟩, hAa⟩ := hV H hV0
  have hap := va_apart (own := own) C0.2.2.2.2 hin ty0 hty hnm K0.1.1 hc
  have hr : r = (C, T, N) := Option.some.inj (h1.symm.trans hc)
  subst hr
  obtain ⟨hSl, hfc, kC, hkC, hkind⟩ := K0.1.1.1 ci _ hc
  obtain ⟨cf, kf, fi, f, hi, hsl⟩ := hSl j hj
  have hlay := C0.2.2.2.2 _ (hin _ (u_in_lay hj))
  unfold u_lay at hlay
  rw [if_neg (by rw [hfin]; decide)] at hlay
  have hst := (u_facts hfc hkC (u_lays C0.2.2.2.2 hin hj) hi).1
  have h6 := u_store hfc hkC hkind hlay hi hd hn hfit
  refine W.putK C0.1 C0.2.1 (f := f) ⟨C0.2.2.2.1, C0.2.2.2.2 _ hlink, ⟨_, _, _, hsame _ hi⟩, hst⟩ (by rw [q2]; exact h6) q1 q3 (by rw [hsl]; exact k2_hasslot (q4 j hj)) rfl rfl d fun H' e1 e2 e3 => ?_
  rw [hsl] at e1 ⊢
  exact g H' _ ls (hV' H H' hV0 e2 ⟨_, hc, t_OB.to (V := updV (vp_V fs) j v) ⟨_, e1, q2, q3, t_set q4 hap hj v⟩ (fun i _ => vp_updV_set hl2 v i)⟩ e3) (hS.put e2 e3 hAa) hl
theorem k_putF (C0 : CallFix p m c cc nL s args TT own) (K0 : PK D Y A s) {ref C : String} {T : u_T} {N ci index : Nat} {fs : List Value} {v : Value} {ty : FieldType} (hin : ∀ w ∈ u_ws C T N, w ∈ TT) (hc : vwCl[ci]? = some (C, T, N)) (ty0 : Nat → FieldType) (hty : ∀ k, k < N → parseFieldDescriptor (T k).2.2.1 = some (ty0 k)) (hnm : ∀ a, a < N → ∀ b, b < N → a ≠ b → (T a).2.1 ≠ (T b).2.1) (j : Nat) (hj : j < N) (d : decode cc pc = .ok (.putfield index, 3)) (hlink : Cond.fieldLink own index ref (T j).2.1 (T j).2.2.1 ∈ TT) (hsame : ∀ x, s.fieldFound? (T j).1 (T j).2.1 (T j).2.2.1 = some x → s.fieldFound? ref (T j).2.1 (T j).2.2.1 = some x) (hfin : (T j).2.2.2 = true) (hin2 : meth.name = "<init>") (hdecl : (T j).1 = own) (hd : parseFieldDescriptor (T j).2.2.1 = some ty) (hn : narrow ty v = v) (hfit : fits ty v = true) (hl2 : j < fs.length)
    (hV : ∀ H, V H → va_at D vwCl (a, .inr (ci, fs)) H ∧ A a) (hV' : ∀ H H', V H → H'.size = H.size → va_at D vwCl (a, .inr (ci, fs.set j v)) H' → (∀ q, q ≠ a → H'[q]? = H[q]?) → V' H') (g : kG p l e R s m args below meth c Q A nL V' k n (pc + 3) lv st) : kG p l e R s m args below meth c Q A nL V k n pc lv (v :: .ref a :: st) := by
  intro H locs ls hV0 hS hl
  obtain ⟨⟨r, h1, cell, q1, q2, q3, q4⟩, hAa⟩ := hV H hV0
  have hap := va_apart (own := own) C0.2.2.2.2 hin ty0 hty hnm K0.1.1 hc
  have hr : r = (C, T, N) := Option.some.inj (h1.symm.trans hc)
  subst hr
  obtain ⟨hSl, hfc, kC, hkC, hkind⟩ := K0.1.1.1 ci _ hc
  obtain ⟨cf, kf, fi, f, hi, hsl⟩ := hSl j hj
  have hlay := C0.2.2.2.2 _ (hin _ (u_in_lay hj))
  unfold u_lay at hlay
  rw [if_pos hfin] at hlay
  have hst := (u_facts hfc hkC (u_lays C0.2.2.2.2 hin hj) hi).1
  have hcf : m.cls = cf := by
    obtain ⟨_, _, c', _, _, _, -, -, hf', -, -, -, hown2, -⟩ := Cond.laysFinal_spec hlay
    have e1 : c' = cf := by have := hi.symm.trans hf'; simp at this; exact this.1.symm
    rw [hdecl] at hown2
    rw [← e1]; exact Option.some.inj (C0.2.2.2.1.symm.trans hown2)
  have h6 := u_fits hfc hkC hkind (Or.inr hlay) hi hd hn hfit
  refine W.putFinK C0.1 C0.2.1 C0.2.2.2.1 (C0.2.2.2.2 _ hlink) (hsame _ hi) hst hcf hin2 (by rw [q2]; exact h6) q1 q3 (by rw [hsl]; exact k2_hasslot (q4 j hj)) rfl rfl d fun H' e1 e2 e3 => ?_
  rw [hsl] at e1 ⊢
  exact g H' _ ls (hV' H H' hV0 e2 ⟨_, hc, t_OB.to (V := updV (vp_V fs) j v) ⟨_, e1, q2, q3, t_set q4 hap hj v⟩ (fun i _ => vp_updV_set hl2 v i)⟩ e3) (hS.put e2 e3 hAa) hl
theorem k_alen (C0 : CallFix p m c cc nL s args TT own) (K0 : PK D Y A s) {x : vp_A} (t0 : Nat) {cA : ClassId} {ty : FieldType} (ht : (kTy Y)[t0]? = some (cA, ty)) (v : Int32) (hv : Int32.ofNat x.1 = v) (d : decode cc pc = .ok (.arraylength, 1)) (hV : ∀ H, V H → va_at D vwCl (a, .inl (cA, x)) H) (g : kG p l e R s m args below meth c Q A nL V k n (pc + 1) lv (.int v :: st)) : kG p l e R s m args below meth c Q A nL V k n pc lv (.ref a :: st) := fun H locs ls hV0 hS hl =>
  va_alen (ws := [(a, .inl (cA, x))]) C0.1 C0.2.1 K0.1.1 (at_P (hV H hV0)) 0 t0 rfl ht hv d (g H locs ls hV0 hS hl)
theorem k_iald (C0 : CallFix p m c cc nL s args TT own) (K0 : PK D Y A s) {N : Nat} {f : Nat → Int32} {i : Int32} (hi : vp_in i N) (d : decode cc pc = .ok (.iaload, 1)) (hV : ∀ H, V H → va_at D vwCl (a, .inl (Y 0, N, .inl f)) H) (g : kG p l e R s m args below meth c Q A nL V k n (pc + 1) lv (.int (f i.toNatClampNeg) :: st)) : kG p l e R s m args below meth c Q A nL V k n pc lv (.int i :: .ref a :: st) := fun H locs ls hV0 hS hl =>
  va_iald (ws := [(a, .inl (Y 0, N, .inl f))]) C0.1 C0.2.1 K0.1.1 (at_P (hV H hV0)) 0 0 rfl rfl hi d (g H locs ls hV0 hS hl)
theorem k_aald (C0 : CallFix p m c cc nL s args TT own) (K0 : PK D Y A s) {N t0 : Nat} {cA : ClassId} {C : String} {f : Nat → Option Nat} {i : Int32} {v : Nat} (ht : (kTy Y)[t0]? = some (cA, .object C)) (hi : vp_in i N) (d : decode cc pc = .ok (.aaload, 1)) (hV : ∀ H, V H → va_at D vwCl (a, .inl (cA, N, .inr (.inr (.inr (.inr f))))) H) (hv : f i.toNatClampNeg = some v) (g : kG p l e R s m args below meth c Q A nL V k n (pc + 1) lv (.ref v :: st)) : kG p l e R s m args below meth c Q A nL V k n pc lv (.int i :: .ref a :: st) := fun H locs ls hV0 hS hl =>
  va_aldq (ws := [(a, .inl (cA, N, .inr (.inr (.inr (.inr f)))))]) C0.1 C0.2.1 K0.1.1 (at_P (hV H hV0)) 0 t0 rfl ht hi d (by rw [hv]; exact g H locs ls hV0 hS hl)
theorem k_iast (C0 : CallFix p m c cc nL s args TT own) (K0 : PK D Y A s) {N : Nat} {f : Nat → Int32} {i x : Int32} (hi : vp_in i N) (d : decode cc pc = .ok (.iastore, 1)) (hV : ∀ H, V H → va_at D vwCl (a, .inl (Y 0, N, .inl f)) H ∧ A a) (hV' : ∀ H H', V H → H'.size = H.size → va_at D vwCl (a, .inl (Y 0, N, .inl (upd f i.toNatClampNeg x))) H' → (∀ q, q ≠ a → H'[q]? = H[q]?) → V' H') (g : kG p l e R s m args below meth c Q A nL V' k n (pc + 1) lv st) : kG p l e R s m args below meth c Q A nL V k n pc lv (.int x :: .int i :: .ref a :: st) := fun H locs ls hV0 hS hl => by
  refine W.iast C0.1 C0.2.1 (hV H hV0).1 ((K0.1.1.2 0 _ rfl).1 N (fun j => .int (f j))) (fun q => by cases q) (by show ¬ (i < 0 ∨ (arrV _ _ _).slots.size ≤ _); rw [arrV_size]; exact hi) rfl rfl d fun H1 e z oq => ?_
  refine g H1 _ ls (hV' H H1 hV0 z ?_ oq) (hS.put z oq (hV H hV0).2) hl
  show H1[a]? = some (vp_cell _ _)
  rw [e]
  rw [vp_cell_i, vp_cell_i, arrV_store]
  congr 2
  funext q
  by_cases hq : q = i.toNatClampNeg
  · subst hq
    simp [updV, upd]
  · simp [updV, upd, hq]
theorem k_aast (C0 : CallFix p m c cc nL s args TT own) (K0 : PK D Y A s) {N t0 ci v : Nat} {cA : ClassId} {E : String} {r : vw_C} {vs : List Value} {f : Nat → Option Nat} {i : Int32} (ht : (kTy Y)[t0]? = some (cA, .object E)) (hi : vp_in i N) (d : decode cc pc = .ok (.aastore, 1)) (hc : vwCl[ci]? = some r) (hca : ∀ comp cv : ClassId, s.vm.findClass E = some comp → ClassAt s r.1 cv → s.vm.assignable cv comp = true)
    (hVv : ∀ H, V H → va_at D vwCl (v, .inr (ci, vs)) H) (hV : ∀ H, V H → va_at D vwCl (a, .inl (cA, N, .inr (.inr (.inr (.inr f))))) H ∧ A a) (hV' : ∀ H H', V H → H'.size = H.size → va_at D vwCl (a, .inl (cA, N, .inr (.inr (.inr (.inr (va_up f i.toNatClampNeg (some v))))))) H' → (∀ q, q ≠ a → H'[q]? = H[q]?) → V' H') (g : kG p l e R s m args below meth c Q A nL V' k n (pc + 1) lv st) : kG p l e R s m args below meth c Q A nL V k n pc lv (.ref v :: .int i :: .ref a :: st) := fun H locs ls hV0 hS hl => by
  have hlt : i.toNatClampNeg < N := Nat.not_le.mp fun q => hi (Or.inr q)
  have h0 : ¬ i < 0 := fun q => hi (Or.inl q)
  obtain ⟨r', hr', cellV, g1, g2, g3, -⟩ := hVv H hV0
  have hcls := (K0.1.1.1 ci r hc).2
  obtain ⟨kA, comp, k1, k2, k3, -⟩ := (K0.1.1.2 t0 _ ht).2
  obtain ⟨kE, hkE, -⟩ := Vm.findClass_spec k3
  have f3 := hca _ _ k3 hcls
  obtain ⟨kC, hkC, -⟩ := hcls.2
  refine W.aast C0.1 C0.2.1 (hV H hV0).1 (fun q h => by cases h) (fun h => by cases h) k1 k2 rfl hkE ⟨h0, by show _ < (arrV _ _ _).slots.size; rw [arrV_size]; exact hlt⟩ g1 (fun q h => by rw [g3] at h; cases h) (by rw [g2]; exact hkC) (by rw [g2]; exact f3) rfl rfl d fun H1 e z oq => ?_
  refine g H1 _ ls (hV' H H1 hV0 z ?_ oq) (hS.put z oq (hV H hV0).2) hl
  show H1[a]? = some (vp_cell _ _)
  rw [e]
  rw [vp_cell_q, vp_cell_q, arrV_store]
  congr 2
  funext q
  by_cases hq : q = i.toNatClampNeg
  · subst hq
    simp [updV, va_up, va_rf]
  · simp [updV, va_up, hq]
theorem k_new {V' : Nat → Heap → Prop} (C0 : CallFix p m c cc nL s args TT own) (K0 : PK D Y A s) {C : String} {T : u_T} {N ci index : Nat} {fs : List Value} (hin : ∀ w ∈ u_ws C T N, w ∈ TT) (hc : vwCl[ci]? = some (C, T, N)) (ty : Nat → FieldType) (hty : ∀ k, k < N → parseFieldDescriptor (T k).2.2.1 = some (ty k)) (hcl : Cond.classLink own index C ∈ TT) (hinst : Cond.instantiable C N ∈ TT) (hini : Cond.initialized C ∈ TT) (hfs : ∀ j, j < N → defaultValue (ty j) = vp_V fs j) (hcells : k + 1 ≤ R.cells) (hslots : n + N ≤ R.slots) (d : decode cc pc = .ok (.new index, 3))
    (hV' : ∀ H H', V H → H'.size = H.size + 1 → va_at D vwCl (H.size, .inr (ci, fs)) H' → (∀ q, q < H.size → H'[q]? = H[q]?) → A H.size → V' H.size H') (g : ∀ q, kG p l e R s m args below meth c Q A nL (V' q) (k + 1) (n + N) (pc + 3) lv (.ref q :: st)) : kG p l e R s m args below meth c Q A nL V k n pc lv st := fun H locs ls hV0 hS hl => by
  have hKn := K0.1.1.1 ci _ hc
  refine W.newcK C0.1 C0.2.1 C0.2.2.2.1 (C0.2.2.2.2 _ hcl) (C0.2.2.2.2 _ hinst) (C0.2.2.2.2 _ hini) rfl d hcells hslots hKn.2.1 rfl fun H1 kC hkC e1 z1 o1 => ?_
  exact g H.size H1 locs ls (hV' H H1 hV0 z1 ⟨_, hc, (u_born ty C0.2.2.2.2 hin hKn hkC e1 hty).to hfs⟩ o1 (K0.2.1 _ hS.1)) ⟨Nat.le_trans hS.1 (by omega), fun x h1 h2 => (o1 x (Nat.lt_of_lt_of_le h1 hS.1)).trans (hS.2.1 x h1 h2), hS.2.2⟩ hl
theorem k_newai {V' : Nat → Heap → Prop} (C0 : CallFix p m c cc nL s args TT own) (K0 : PK D Y A s) {x : Int32} (N : Nat) (harr : Cond.arrayClass .int ∈ TT) (hx : ¬ x < 0) (hN : x.toNatClampNeg = N) (hb : N ≤ 100000) (hcells : k + 1 ≤ R.cells) (hslots : n + N ≤ R.slots) (d : decode cc pc = .ok (.newarray .int, 2))
    (hV' : ∀ H H', V H → H'.size = H.size + 1 → va_at D vwCl (H.size, .inl (Y 0, N, .inl (fun _ => 0))) H' → (∀ q, q < H.size → H'[q]? = H[q]?) → A H.size → V' H.size H') (g : ∀ q, kG p l e R s m args below meth c Q A nL (V' q) (k + 1) (n + N) (pc + 2) lv (.ref q :: st)) : kG p l e R s m args below meth c Q A nL V k n pc lv (.int x :: st) := fun H locs ls hV0 hS hl => by
  refine va_newaK C0.1 C0.2.1 (atype := .int) (C0.2.2.2.2 _ harr) rfl d rfl hx hN (by show N * 4 ≤ 536870912; omega) hcells hslots rfl fun H1 cA e1 z1 o1 hAr hNm => ?_
  have hcA : cA = Y 0 := Option.some.inj (hNm.symm.trans (show s.vm.findClass ("[" ++ FieldType.int.toString) = some (Y 0) from (K0.1.1.2 0 _ rfl).2))
  subst hcA
  exact g H.size H1 locs ls (hV' H H1 hV0 z1 e1 o1 (K0.2.1 _ hS.1)) ⟨Nat.le_trans hS.1 (by omega), fun x h1 h2 => (o1 x (Nat.lt_of_lt_of_le h1 hS.1)).trans (hS.2.1 x h1 h2), hS.2.2⟩ hl
theorem k_newq {V' : Nat → Heap → Prop} (C0 : CallFix p m c cc nL s args TT own) (K0 : PK D Y A s) {C : String} {cA : ClassId} {index t0 : Nat} {x : Int32} (N : Nat) (hclink : Cond.classLink own index C ∈ TT) (hover : va_AO C s) (ht : (kTy Y)[t0]? = some (cA, .object C)) (hx : ¬ x < 0) (hN : x.toNatClampNeg = N) (hb : N ≤ 100000) (hcells : k + 1 ≤ R.cells) (hslots : n + N ≤ R.slots) (d : decode cc pc = .ok (.anewarray index, 3))
    (hV' : ∀ H H', V H → H'.size = H.size + 1 → va_at D vwCl (H.size, .inl (cA, N, .inr (.inr (.inr (.inr (fun _ => none)))))) H' → (∀ q, q < H.size → H'[q]? = H[q]?) → A H.size → V' H.size H') (g : ∀ q, kG p l e R s m args below meth c Q A nL (V' q) (k + 1) (n + N) (pc + 3) lv (.ref q :: st)) : kG p l e R s m args below meth c Q A nL V k n pc lv (.int x :: st) := fun H locs ls hV0 hS hl => by
  subst hN
  refine W.anew C0.1 C0.2.1 C0.2.2.2.1 (C0.2.2.2.2 _ hclink) (va_AO.use hover) rfl d rfl hx (by omega) hcells hslots fun cA2 kA comp f1 f2 f3 f4 => ?_
  generalize hH1 : H.push ({ cls := cA2, slots := Array.replicate x.toNatClampNeg .null, vm := .none } : Cell) = H1
  have z1 : H1.size = H.size + 1 := by rw [← hH1, Array.size_push]
  have e1 : H1[H.size]? = some (arrV cA2 x.toNatClampNeg (fun _ => .null)) := by rw [← hH1, Array.getElem?_push_size, ← arrV_new]
  have o1 : ∀ q : Nat, q < H.size → H1[q]? = H[q]? := fun q hq => by rw [← hH1, Array.getElem?_push, if_neg (Nat.ne_of_lt hq)]
  have hcA : cA2 = cA := by
    obtain ⟨-, -, -, -, -, h4⟩ := (K0.1.1.2 t0 _ ht).2
    exact Option.some.inj (f1.symm.trans h4)
  subst hcA
  exact g H.size H1 locs ls (hV' H H1 hV0 z1 e1 o1 (K0.2.1 _ hS.1)) ⟨Nat.le_trans hS.1 (by omega), fun x h1 h2 => (o1 x (Nat.lt_of_lt_of_le h1 hS.1)).trans (hS.2.1 x h1 h2), hS.2.2⟩ hl
theorem k_recv (K0 : PK D Y A s) {ci : Nat} {q : vw_C} {fs : List Value} {H : Heap} (hc : vwCl[ci]? = some q) (h : va_at D vwCl (a, .inr (ci, fs)) H) : ∃ cell : Cell, H[a]? = some cell ∧ cell.vm.isStatics = false ∧ s.vm.findClass q.1 = some cell.cls := va_recv (ws := [(a, .inr (ci, fs))]) K0.1.1 (at_P h) hc (q0 := 0) rfl
/-- checkcast of an object of just that class -/
theorem k_castS (C0 : CallFix p m c cc nL s args TT own) (K0 : PK D Y A s) {ci index : Nat} {q : vw_C} {fs : List Value} (hc : vwCl[ci]? = some q) (hlink : Cond.classLink own index q.1 ∈ TT) (d : decode cc pc = .ok (.checkcast index, 3)) (hV : ∀ H, V H → va_at D vwCl (a, .inr (ci, fs)) H) (g : kG p l e R s m args below meth c Q A nL V k n (pc + 3) lv (.ref a :: st)) : kG p l e R s m args below meth c Q A nL V k n pc lv (.ref a :: st) := fun H locs ls hV0 hS hl =>
  va_castS C0.1 C0.2.1 C0.2.2.2.1 (C0.2.2.2.2 _ hlink) (K0.1.1.1 ci q hc).2 (k_recv K0 hc (hV H hV0)) d (g H locs ls hV0 hS hl)
theorem k_castA (C0 : CallFix p m c cc nL s args TT own) {index : Nat} {nm : String} {cA : ClassId} {x : vp_A} (hlink : Cond.classLink own index nm ∈ TT) (d : decode cc pc = .ok (.checkcast index, 3)) (hnm : s.vm.findClass nm = some cA) (hV : ∀ H, V H → va_at D vwCl (a, .inl (cA, x)) H) (g : kG p l e R s m args below meth c Q A nL V k n (pc + 3) lv (.ref a :: st)) : kG p l e R s m args below meth c Q A nL V k n pc lv (.ref a :: st) := fun H locs ls hV0 hS hl =>
  va_castA (ws := [(a, .inl (cA, x))]) C0.1 C0.2.1 C0.2.2.2.1 (C0.2.2.2.2 _ hlink) (at_P (hV H hV0)) 0 rfl hnm d (g H locs ls hV0 hS hl)
end KH

