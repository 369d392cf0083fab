/-! contracts with a frame of their own; the law's world: the class's, the reference's, the answers' array -/
section KFR
theorem PK.thin {D : va_G} {Y : Nat → Nat} {A B : Nat → Prop} {U : State} (h : PK D Y A U) (hB : ∀ q, B q → A q) (hn : ∀ q, U.heap.size ≤ q → B q) : PK D Y B U := ⟨h.1, hn, h.2.2.narrow hB⟩
/-- a contract that holds whatever its cells, told over a larger world: 'own' are its own cells -/
theorem CT.frm {l : Launch} {y : MethodName} {w0 : Cond} {F LOC : Nat} {D : va_G} {Y : Nat → Nat} {A : Nat → Prop} (own : Nat → Prop) {As : List Value} {V : Heap → Prop} {S S1 : Type} {rv : S → Option Value} {rv1 : S1 → Option Value} {V' : S → Heap → Prop} {VX : String → Heap → Prop} {V1 : (Nat → Prop) → Heap → Prop} {V1' : (Nat → Prop) → S1 → Heap → Prop} {VX1 : (Nat → Prop) → String → Heap → Prop} {mc ms : Nat} (gS : S1 → S)
    (hM : ∀ B : Nat → Prop, CT l y w0 F LOC D Y B As (V1 B) rv1 (V1' B) (VX1 B) mc ms) (hrv : ∀ u, rv1 u = rv (gS u))
    (hown : ∀ H, V H → ∀ q, own q → A q) (hV : ∀ H, V H → V1 (fun q => own q ∨ H.size ≤ q) H)
    (hV' : ∀ (H H' : Heap) (u : S1), V H → (∀ q : Nat, H.size ≤ q → A q) → H.size ≤ H'.size → (∀ q : Nat, q < H.size → ¬ own q → H'[q]? = H[q]?) → V1' (fun q => own q ∨ H.size ≤ q) u H' → V' (gS u) H')
    (hX : ∀ (H H' : Heap) (E : String), V H → (∀ q : Nat, H.size ≤ q → A q) → H.size ≤ H'.size → (∀ q : Nat, q < H.size → ¬ own q → H'[q]? = H[q]?) → VX1 (fun q => own q ∨ H.size ≤ q) E H' → VX E H') :
    CT l y w0 F LOC D Y A As V rv V' VX mc ms := by
  intro p e ha hc hk s m args below hf happ hP hK
  obtain ⟨hargs, hV0, hPK⟩ := hP
  have hBA : ∀ q, (own q ∨ s.heap.size ≤ q) → A q := fun q h => h.elim (hown _ hV0 q) (hPK.2.1 q)
  obtain ⟨n, o, h1, h2, h3, hQ⟩ := hM (fun q => own q ∨ s.heap.size ≤ q) p e ha hc hk s m args below hf happ ⟨hargs, hV _ hV0, hPK.thin hBA (fun q h => Or.inr h)⟩ hK
  refine ⟨n, o, h1, h2, h3, ?_⟩
  have hfr : ∀ t : State, va_F (fun q => own q ∨ s.heap.size ≤ q) s t → s.heap.size ≤ t.heap.size ∧ ∀ q : Nat, q < s.heap.size → ¬ own q → t.heap[q]? = s.heap[q]? := fun t h => ⟨h.1, fun q hq hn => h.2 q hq (fun z => z.elim hn (fun z => absurd hq (Nat.not_lt.mpr z)))⟩
  have hFA : ∀ t : State, va_F (fun q => own q ∨ s.heap.size ≤ q) s t → va_F A s t := fun t h => ⟨h.1, fun q hq hn => h.2 q hq (fun z => hn (hBA q z))⟩
  rcases hQ with ⟨⟨⟨u, ho, hu⟩, hF⟩, L, hL, hfree⟩ | ⟨q, ho, E, ce, L, ⟨hE, hF⟩, t1, t2, t3, t4, t5, hfree⟩
  · exact Or.inl ⟨⟨⟨gS u, by rw [ho, hrv], hV' _ _ u hV0 hPK.2.1 (hfr _ hF).1 (hfr _ hF).2 hu⟩, hFA _ hF⟩, L, hL, fun q hq => hBA _ (hfree q hq)⟩
  · exact Or.inr ⟨q, ho, E, ce, L, ⟨hX _ _ E hV0 hPK.2.1 (hfr _ hF).1 (hfr _ hF).2 hE, hFA _ hF⟩, t1, t2, t3, t4, t5, fun z hz => hBA _ (hfree z hz)⟩
def ownC (sg : Sg) (al : Nat → Nat → Nat) (q : Nat) : Prop := ∃ k i, live sg k i ∧ q = al k i
def ownR (o : Nat) (ar : Nat → Nat) (q : Nat) : Prop := q = o ∨ ∃ f, rAny f ∧ q = ar f
/-- the law's world; ao: the array of answers, P what it holds -/
def LWo (D : va_G) (Y : Nat → Nat) (A : Nat → Prop) (sg : Sg) (al : Nat → Nat → Nat) (o : Nat) (ar : Nat → Nat) (mu : Rm) (ao : Nat) (P : Int64 → Prop) (H : Heap) : Prop :=
  WX D Y (ownC sg al) sg al [] H ∧ WR D Y (ownR o ar) o ar mu H ∧ (∃ v : Nat → Int64, P (v 0) ∧ va_at D vwCl (ao, .inl (Y 1, 1, .inr (.inl v))) H) ∧ ((∀ q, ownC sg al q → A q) ∧ (∀ q, ownR o ar q → A q) ∧ A ao) ∧ (∀ q, ownC sg al q → ¬ ownR o ar q) ∧ ¬ ownC sg al ao ∧ ¬ ownR o ar ao
/-- the answers' array: where the call answered, r -/
def lP (k r : Int32) : Int64 → Prop := fun v => k = 0 → v = r.toInt64
def lT : Int64 → Prop := fun _ => True
section LW1
variable {l : Launch} {D : va_G} {Y : Nat → Nat} {A B : Nat → Prop} {sg sg' : Sg} {al al' : Nat → Nat → Nat} {o ao : Nat} {ar : Nat → Nat} {mu mu' : Rm} {P P' : Int64 → Prop} {H H' : Heap}
theorem WX.re (h : WX D Y A sg al [] H) (hB : ∀ k i, live sg k i → B (al k i)) : WX D Y B sg al [] H := ⟨fun k i hl => ⟨(h.1 k i hl).1, hB k i hl⟩, h.2.1, h.2.2.1, fun j x hx => by simp at hx, h.2.2.2.2⟩
theorem WX.stay (h : WX D Y A sg al [] H) (oq : ∀ k i, live sg k i → H'[al k i]? = H[al k i]?) : WX D Y A sg al [] H' := ⟨fun k i hl => ⟨(h.1 k i hl).1.kept (oq k i hl), (h.1 k i hl).2⟩, h.2.1, h.2.2.1, fun j x hx => by simp at hx, h.2.2.2.2⟩
theorem WX.own (h : WX D Y A sg al [] H) (q : Nat) (hq : ownC sg al q) : q < H.size ∧ A q := by
  obtain ⟨k, i, hl, rfl⟩ := hq
  exact ⟨(h.1 k i hl).1.ltH, (h.1 k i hl).2⟩
theorem WX.self (h : WX D Y A sg al [] H) : WX D Y (ownC sg al) sg al [] H := h.re (fun k i hl => ⟨k, i, hl, rfl⟩)
theorem WR.re (h : WR D Y A o ar mu H) (hB : ∀ q, ownR o ar q → B q) : WR D Y B o ar mu H := ⟨⟨h.1.1, hB _ (Or.inl rfl)⟩, fun f hf => ⟨(h.2.1 f hf).1, hB _ (Or.inr ⟨f, rArr_any hf, rfl⟩)⟩, ⟨h.2.2.1.1, hB _ (Or.inr ⟨14, by decide, rfl⟩)⟩, h.2.2.2⟩
theorem rAny_cs {f : Nat} (h : rAny f) : rArr f ∨ f = 14 := by
  simp only [rArr, rAny, List.mem_cons, List.not_mem_nil, or_false] at h ⊢
  omega
theorem WR.own (h : WR D Y A o ar mu H) (q : Nat) (hq : ownR o ar q) : q < H.size ∧ A q := by
  rcases hq with rfl | ⟨f, hf, rfl⟩
  · exact ⟨h.1.1.ltH, h.1.2⟩
  · rcases rAny_cs hf with h1 | rfl
    · exact ⟨(h.2.1 f h1).1.ltH, (h.2.1 f h1).2⟩
    · exact ⟨h.2.2.1.1.ltH, h.2.2.1.2⟩
theorem WR.stay (h : WR D Y A o ar mu H) (oq : ∀ q, ownR o ar q → H'[q]? = H[q]?) : WR D Y A o ar mu H' := h.kept (oq o (Or.inl rfl)) (fun f hf => oq _ (Or.inr ⟨f, hf, rfl⟩))
theorem LWo.mono (h : LWo D Y A sg al o ar mu ao P H) (hP : ∀ v, P v → P' v) : LWo D Y A sg al o ar mu ao P' H := ⟨h.1, h.2.1, h.2.2.1.elim (fun v hv => ⟨v, hP _ hv.1, hv.2⟩), h.2.2.2⟩
theorem LWo.lt (h : LWo D Y A sg al o ar mu ao P H) : ao < H.size := by
  obtain ⟨v, -, hv⟩ := h.2.2.1
  exact hv.ltH
/-- the class's side has run -/
theorem LWo.cls (h : LWo D Y A sg al o ar mu ao P H) (hA : ∀ q : Nat, H.size ≤ q → A q) (oq : ∀ q : Nat, q < H.size → ¬ ownC sg al q → H'[q]? = H[q]?) (h' : WX D Y (fun q => ownC sg al q ∨ H.size ≤ q) sg' al' [] H') : LWo D Y A sg' al' o ar mu ao P H' := by
  obtain ⟨hx, hr, ⟨v, hP, hv⟩, ⟨a1, a2, a3⟩, d1, d2, d3⟩ := h
  have hrl := hr.own
  have hnew : ∀ q, ownC sg' al' q → ownC sg al q ∨ H.size ≤ q := fun q hq => (h'.own q hq).2
  refine ⟨h'.self, hr.stay (fun q hq => oq q (hrl q hq).1 (fun z => d1 q z hq)), ⟨v, hP, hv.kept (oq ao hv.ltH d2)⟩, ⟨fun q hq => (hnew q hq).elim (a1 q) (hA q), a2, a3⟩, fun q hq => ?_, fun hq => ?_, d3⟩
  · rcases hnew q hq with z | z
    · exact d1 q z
    · exact fun w => absurd (hrl q w).1 (Nat.not_lt.mpr z)
  · rcases hnew ao hq with z | z
    · exact d2 z
    · exact absurd (show ao < H.size from hv.ltH) (Nat.not_lt.mpr z)
/-- the reference's side has run -/
theorem LWo.ref (h : LWo D Y A sg al o ar mu ao P H) (oq : ∀ q : Nat, q < H.size → ¬ ownR o ar q → H'[q]? = H[q]?) (h' : WR D Y (fun q => ownR o ar q ∨ H.size ≤ q) o ar mu' H') : LWo D Y A sg al o ar mu' ao P H' := by
  obtain ⟨hx, hr, ⟨v, hP, hv⟩, ha, d1, d2, d3⟩ := h
  exact ⟨hx.stay (fun k i hl => oq _ (hx.own _ ⟨k, i, hl, rfl⟩).1 (d1 _ ⟨k, i, hl, rfl⟩)), h'.re (fun q hq => hq), ⟨v, hP, hv.kept (oq ao hv.ltH d3)⟩, ha, d1, d2, d3⟩
/-- the array of answers was written -/
theorem LWo.put {v : Nat → Int64} (h : LWo D Y A sg al o ar mu ao P H) (hv : va_at D vwCl (ao, .inl (Y 1, 1, .inr (.inl v))) H') (oq : ∀ q, q ≠ ao → H'[q]? = H[q]?) (hP : P' (v 0)) : LWo D Y A sg al o ar mu ao P' H' := by
  obtain ⟨hx, hr, -, ha, d1, d2, d3⟩ := h
  exact ⟨hx.stay (fun k i hl => oq _ (fun z => d2 ⟨k, i, hl, z.symm⟩)), hr.stay (fun q hq => oq q (fun z => d3 (z ▸ hq))), ⟨v, hP, hv⟩, ha, d1, d2, d3⟩
variable {y : MethodName} {w0 : Cond} {F LOC mc ms : Nat} {As : List Value} {rv : Option Value}
/-- a call of the class that makes nothing -/
theorem CT.cls0 (hM : ∀ B : Nat → Prop, CT l y w0 F LOC D Y B As (WX D Y B sg al []) (fun _ : Unit => rv) (fun _ : Unit => WX D Y B sg' al []) noX mc ms) : CT l y w0 F LOC D Y A As (LWo D Y A sg al o ar mu ao P) (fun _ : Nat → Nat → Nat => rv) (fun al' : Nat → Nat → Nat => fun H => al' 0 0 = al 0 0 ∧ LWo D Y A sg' al' o ar mu ao P H) noX mc ms :=
  CT.frm (ownC sg al) (V1 := fun B => WX D Y B sg al []) (V1' := fun B (_ : Unit) => WX D Y B sg' al []) (VX1 := fun _ => noX) (fun _ => al) hM (fun _ => rfl) (fun H h => h.2.2.2.1.1) (fun H h => h.1.re (fun k i hl => Or.inl ⟨k, i, hl, rfl⟩)) (fun H H' _ h hA _ oq h' => ⟨rfl, h.cls hA oq h'⟩) (fun H H' E _ _ _ _ h => h)
/-- one that makes something -/
theorem CT.cls1 (hM : ∀ B : Nat → Prop, CT l y w0 F LOC D Y B As (WX D Y B sg al []) (fun _ : Nat → Nat → Nat => rv) (fun al' : Nat → Nat → Nat => fun H => al' 0 0 = al 0 0 ∧ WX D Y B sg' al' [] H) noX mc ms) : CT l y w0 F LOC D Y A As (LWo D Y A sg al o ar mu ao P) (fun _ : Nat → Nat → Nat => rv) (fun al' : Nat → Nat → Nat => fun H => al' 0 0 = al 0 0 ∧ LWo D Y A sg' al' o ar mu ao P H) noX mc ms :=
  CT.frm (ownC sg al) (V1 := fun B => WX D Y B sg al []) (V1' := fun B (al' : Nat → Nat → Nat) => fun H => al' 0 0 = al 0 0 ∧ WX D Y B sg' al' [] H) (VX1 := fun _ => noX) (fun al' => al') hM (fun _ => rfl) (fun H h => h.2.2.2.1.1) (fun H h => h.1.re (fun k i hl => Or.inl ⟨k, i, hl, rfl⟩)) (fun H H' al' h hA _ oq h' => ⟨h'.1, h.cls hA oq h'.2⟩) (fun H H' E _ _ _ _ h => h)
/-- days pass -/
theorem CT.cls2 (hM : ∀ B : Nat → Prop, CT l y w0 F LOC D Y B As (WX D Y B sg al []) (fun _ : Nat → Nat → Nat => rv) (fun al' : Nat → Nat → Nat => fun H => alK al al' ∧ WX D Y B sg' al' [] H) noX mc ms) : CT l y w0 F LOC D Y A As (LWo D Y A sg al o ar mu ao P) (fun _ : Nat → Nat → Nat => rv) (fun al' : Nat → Nat → Nat => fun H => al' 0 0 = al 0 0 ∧ LWo D Y A sg' al' o ar mu ao P H) noX mc ms :=
  CT.frm (ownC sg al) (V1 := fun B => WX D Y B sg al []) (V1' := fun B (al' : Nat → Nat → Nat) => fun H => alK al al' ∧ WX D Y B sg' al' [] H) (VX1 := fun _ => noX) (fun al' => al') hM (fun _ => rfl) (fun H h => h.2.2.2.1.1) (fun H h => h.1.re (fun k i hl => Or.inl ⟨k, i, hl, rfl⟩)) (fun H H' al' h hA _ oq h' => ⟨h'.1 0 0 (by decide) (by decide), h.cls hA oq h'.2⟩) (fun H H' E _ _ _ _ h => h)
/-- one that throws -/
theorem CT.clsX {E0 : String} (hM : ∀ B : Nat → Prop, CT l y w0 F LOC D Y B As (WX D Y B sg al []) (fun _ : Unit => none) (fun (_ : Unit) (_ : Heap) => False) (xE E0 (WX D Y B sg al [])) mc ms) : CT l y w0 F LOC D Y A As (LWo D Y A sg al o ar mu ao P) (fun _ : Unit => none) (fun (_ : Unit) (_ : Heap) => False) (xE E0 (LWo D Y A sg al o ar mu ao P)) mc ms :=
  CT.frm (ownC sg al) (V1 := fun B => WX D Y B sg al []) (V1' := fun B (_ : Unit) (_ : Heap) => False) (VX1 := fun B => xE E0 (WX D Y B sg al [])) (fun _ => ()) hM (fun _ => rfl) (fun H h => h.2.2.2.1.1) (fun H h => h.1.re (fun k i hl => Or.inl ⟨k, i, hl, rfl⟩)) (fun H H' _ _ _ _ _ h => h) (fun H H' E h hA _ oq h' => ⟨h'.1, h.cls hA oq h'.2⟩)
/-- a call of the reference -/
theorem CT.rf (hM : ∀ B : Nat → Prop, CT l y w0 F LOC D Y B As (WR D Y B o ar mu) (fun _ : Unit => rv) (fun _ : Unit => WR D Y B o ar mu') noX mc ms) : CT l y w0 F LOC D Y A As (LWo D Y A sg al o ar mu ao P) (fun _ : Unit => rv) (fun _ : Unit => LWo D Y A sg al o ar mu' ao P) noX mc ms :=
  CT.frm (ownR o ar) (V1 := fun B => WR D Y B o ar mu) (V1' := fun B (_ : Unit) => WR D Y B o ar mu') (VX1 := fun _ => noX) (fun u => u) hM (fun _ => rfl) (fun H h => h.2.2.2.1.2.1) (fun H h => h.2.1.re (fun q hq => Or.inl hq)) (fun H H' _ h hA _ oq h' => h.ref oq h') (fun H H' E _ _ _ _ h => h)
end LW1
end KFR
section KGR
variable {p : Program} {l : Launch} {e : Env} {R : Room} {s : State} {m : MethodId} {args : Array Value} {below : List Frame} {meth : Method} {c : Code} {Q : State → Prop}
variable {A : Nat → Prop} {V : Heap → Prop} {k n nL pc : Nat} {lv : List (Nat × Value)} {st rest : List Value} {cc : ByteArray} {own : String} {D : va_G} {Y : Nat → Nat}
/-- a static call of a method with handlers -/
theorem k_callSW (C0 : CallFix p m c cc nL s args TT own) (K0 : PK D Y A s) {idx maxL F LOC mc ms : Nat} {y : MethodName} {bytes : ByteArray} {ret : Option FieldType} {hh : List (Nat × Nat × Nat × Nat)} {as : List Value} {S : Type} {rv : S → Option Value} {V' : S → Heap → Prop} {VX : String → Heap → Prop} {st0 : List Value}
    (d : decode cc pc = .ok (.invokestatic idx, 3)) (hM : CT l y (Cond.codeWith y bytes maxL ret hh) F LOC D Y A as V rv V' VX mc ms)
    (hw : GoodIn TT (va_wsS own idx y (Cond.codeWith y bytes maxL ret hh :: TT))) (hy : y.cls ≠ "java/lang/invoke/MethodHandle" ∧ y.cls ≠ "java/lang/invoke/VarHandle" ∧ (parseMethodDescriptor y.desc).map (fun d => d.parameters.length) = some as.length)
    (hst : st0 = as.reverse ++ rest) (hcat : (rest.map fun v => v.category).sum ≤ 8)
    (hR : F + 1 ≤ R.frames ∧ 8 + (maxL + 11) + LOC ≤ R.locals) (hf : k + mc ≤ R.cells ∧ n + ms ≤ R.slots)
    (kx : ∀ E, kX p l e R s m args below meth c Q A nL (VX E) (k + mc) (n + ms) pc lv E)
    (kk : ∀ u, kG p l e R s m args below meth c Q A nL (V' u) (k + mc) (n + ms) (pc + 3) lv ((rv u).toList ++ rest)) : kG p l e R s m args below meth c Q A nL V k n pc lv st0 :=
  k_run (a := as.toArray) (fun H locs ls hV hS hl => vx_runSX C0 hM (vx_cwSW as.length C0.2.2.2.2 hw rfl rfl rfl hy hR) ⟨k_blind, fun U hU hW => ⟨rfl, by rw [hU]; exact hV, K0.next hW (by rw [hU]; exact hS)⟩⟩ rfl rfl hl.1 hst (lv_room hcat) d hf) kx kk
/-- a contract out of its body's walk, of a method with handlers -/
theorem CT.ofH {l : Launch} {y : MethodName} {cc : ByteArray} {maxL : Nat} {ret : Option FieldType} {hh : List (Nat × Nat × Nat × Nat)} {F LOC mc ms : Nat} {As : List Value} {V : Heap → Prop} {S : Type} {rv : S → Option Value} {V' : S → Heap → Prop} {VX : String → Heap → Prop} (hy : plainName y.cls = true) (hAs : (lg_sl As).length ≤ maxL)
    (body : ∀ (p : Program) (e : Env) (s : State) (m : MethodId) (below : List Frame) (meth : Method) (c : Code), CallFix p m c cc maxL s As.toArray TT y.cls → PK D Y A s → meth.sig.returnType = ret → meth.locks = false → c.exceptionTable.toList = tableOf hh →
      kG p l e { frames := F, cells := mc, slots := ms, locals := LOC } s m As.toArray below meth c (kQ below rv V' VX A As.toArray s mc ms) A maxL V 0 0 0 (lv_args 0 As) []) :
    CT l y (Cond.codeWith y cc maxL ret hh) F LOC D Y A As V rv V' VX mc ms := by
  refine vx_ofWH (cc := cc) (maxL := maxL) (ret := ret) (hh := hh) hy rfl ?_
  intro p e s m args below meth c s₁ B hml hv
  obtain ⟨rfl, hV0, hK⟩ := hv
  have hts := atoms_spec (ws := Cond.codeWith y cc maxL ret hh :: TT) B.pre
  have h := body p e s m below meth c ⟨B.exec, B.bytes, hml, findClass_of_methodNamed B.named, fun w hw => hts w (List.mem_cons_of_mem _ hw)⟩ hK B.returns B.notSynchronized (vx_table (x := y) B (hts _ List.mem_cons_self))
  rw [lg_entry_eq]
  exact h s.heap [] _ hV0 va_S.rf (lv_entry As hAs)
section KOUT
variable {sg : Sg} {al : Nat → Nat → Nat} {o ao : Nat} {ar : Nat → Nat} {mu : Rm} {P P' : Int64 → Prop}
theorem lw_recv (K0 : PK D Y A s) : ∀ H, LWo D Y A sg al o ar mu ao P H → ∃ cell : Cell, H[al 0 0]? = some cell ∧ cell.vm.isStatics = false ∧ s.vm.findClass RX5 = some cell.cls := fun H h => k_recv (ci := 6) (q := (RX5, TX5, 8)) K0 rfl (h.1.1 0 0 rfl).1
theorem lw_recR (K0 : PK D Y A s) : ∀ H, LWo D Y A sg al o ar mu ao P H → ∃ cell : Cell, H[o]? = some cell ∧ cell.vm.isStatics = false ∧ s.vm.findClass RX6 = some cell.cls := fun H h => k_recv (ci := 7) (q := (RX6, TX6, 26)) K0 rfl h.2.1.1.1
theorem k_outV {pc : Nat} {st : List Value} (g : ∀ v : Nat → Int64, P (v 0) → kG p l e R s m args below meth c Q A nL (fun H => LWo D Y A sg al o ar mu ao P H ∧ va_at D vwCl (ao, .inl (Y 1, 1, .inr (.inl v))) H) k n pc lv st) : kG p l e R s m args below meth c Q A nL (LWo D Y A sg al o ar mu ao P) k n pc lv st := fun H locs ls hV hS hl => by
  obtain ⟨v, hP, hv⟩ := hV.2.2.1
  exact g v hP H locs ls ⟨hV, hv⟩ hS hl
theorem k_lastO (C0 : CallFix p m c cc nL s args TT own) (K0 : PK D Y A s) {x : Int64} (d : decode cc pc = .ok (.lastore, 1)) (hP : P' x) (g : kG p l e R s m args below meth c Q A nL (LWo D Y A sg al o ar mu ao P') k n (pc + 1) lv st) : kG p l e R s m args below meth c Q A nL (LWo D Y A sg al o ar mu ao P) k n pc lv (.long x :: .int 0 :: .ref ao :: st) :=
  k_outV (fun v _ => k_last C0 K0 (N := 1) (f := v) (vp_in_nI (n := 0) (by decide) (by decide)) d (fun H h => ⟨h.2, h.1.2.2.2.1.2.2⟩) (fun H H' h _ h1 oq => h.1.put h1 oq (by rw [show (0 : Int32).toNatClampNeg = 0 from by decide]; exact (pk_uLs (f := v) (k := 0) (x := x)).symm ▸ hP)) g)
theorem k_laldO (C0 : CallFix p m c cc nL s args TT own) (K0 : PK D Y A s) (d : decode cc pc = .ok (.laload, 1)) (g : ∀ x : Int64, P x → kG p l e R s m args below meth c Q A nL (LWo D Y A sg al o ar mu ao P) k n (pc + 1) lv (.long x :: st)) : kG p l e R s m args below meth c Q A nL (LWo D Y A sg al o ar mu ao P) k n pc lv (.int 0 :: .ref ao :: st) :=
  k_outV (fun v hP => k_lald C0 K0 (N := 1) (f := v) (vp_in_nI (n := 0) (by decide) (by decide)) d (fun H h => h.2) (k_W (fun H h => h.1) (by rw [show (0 : Int32).toNatClampNeg = 0 from by decide]; exact g _ hP)))
end KOUT
end KGR
