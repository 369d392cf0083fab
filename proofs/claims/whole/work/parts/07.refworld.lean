/-! the reference's world: its object at o, its arrays at al f (f: the field that holds them), its numbers mu -/
abbrev Rm : Type := (Nat → Nat → Int32) × (Nat → Int64)
def rI (mu : Rm) (f i : Nat) (v : Int32) : Rm := (fun g => if g = f then upd (mu.1 f) i v else mu.1 g, mu.2)
def rR (mu : Rm) (i : Nat) (v : Int64) : Rm := (mu.1, vp_updL mu.2 i v)
def rLen (f : Nat) : Nat := if f = 9 then 720 else if f = 12 then 100 else if f = 11 then 20 else if f < 4 then 5 else if f < 9 then 6 else 40
abbrev rArr (f : Nat) : Prop := f ∈ [1, 2, 3, 5, 6, 7, 8, 9, 11, 12, 16, 17, 18, 19, 20, 21, 22]
abbrev rAny (f : Nat) : Prop := f ∈ [1, 2, 3, 5, 6, 7, 8, 9, 11, 12, 16, 17, 18, 19, 20, 21, 22, 14]
def rObj (al : Nat → Nat) (mu : Rm) : List Value := [.int (mu.1 0 0), .ref (al 1), .ref (al 2), .ref (al 3), .int (mu.1 4 0), .ref (al 5), .ref (al 6), .ref (al 7), .ref (al 8), .ref (al 9), .int (mu.1 10 0), .ref (al 11), .ref (al 12), .int (mu.1 13 0), .ref (al 14), .int (mu.1 15 0), .ref (al 16), .ref (al 17), .ref (al 18), .ref (al 19), .ref (al 20), .ref (al 21), .ref (al 22), .int (mu.1 23 0), .int (mu.1 24 0), .int (mu.1 25 0)]
def WR (D : va_G) (Y : Nat → Nat) (A : Nat → Prop) (o : Nat) (al : Nat → Nat) (mu : Rm) (H : Heap) : Prop :=
  (va_at D vwCl (o, .inr (7, rObj al mu)) H ∧ A o) ∧ (∀ f, rArr f → va_at D vwCl (al f, .inl (Y 0, rLen f, .inl (mu.1 f))) H ∧ A (al f)) ∧ (va_at D vwCl (al 14, .inl (Y 1, 5400, .inr (.inl mu.2))) H ∧ A (al 14)) ∧ (∀ f, rAny f → al f ≠ o) ∧ (∀ f g, rAny f → rAny g → al f = al g → f = g)
theorem rArr_any {f : Nat} (h : rArr f) : rAny f := by
  simp only [rArr, rAny, List.mem_cons, List.not_mem_nil, or_false] at h ⊢
  omega
theorem WR.kept {D : va_G} {Y : Nat → Nat} {A : Nat → Prop} {o : Nat} {al : Nat → Nat} {mu : Rm} {H H' : Heap} (h : WR D Y A o al mu H) (ho : H'[o]? = H[o]?) (ha : ∀ f, rAny f → H'[al f]? = H[al f]?) : WR D Y A o al mu H' :=
  ⟨⟨h.1.1.kept ho, h.1.2⟩, fun f hf => ⟨(h.2.1 f hf).1.kept (ha f (rArr_any hf)), (h.2.1 f hf).2⟩, ⟨h.2.2.1.1.kept (ha 14 (by decide)), h.2.2.1.2⟩, h.2.2.2⟩
theorem WR.putS {D : va_G} {Y : Nat → Nat} {A : Nat → Prop} {o : Nat} {al : Nat → Nat} {mu : Rm} {H H' : Heap} (h : WR D Y A o al mu H) (f : Nat) (v : Int32) (hs : (rObj al mu).set f (.int v) = rObj al (rI mu f 0 v)) (hf : ¬ rArr f) (h1 : va_at D vwCl (o, .inr (7, (rObj al mu).set f (.int v))) H') (oq : ∀ q, q ≠ o → H'[q]? = H[q]?) : WR D Y A o al (rI mu f 0 v) H' := by
  refine ⟨⟨by rw [← hs]; exact h1, h.1.2⟩, fun g hg => ⟨?_, (h.2.1 g hg).2⟩, ⟨h.2.2.1.1.kept (oq _ (h.2.2.2.1 14 (by decide))), h.2.2.1.2⟩, h.2.2.2⟩
  have hgf : g ≠ f := fun z => hf (z ▸ hg)
  have e : (rI mu f 0 v).1 g = mu.1 g := if_neg hgf
  rw [e]
  exact (h.2.1 g hg).1.kept (oq _ (h.2.2.2.1 g (rArr_any hg)))
theorem WR.putA {D : va_G} {Y : Nat → Nat} {A : Nat → Prop} {o : Nat} {al : Nat → Nat} {mu : Rm} {H H' : Heap} (h : WR D Y A o al mu H) (f i : Nat) (v : Int32) (hs : rObj al (rI mu f i v) = rObj al mu) (hf : rArr f) (h1 : va_at D vwCl (al f, .inl (Y 0, rLen f, .inl (upd (mu.1 f) i v))) H') (oq : ∀ q, q ≠ al f → H'[q]? = H[q]?) : WR D Y A o al (rI mu f i v) H' := by
  refine ⟨⟨by rw [hs]; exact h.1.1.kept (oq _ (fun z => h.2.2.2.1 f (rArr_any hf) z.symm)), h.1.2⟩, fun g hg => ⟨?_, (h.2.1 g hg).2⟩, ⟨h.2.2.1.1.kept (oq _ (fun z => ?_)), h.2.2.1.2⟩, h.2.2.2⟩
  · by_cases hgf : g = f
    · subst hgf
      have e : (rI mu g i v).1 g = upd (mu.1 g) i v := if_pos rfl
      rw [e]; exact h1
    · have e : (rI mu f i v).1 g = mu.1 g := if_neg hgf
      rw [e]
      exact (h.2.1 g hg).1.kept (oq _ (fun z => hgf (h.2.2.2.2 g f (rArr_any hg) (rArr_any hf) z)))
  · have h14 := h.2.2.2.2 14 f (by decide) (rArr_any hf) z
    subst h14
    exact absurd hf (by decide)
theorem WR.putR {D : va_G} {Y : Nat → Nat} {A : Nat → Prop} {o : Nat} {al : Nat → Nat} {mu : Rm} {H H' : Heap} (h : WR D Y A o al mu H) (i : Nat) (v : Int64) (h1 : va_at D vwCl (al 14, .inl (Y 1, 5400, .inr (.inl (vp_updL mu.2 i v)))) H') (oq : ∀ q, q ≠ al 14 → H'[q]? = H[q]?) : WR D Y A o al (rR mu i v) H' := by
  refine ⟨⟨h.1.1.kept (oq _ (fun z => h.2.2.2.1 14 (by decide) z.symm)), h.1.2⟩, fun g hg => ⟨(h.2.1 g hg).1.kept (oq _ (fun z => ?_)), (h.2.1 g hg).2⟩, ⟨h1, h.2.2.1.2⟩, h.2.2.2⟩
  have h14 := h.2.2.2.2 g 14 (rArr_any hg) (by decide) z
  subst h14
  exact absurd hg (by decide)
theorem rI_tr {mu : Rm} {f j g i : Nat} {x v : Int32} (h : g ≠ f) (e : mu.1 g i = v) : (rI mu f j x).1 g i = v := (congrFun (if_neg h) i).trans e
theorem rR_tr {mu : Rm} {j g i : Nat} {x : Int64} {v : Int32} (e : mu.1 g i = v) : (rR mu j x).1 g i = v := e
theorem rI_at {mu : Rm} {f : Nat} {v : Int32} : (rI mu f 0 v).1 f 0 = v := (congrFun (if_pos rfl) 0).trans (if_pos rfl)
theorem rObj_arr (al : Nat → Nat) (mu : Rm) {f : Nat} (hf : rArr f) (i : Nat) (v : Int32) : rObj al (rI mu f i v) = rObj al mu := by
  have e : ∀ g : Nat, g ∈ [0, 4, 10, 13, 15, 23, 24, 25] → (rI mu f i v).1 g = mu.1 g := fun g hg => if_neg (fun z => by
    subst z
    simp only [rArr, List.mem_cons, List.not_mem_nil, or_false] at hf hg
    omega)
  simp only [rObj, e 0 (by decide), e 4 (by decide), e 10 (by decide), e 13 (by decide), e 15 (by decide), e 23 (by decide), e 24 (by decide), e 25 (by decide)]
theorem rs_0 (al : Nat → Nat) (mu : Rm) (v : Int32) : (rObj al mu).set 0 (.int v) = rObj al (rI mu 0 0 v) := rfl
theorem rs_4 (al : Nat → Nat) (mu : Rm) (v : Int32) : (rObj al mu).set 4 (.int v) = rObj al (rI mu 4 0 v) := rfl
theorem rs_10 (al : Nat → Nat) (mu : Rm) (v : Int32) : (rObj al mu).set 10 (.int v) = rObj al (rI mu 10 0 v) := rfl
theorem rs_13 (al : Nat → Nat) (mu : Rm) (v : Int32) : (rObj al mu).set 13 (.int v) = rObj al (rI mu 13 0 v) := rfl
theorem rs_15 (al : Nat → Nat) (mu : Rm) (v : Int32) : (rObj al mu).set 15 (.int v) = rObj al (rI mu 15 0 v) := rfl
theorem rs_23 (al : Nat → Nat) (mu : Rm) (v : Int32) : (rObj al mu).set 23 (.int v) = rObj al (rI mu 23 0 v) := rfl
theorem rs_24 (al : Nat → Nat) (mu : Rm) (v : Int32) : (rObj al mu).set 24 (.int v) = rObj al (rI mu 24 0 v) := rfl
theorem rs_25 (al : Nat → Nat) (mu : Rm) (v : Int32) : (rObj al mu).set 25 (.int v) = rObj al (rI mu 25 0 v) := rfl
theorem rg_0 (al : Nat → Nat) (mu : Rm) : (rObj al mu)[0]? = some (.int (mu.1 0 0)) := rfl
theorem rg_4 (al : Nat → Nat) (mu : Rm) : (rObj al mu)[4]? = some (.int (mu.1 4 0)) := rfl
theorem rg_10 (al : Nat → Nat) (mu : Rm) : (rObj al mu)[10]? = some (.int (mu.1 10 0)) := rfl
theorem rg_13 (al : Nat → Nat) (mu : Rm) : (rObj al mu)[13]? = some (.int (mu.1 13 0)) := rfl
theorem rg_15 (al : Nat → Nat) (mu : Rm) : (rObj al mu)[15]? = some (.int (mu.1 15 0)) := rfl
theorem rg_23 (al : Nat → Nat) (mu : Rm) : (rObj al mu)[23]? = some (.int (mu.1 23 0)) := rfl
theorem rg_24 (al : Nat → Nat) (mu : Rm) : (rObj al mu)[24]? = some (.int (mu.1 24 0)) := rfl
theorem rg_25 (al : Nat → Nat) (mu : Rm) : (rObj al mu)[25]? = some (.int (mu.1 25 0)) := rfl
theorem vp_inI {n N : Nat} {x : Int32} (e : x = nI n) (h : n < N) (hN : N < 2 ^ 31) : vp_in x N := by rw [e]; exact vp_in_nI h hN
theorem sel0 {H : Prop} [Decidable H] {a b : Int32} (h : (if H then (1 : Int32) else 0) = 0) : b = (if H then a else b) := by
  by_cases hh : H
  · rw [if_pos hh] at h; exact absurd h (by decide)
  · rw [if_neg hh]
theorem sel1 {H : Prop} [Decidable H] {a b : Int32} (h : ¬ (if H then (1 : Int32) else 0) = 0) : a = (if H then a else b) := by
  by_cases hh : H
  · rw [if_pos hh]
  · rw [if_neg hh] at h; exact absurd rfl h
theorem vp_m5 {a b : Nat} (ha : a < 20) (hb : b < 5) : vp_in (5 * nI a + nI b) 100 := vp_inI (n := 5 * a + b) (by rw [← nI_add, ← pk_mul]; rfl) (by omega) (by decide)
theorem vp_m120 {a b : Nat} (ha : a < 6) (hb : b < 120) : vp_in (120 * nI a + nI b) 720 := vp_inI (n := 120 * a + b) (by rw [← nI_add, ← pk_mul]; rfl) (by omega) (by decide)
section KR
variable {p : Program} {l : Launch} {e : Env} {R : Room} {s : State} {m : MethodId} {args : Array Value} {below : List Frame} {meth : Method} {c : Code} {Q : State → Prop}
variable {A : Nat → Prop} {k n nL pc : Nat} {lv : List (Nat × Value)} {st rest : List Value} {cc : ByteArray} {D : va_G} {Y : Nat → Nat} {o : Nat} {al : Nat → Nat} {mu : Rm}
theorem r_get (C0 : CallFix p m c cc nL s args TT RX6) (K0 : PK D Y A s) (f : Nat) {index : Nat} {v : Value} (d : decode cc pc = .ok (.getfield index, 3)) (hlink : Cond.fieldLink RX6 index RX6 (TX6 f).2.1 (TX6 f).2.2.1 ∈ TT) (hf : f < 26) (hd : (TX6 f).1 = RX6) (hv : (rObj al mu)[f]? = some v) (g : kG p l e R s m args below meth c Q A nL (WR D Y A o al mu) k n (pc + 3) lv (v :: st)) : kG p l e R s m args below meth c Q A nL (WR D Y A o al mu) k n pc lv (.ref o :: st) :=
  k_get C0 K0 inX6 rfl f hf d hlink (fun x h => by rw [hd] at h; exact h) (fun H hV => hV.1.1) hv g
theorem r_getI (C0 : CallFix p m c cc nL s args TT RX6) (K0 : PK D Y A s) (f : Nat) {index : Nat} (v : Int32) (d : decode cc pc = .ok (.getfield index, 3)) (hlink : Cond.fieldLink RX6 index RX6 (TX6 f).2.1 (TX6 f).2.2.1 ∈ TT) (hf : f < 26) (hd : (TX6 f).1 = RX6) (hg : (rObj al mu)[f]? = some (.int (mu.1 f 0))) (hv : mu.1 f 0 = v) (g : kG p l e R s m args below meth c Q A nL (WR D Y A o al mu) k n (pc + 3) lv (.int v :: st)) : kG p l e R s m args below meth c Q A nL (WR D Y A o al mu) k n pc lv (.ref o :: st) :=
  r_get C0 K0 f d hlink hf hd hg (by rw [hv]; exact g)
theorem r_putS (C0 : CallFix p m c cc nL s args TT RX6) (K0 : PK D Y A s) (f : Nat) {index : Nat} {v : Int32} (d : decode cc pc = .ok (.putfield index, 3)) (hlink : Cond.fieldLink RX6 index RX6 (TX6 f).2.1 (TX6 f).2.2.1 ∈ TT) (hf : f < 26) (hd : (TX6 f).1 = RX6) (hfin : (TX6 f).2.2.2 = false) (hty : parseFieldDescriptor (TX6 f).2.2.1 = some .int) (hs : (rObj al mu).set f (.int v) = rObj al (rI mu f 0 v)) (hna : ¬ rArr f) (g : kG p l e R s m args below meth c Q A nL (WR D Y A o al (rI mu f 0 v)) k n (pc + 3) lv st) : kG p l e R s m args below meth c Q A nL (WR D Y A o al mu) k n pc lv (.int v :: .ref o :: st) :=
  k_put C0 K0 inX6 rfl tyX6 tyX6_ok nmX6 f hf d hlink (fun x h => by rw [hd] at h; exact h) hfin hty rfl rfl (by show f < 26; exact hf) (fun H hV => hV.1) (fun H H' hV _ h1 oq => hV.putS f v hs hna h1 oq) g
theorem r_iald (C0 : CallFix p m c cc nL s args TT RX6) (K0 : PK D Y A s) (f : Nat) {i : Int32} (d : decode cc pc = .ok (.iaload, 1)) (hA : rArr f) (hi : vp_in i (rLen f)) {v : Int32} (hv : mu.1 f i.toNatClampNeg = v) (g : kG p l e R s m args below meth c Q A nL (WR D Y A o al mu) k n (pc + 1) lv (.int v :: st)) : kG p l e R s m args below meth c Q A nL (WR D Y A o al mu) k n pc lv (.int i :: .ref (al f) :: st) :=
  k_iald C0 K0 hi d (fun H hV => (hV.2.1 f hA).1) (by rw [hv]; exact g)
theorem r_iast (C0 : CallFix p m c cc nL s args TT RX6) (K0 : PK D Y A s) (f : Nat) {i v : Int32} (d : decode cc pc = .ok (.iastore, 1)) (hA : rArr f) (hi : vp_in i (rLen f)) (g : kG p l e R s m args below meth c Q A nL (WR D Y A o al (rI mu f i.toNatClampNeg v)) k n (pc + 1) lv st) : kG p l e R s m args below meth c Q A nL (WR D Y A o al mu) k n pc lv (.int v :: .int i :: .ref (al f) :: st) :=
  k_iast C0 K0 hi d (fun H hV => hV.2.1 f hA) (fun H H' hV _ h1 oq => hV.putA f _ v (rObj_arr al mu hA _ v) hA h1 oq) g
theorem r_lald (C0 : CallFix p m c cc nL s args TT RX6) (K0 : PK D Y A s) {i : Int32} (d : decode cc pc = .ok (.laload, 1)) (hi : vp_in i 5400) {v : Int64} (hv : mu.2 i.toNatClampNeg = v) (g : kG p l e R s m args below meth c Q A nL (WR D Y A o al mu) k n (pc + 1) lv (.long v :: st)) : kG p l e R s m args below meth c Q A nL (WR D Y A o al mu) k n pc lv (.int i :: .ref (al 14) :: st) :=
  k_lald C0 K0 hi d (fun H hV => hV.2.2.1.1) (by rw [hv]; exact g)
theorem r_last (C0 : CallFix p m c cc nL s args TT RX6) (K0 : PK D Y A s) {i : Int32} {v : Int64} (d : decode cc pc = .ok (.lastore, 1)) (hi : vp_in i 5400) (g : kG p l e R s m args below meth c Q A nL (WR D Y A o al (rR mu i.toNatClampNeg v)) k n (pc + 1) lv st) : kG p l e R s m args below meth c Q A nL (WR D Y A o al mu) k n pc lv (.long v :: .int i :: .ref (al 14) :: st) :=
  k_last C0 K0 hi d (fun H hV => hV.2.2.1) (fun H H' hV _ h1 oq => hV.putR _ v h1 oq) g
theorem r_recv (K0 : PK D Y A s) {H : Heap} (h : WR D Y A o al mu H) : ∃ cell : Cell, H[o]? = some cell ∧ cell.vm.isStatics = false ∧ s.vm.findClass RX6 = some cell.cls := k_recv (q := (RX6, TX6, 26)) K0 rfl h.1.1
end KR
