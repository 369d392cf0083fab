/-! what the law's wrappers catch -/
section KCT
variable {p : Program} {l : Launch} {e : Env} {R : Room} {s : State} {m : MethodId} {args : Array Value} {below : List Frame} {meth : Method} {c : Code} {Q : State → Prop}
variable {A : Nat → Prop} {V : Heap → Prop} {k n nL pc : Nat} {lv : List (Nat × Value)} {cc : ByteArray} {own : String} {D : va_G} {Y : Nat → Nat}
theorem k_catch (C0 : CallFix p m c cc nL s args TT own) (K0 : PK D Y A s) {E : String} (pre : List ExceptionTableEntry) (x : ExceptionTableEntry) (suf : List ExceptionTableEntry) (hsplit : c.exceptionTable.toList = pre ++ x :: suf)
    (hpass : ∀ z ∈ pre, covers z pc = false ∨ (z.catchType ≠ 0 ∧ ∃ nm : String, Cond.classLink own z.catchType nm ∈ TT ∧ (E, nm) ∈ kNc)) (hx : covers x pc = true) (h0 : x.catchType ≠ 0) (hlink : Cond.classLink own x.catchType E ∈ TT) (hca : (E, E) ∈ kCa)
    (g : ∀ q, kG p l e R s m args below meth c Q A nL V k n x.handlerPc lv [.ref q]) : kX p l e R s m args below meth c Q A nL V k n pc lv E := fun H locs ls rest q ce hV hS hl hcell hv hcl =>
  vx_catch C0.2.2.2.1 pre x suf hsplit (fun z hz => (hpass z hz).imp id (fun ⟨a, nm, b, d⟩ => ⟨a, nm, C0.2.2.2.2 _ b, K0.1.2.2.2.2.1 _ d⟩)) hx h0 (C0.2.2.2.2 _ hlink) (va_Nw.use rfl (K0.1.2.2.2.2.2.1 _ hca)) hcell hv hcl (g q H locs ls hV hS hl)
/-- a contract throws E0 alone -/
theorem kX_xE {E0 : String} {W : Heap → Prop} (h : kX p l e R s m args below meth c Q A nL W k n pc lv E0) (E : String) : kX p l e R s m args below meth c Q A nL (xE E0 W E) k n pc lv E := fun H locs ls rest q ce hV hS hl hcell hv hcl => by
  obtain ⟨rfl, hW⟩ := hV
  exact h H locs ls rest q ce hW hS hl hcell hv hcl
end KCT
