/-! constructors: cells in a list -/
def WL (D : va_G) (A : Nat → Prop) (X : va_W) (H : Heap) : Prop := va_P D vwCl X H ∧ va_D A X
theorem WL.putX {D : va_G} {A : Nat → Prop} {X : va_W} {H H' : Heap} (h : WL D A X H) (j : Nat) {q : Nat} {e0 e : va_E} (hj : X[j]? = some (q, e0)) (h1 : va_at D vwCl (q, e) H') (oq : ∀ x, x ≠ q → H'[x]? = H[x]?) : WL D A (X.set j (q, e)) H' := ⟨h.1.set h.2 hj h1 oq, h.2.set hj⟩
theorem WL.push {D : va_G} {A : Nat → Prop} {X : va_W} {H H' : Heap} (h : WL D A X H) {e : va_E} (h1 : va_at D vwCl (H.size, e) H') (oq : ∀ x, x < H.size → H'[x]? = H[x]?) (hA : A H.size) : WL D A (X ++ [(H.size, e)]) H' := ⟨va_P.app (h.1.kept (fun k q hk => oq _ (h.1 k q hk).ltH)) (at_P h1), h.2.push h.1 rfl hA⟩
section KWL
variable {p : Program} {l : Launch} {e : Env} {R : Room} {s : State} {m : MethodId} {args : Array Value} {below : List Frame} {meth : Method} {c : Code} {Q : State → Prop}
variable {A : Nat → Prop} {n nL pc kk0 : Nat} {lv : List (Nat × Value)} {st rest : List Value} {cc : ByteArray} {own : String} {D : va_G} {Y : Nat → Nat} {X : va_W}
theorem w_get (C0 : CallFix p m c cc nL s args TT own) (K0 : PK D Y A s) (jx : Nat) {q : Nat} {ref C : String} {T : u_T} {N ci index : Nat} {fs : List Value} (he : X[jx]? = some (q, .inr (ci, fs))) (hin : ∀ w ∈ u_ws C T N, w ∈ TT) (hc : vwCl[ci]? = some (C, T, N)) (j : Nat) (v : Value) (hj : j < N) (d : decode cc pc = .ok (.getfield index, 3)) (hlink : Cond.fieldLink own index ref (T j).2.1 (T j).2.2.1 ∈ TT) (hsame : ∀ x, s.fieldFound? (T j).1 (T j).2.1 (T j).2.2.1 = some x → s.fieldFound? ref (T j).2.1 (T j).2.2.1 = some x) (hv : fs[j]? = some v)
    (g : kG p l e R s m args below meth c Q A nL (WL D A X) kk0 n (pc + 3) lv (v :: st)) : kG p l e R s m args below meth c Q A nL (WL D A X) kk0 n pc lv (.ref q :: st) :=
  k_get C0 K0 hin hc j hj d hlink hsame (fun H hV => hV.1 jx _ he) hv g
theorem w_put (C0 : CallFix p m c cc nL s args TT own) (K0 : PK D Y A s) (jx : Nat) {q : Nat} {ref C : String} {T : u_T} {N ci index : Nat} {fs : List Value} {v : Value} {ty : FieldType} (he : X[jx]? = some (q, .inr (ci, fs))) (hin : ∀ w ∈ u_ws C T N, w ∈ TT) (hc : vwCl[ci]? = some (C, T, N)) (ty0 : Nat → FieldType) (hty : ∀ k, k < N → parseFieldDescriptor (T k).2.2.1 = some (ty0 k)) (hnm : ∀ a, a < N → ∀ b, b < N → a ≠ b → (T a).2.1 ≠ (T b).2.1) (j : Nat) (hj : j < N) (d : decode cc pc = .ok (.putfield index, 3)) (hlink : Cond.fieldLink own index ref (T j).2.1 (T j).2.2.1 ∈ TT) (hsame : ∀ x, s.fieldFound? (T j).1 (T j).2.1 (T j).2.2.1 = some x → s.fieldFound? ref (T j).2.1 (T j).2.2.1 = some x) (hfin : (T j).2.2.2 = false) (hd : parseFieldDescriptor (T j).2.2.1 = some ty) (hn : narrow ty v = v) (hfit : fits ty v = true) (hl2 : j < fs.length) (X2 : va_W) (hX : X.set jx (q, .inr (ci, fs.set j v)) = X2)
    (g : kG p l e R s m args below meth c Q A nL (WL D A X2) kk0 n (pc + 3) lv st) : kG p l e R s m args below meth c Q A nL (WL D A X) kk0 n pc lv (v :: .ref q :: st) :=
  k_put C0 K0 hin hc ty0 hty hnm j hj d hlink hsame hfin hd hn hfit hl2 (fun H hV => ⟨hV.1 jx _ he, hV.2.2 jx _ he⟩) (fun H H' hV _ h1 oq => hX ▸ WL.putX hV jx he h1 oq) g
theorem w_putF (C0 : CallFix p m c cc nL s args TT own) (K0 : PK D Y A s) (hin2 : meth.name = "<init>") (jx : Nat) {q : Nat} {ref C : String} {T : u_T} {N ci index : Nat} {fs : List Value} {v : Value} {ty : FieldType} (he : X[jx]? = some (q, .inr (ci, fs))) (hin : ∀ w ∈ u_ws C T N, w ∈ TT) (hc : vwCl[ci]? = some (C, T, N)) (ty0 : Nat → FieldType) (hty : ∀ k, k < N → parseFieldDescriptor (T k).2.2.1 = some (ty0 k)) (hnm : ∀ a, a < N → ∀ b, b < N → a ≠ b → (T a).2.1 ≠ (T b).2.1) (j : Nat) (hj : j < N) (d : decode cc pc = .ok (.putfield index, 3)) (hlink : Cond.fieldLink own index ref (T j).2.1 (T j).2.2.1 ∈ TT) (hsame : ∀ x, s.fieldFound? (T j).1 (T j).2.1 (T j).2.2.1 = some x → s.fieldFound? ref (T j).2.1 (T j).2.2.1 = some x) (hfin : (T j).2.2.2 = true) (hdecl : (T j).1 = own) (hd : parseFieldDescriptor (T j).2.2.1 = some ty) (hn : narrow ty v = v) (hfit : fits ty v = true) (hl2 : j < fs.length) (X2 : va_W) (hX : X.set jx (q, .inr (ci, fs.set j v)) = X2)
    (g : kG p l e R s m args below meth c Q A nL (WL D A X2) kk0 n (pc + 3) lv st) : kG p l e R s m args below meth c Q A nL (WL D A X) kk0 n pc lv (v :: .ref q :: st) :=
  k_putF C0 K0 hin hc ty0 hty hnm j hj d hlink hsame hfin hin2 hdecl hd hn hfit hl2 (fun H hV => ⟨hV.1 jx _ he, hV.2.2 jx _ he⟩) (fun H H' hV _ h1 oq => hX ▸ WL.putX hV jx he h1 oq) g
theorem w_new (C0 : CallFix p m c cc nL s args TT own) (K0 : PK D Y A s) {C : String} {T : u_T} {N ci index : Nat} (fs : List Value) (hin : ∀ w ∈ u_ws C T N, w ∈ TT) (hc : vwCl[ci]? = some (C, T, N)) (ty : Nat → FieldType) (hty : ∀ k, k < N → parseFieldDescriptor (T k).2.2.1 = some (ty k)) (hcl : Cond.classLink own index C ∈ TT) (hinst : Cond.instantiable C N ∈ TT) (hini : Cond.initialized C ∈ TT) (hfs : ∀ j, j < N → defaultValue (ty j) = vp_V fs j) (hcells : kk0 + 1 ≤ R.cells) (hslots : n + N ≤ R.slots) (d : decode cc pc = .ok (.new index, 3))
    (g : ∀ q, kG p l e R s m args below meth c Q A nL (WL D A (X ++ [(q, .inr (ci, fs))])) (kk0 + 1) (n + N) (pc + 3) lv (.ref q :: st)) : kG p l e R s m args below meth c Q A nL (WL D A X) kk0 n pc lv st :=
  k_new C0 K0 hin hc ty hty hcl hinst hini hfs hcells hslots d (fun H H' hV _ h1 oq hA => WL.push hV h1 oq hA) g
theorem w_newai (C0 : CallFix p m c cc nL s args TT own) (K0 : PK D Y A s) {x : Int32} (N : Nat) (harr : Cond.arrayClass .int ∈ TT) (hx : ¬ x < 0) (hN : x.toNatClampNeg = N) (hb : N ≤ 100000) (hcells : kk0 + 1 ≤ R.cells) (hslots : n + N ≤ R.slots) (d : decode cc pc = .ok (.newarray .int, 2))
    (g : ∀ q, kG p l e R s m args below meth c Q A nL (WL D A (X ++ [(q, .inl (Y 0, N, .inl (fun _ => 0)))])) (kk0 + 1) (n + N) (pc + 2) lv (.ref q :: st)) : kG p l e R s m args below meth c Q A nL (WL D A X) kk0 n pc lv (.int x :: st) :=
  k_newai C0 K0 N harr hx hN hb hcells hslots d (fun H H' hV _ h1 oq hA => WL.push hV h1 oq hA) g
theorem w_newq (C0 : CallFix p m c cc nL s args TT own) (K0 : PK D Y A s) {C : String} {cA : ClassId} {index t0 : Nat} {x : Int32} (N : Nat) (hclink : Cond.classLink own index C ∈ TT) (hover : va_AO C s) (ht : (kTy Y)[t0]? = some (cA, .object C)) (hx : ¬ x < 0) (hN : x.toNatClampNeg = N) (hb : N ≤ 100000) (hcells : kk0 + 1 ≤ R.cells) (hslots : n + N ≤ R.slots) (d : decode cc pc = .ok (.anewarray index, 3))
    (g : ∀ q, kG p l e R s m args below meth c Q A nL (WL D A (X ++ [(q, .inl (cA, N, .inr (.inr (.inr (.inr (fun _ => none))))))])) (kk0 + 1) (n + N) (pc + 3) lv (.ref q :: st)) : kG p l e R s m args below meth c Q A nL (WL D A X) kk0 n pc lv (.int x :: st) :=
  k_newq C0 K0 N hclink hover ht hx hN hb hcells hslots d (fun H H' hV _ h1 oq hA => WL.push hV h1 oq hA) g
theorem w_iast (C0 : CallFix p m c cc nL s args TT own) (K0 : PK D Y A s) (jx : Nat) {q N : Nat} {f : Nat → Int32} {x v : Int32} (he : X[jx]? = some (q, .inl (Y 0, N, .inl f))) (hx : vp_in x N) (d : decode cc pc = .ok (.iastore, 1)) (X2 : va_W) (hX : X.set jx (q, .inl (Y 0, N, .inl (upd f x.toNatClampNeg v))) = X2)
    (g : kG p l e R s m args below meth c Q A nL (WL D A X2) kk0 n (pc + 1) lv st) : kG p l e R s m args below meth c Q A nL (WL D A X) kk0 n pc lv (.int v :: .int x :: .ref q :: st) :=
  k_iast C0 K0 hx d (fun H hV => ⟨hV.1 jx _ he, hV.2.2 jx _ he⟩) (fun H H' hV _ h1 oq => hX ▸ WL.putX hV jx he h1 oq) g
theorem w_alen (C0 : CallFix p m c cc nL s args TT own) (K0 : PK D Y A s) (jx : Nat) {q : Nat} {cA : ClassId} {x : vp_A} (he : X[jx]? = some (q, .inl (cA, x))) (t0 : Nat) {ty : FieldType} (ht : (kTy Y)[t0]? = some (cA, ty)) (v : Int32) (hv : Int32.ofNat x.1 = v) (d : decode cc pc = .ok (.arraylength, 1))
    (g : kG p l e R s m args below meth c Q A nL (WL D A X) kk0 n (pc + 1) lv (.int v :: st)) : kG p l e R s m args below meth c Q A nL (WL D A X) kk0 n pc lv (.ref q :: st) :=
  k_alen C0 K0 t0 ht v hv d (fun H hV => hV.1 jx _ he) g
end KWL
def rz : Rm := (fun _ _ => 0, fun _ => 0)
theorem hyJxa1e45_init_da8c8 : yJxa1e45_init_da8c8.cls ≠ "java/lang/invoke/MethodHandle" ∧ yJxa1e45_init_da8c8.cls ≠ "java/lang/invoke/VarHandle" ∧ (parseMethodDescriptor yJxa1e45_init_da8c8.desc).map (fun d => d.parameters.length) = some 0 := by decide +kernel
theorem hyJxc12de_init_da8c8 : yJxc12de_init_da8c8.cls ≠ "java/lang/invoke/MethodHandle" ∧ yJxc12de_init_da8c8.cls ≠ "java/lang/invoke/VarHandle" ∧ (parseMethodDescriptor yJxc12de_init_da8c8.desc).map (fun d => d.parameters.length) = some 0 := by decide +kernel
theorem hyJx4a65c_init_da8c8 : yJx4a65c_init_da8c8.cls ≠ "java/lang/invoke/MethodHandle" ∧ yJx4a65c_init_da8c8.cls ≠ "java/lang/invoke/VarHandle" ∧ (parseMethodDescriptor yJx4a65c_init_da8c8.desc).map (fun d => d.parameters.length) = some 0 := by decide +kernel
theorem hyX0_init : yX0_init.cls ≠ "java/lang/invoke/MethodHandle" ∧ yX0_init.cls ≠ "java/lang/invoke/VarHandle" ∧ (parseMethodDescriptor yX0_init.desc).map (fun d => d.parameters.length) = some 1 := by decide +kernel
theorem k_asg (vm : Vm) (c : ClassId) : vm.assignable c c = true := by
  show vm.assignableAux (255 + 1) c c = true
  rw [Vm.assignableAux]
  simp only [beq_self_eq_true, Bool.true_or]
theorem arrV_cg {cI : ClassId} {N : Nat} {f g : Nat → Value} (h : ∀ j, j < N → f j = g j) : arrV cI N f = arrV cI N g := by
  have e : (fun j : Fin N => f j.val) = (fun j : Fin N => g j.val) := funext fun j => h j.1 j.2
  unfold arrV
  rw [e]
theorem wl_at {X : va_W} {j : Nat} {x y : Nat × va_E} (h : X[j]? = some x) : (X.set j y)[j]? = some y := List.getElem?_set_self (List.getElem?_eq_some_iff.mp h).1
section KWA
variable {p : Program} {l : Launch} {e : Env} {R : Room} {s : State} {m : MethodId} {args : Array Value} {below : List Frame} {meth : Method} {c : Code} {Q : State → Prop}
variable {A : Nat → Prop} {n nL pc kk0 : Nat} {lv : List (Nat × Value)} {st rest : List Value} {cc : ByteArray} {own : String} {D : va_G} {Y : Nat → Nat} {X : va_W}
theorem w_aast (C0 : CallFix p m c cc nL s args TT own) (K0 : PK D Y A s) (jx jv : Nat) {q v : Nat} {f : Nat → Option Nat} {fs : List Value} {i : Int32} (he : X[jx]? = some (q, .inl (Y 2, 5, .inr (.inr (.inr (.inr f)))))) (hv : X[jv]? = some (v, .inr (1, fs))) (hi : vp_in i 5) (d : decode cc pc = .ok (.aastore, 1)) (X2 : va_W) (hX : X.set jx (q, .inl (Y 2, 5, .inr (.inr (.inr (.inr (va_up f i.toNatClampNeg (some v))))))) = X2)
    (g : kG p l e R s m args below meth c Q A nL (WL D A X2) kk0 n (pc + 1) lv st) : kG p l e R s m args below meth c Q A nL (WL D A X) kk0 n pc lv (.ref v :: .int i :: .ref q :: st) :=
  k_aast (ci := 1) (t0 := 2) (E := "ShopPaymaster$Land") C0 K0 rfl hi d rfl (fun comp cv h1 h2 => by
    have e : comp = cv := Option.some.inj (h1.symm.trans h2.1)
    subst e
    exact k_asg _ _) (fun H hV => hV.1 jv _ hv) (fun H hV => ⟨hV.1 jx _ he, hV.2.2 jx _ he⟩) (fun H H' hV _ h1 oq => hX ▸ WL.putX hV jx he h1 oq) g
end KWA
def sg0 : Sg := (fun k _ f => if k = 1 ∧ f = 2 then 1 else 0, fun _ _ _ => 0)
set_option maxRecDepth 100000 in
set_option maxHeartbeats 4000000 in
theorem ci_landW (l : Launch) (D : va_G) (Y : Nat → Nat) (A : Nat → Prop) (ws : va_W) (q j : Nat) (hj : ws[j]? = some (q, .inr (1, [.int 0, .int 0, .int 0, .int 0]))) (nb : Int32) : CT l yX0_init (Cond.code yX0_init cX0_init 2 none) 1 12 D Y A [.ref q, .int nb] (WL D A ws) (fun _ : Unit => none) (fun _ : Unit => WL D A (ws.set j (q, .inr (1, [.int nb, .int 0, .int 1, .int 0])))) noX 0 0 := by
  refine CT.of (by decide) (Nat.le_of_ble_eq_true rfl) ?_
  intro p_ e_ s_ m_ below_ meth_ c_ C0 K0 hr hlk htab hnm_
  refine k_aload_n C0 dX0_init_0 0 rfl ?_
  refine k_objInit C0 dX0_init_1 (tA 62 rfl rfl) (tA 28 rfl rfl) (tA 29 rfl rfl) (Nat.le_of_ble_eq_true rfl) (Nat.le_of_ble_eq_true rfl) ?_
  refine k_aload_n C0 dX0_init_4 0 rfl ?_
  refine k_iconst C0 0 dX0_init_5 (by decide) ?_
  refine w_put C0 K0 j (ty := .int) hj inX0 rfl tyX0 tyX0_ok nmX0 1 (by decide) dX0_init_6 (tA 65 rfl rfl) (fun _ h => h) rfl (by decide +kernel) rfl rfl (Nat.le_of_ble_eq_true rfl) (ws.set j (q, .inr (1, [.int 0, .int 0, .int 0, .int 0]))) rfl ?_
  refine k_aload_n C0 dX0_init_9 0 rfl ?_
  refine k_iconst C0 1 dX0_init_10 (by decide) ?_
  refine w_put C0 K0 j (ty := .boolean) (wl_at hj) inX0 rfl tyX0 tyX0_ok nmX0 2 (by decide) dX0_init_11 (tA 67 rfl rfl) (fun _ h => h) rfl (by decide +kernel) rfl rfl (Nat.le_of_ble_eq_true rfl) (ws.set j (q, .inr (1, [.int 0, .int 0, .int 1, .int 0]))) (List.set_set ..) ?_
  refine k_aload_n C0 dX0_init_14 0 rfl ?_
  refine k_iconst C0 0 dX0_init_15 (by decide) ?_
  refine w_put C0 K0 j (ty := .int) (wl_at hj) inX0 rfl tyX0 tyX0_ok nmX0 3 (by decide) dX0_init_16 (tA 70 rfl rfl) (fun _ h => h) rfl (by decide +kernel) rfl rfl (Nat.le_of_ble_eq_true rfl) (ws.set j (q, .inr (1, [.int 0, .int 0, .int 1, .int 0]))) (List.set_set ..) ?_
  refine k_aload_n C0 dX0_init_19 0 rfl ?_
  refine k_iload_n C0 dX0_init_20 1 rfl ?_
  refine w_putF C0 K0 hnm_ j (ty := .int) (wl_at hj) inX0 rfl tyX0 tyX0_ok nmX0 0 (by decide) dX0_init_21 (tA 63 rfl rfl) (fun _ h => h) rfl rfl (by decide +kernel) rfl rfl (Nat.le_of_ble_eq_true rfl) (ws.set j (q, .inr (1, [.int nb, .int 0, .int 1, .int 0]))) (List.set_set ..) ?_
  exact k_vret C0 dX0_init_24 hr hlk (Nat.le_of_ble_eq_true rfl) (Nat.le_of_ble_eq_true rfl) () rfl (fun H h => h)
set_option maxRecDepth 100000 in
set_option maxHeartbeats 4000000 in
theorem ci_absC (l : Launch) (D : va_G) (Y : Nat → Nat) (A : Nat → Prop) (V : Heap → Prop) (q : Nat) : CT l yJxa1e45_init_da8c8 (Cond.code yJxa1e45_init_da8c8 cJxa1e45_init_da8c8 1 none) 1 12 D Y A [.ref q] V (fun _ : Unit => none) (fun _ : Unit => V) noX 0 0 := by
  refine CT.of (by decide) (Nat.le_of_ble_eq_true rfl) ?_
  intro p_ e_ s_ m_ below_ meth_ c_ C0 K0 hr hlk htab hnm_
  refine k_aload_n C0 dJxa1e45_init_da8c8_0 0 rfl ?_
  refine k_objInit C0 dJxa1e45_init_da8c8_1 (tA 43 rfl rfl) (tA 28 rfl rfl) (tA 29 rfl rfl) (Nat.le_of_ble_eq_true rfl) (Nat.le_of_ble_eq_true rfl) ?_
  exact k_vret C0 dJxa1e45_init_da8c8_4 hr hlk (Nat.le_of_ble_eq_true rfl) (Nat.le_of_ble_eq_true rfl) () rfl (fun H h => h)
set_option maxRecDepth 100000 in
set_option maxHeartbeats 4000000 in
theorem ci_absL (l : Launch) (D : va_G) (Y : Nat → Nat) (A : Nat → Prop) (ws : va_W) (q j : Nat) (hj : ws[j]? = some (q, .inr (0, [.int 0, .null, .int 0])))  : CT l yJxc12de_init_da8c8 (Cond.code yJxc12de_init_da8c8 cJxc12de_init_da8c8 1 none) 2 32 D Y A [.ref q] (WL D A ws) (fun _ : Unit => none) (fun _ : Unit => WL D A (ws.set j (q, .inr (0, [.int 0, .null, .int 0])))) noX 0 0 := by
  refine CT.of (by decide) (Nat.le_of_ble_eq_true rfl) ?_
  intro p_ e_ s_ m_ below_ meth_ c_ C0 K0 hr hlk htab hnm_
  refine k_aload_n C0 dJxc12de_init_da8c8_0 0 rfl ?_
  refine k_callI C0 K0 dJxc12de_init_da8c8_1 (ci_absC l D Y A (WL D A ws) q) (tA 42 rfl rfl) (tA 2 rfl rfl) (tA 40 rfl rfl) (tA 41 rfl rfl) rfl hyJxa1e45_init_da8c8 rfl (by exact Nat.le_of_ble_eq_true rfl) ⟨Nat.le_of_ble_eq_true rfl, Nat.le_of_ble_eq_true rfl⟩ ⟨Nat.le_of_ble_eq_true rfl, Nat.le_of_ble_eq_true rfl⟩ (fun E => kX_no E) (fun _ => ?_)
  refine k_aload_n C0 dJxc12de_init_da8c8_4 0 rfl ?_
  refine k_iconst C0 0 dJxc12de_init_da8c8_5 (by decide) ?_
  refine w_put C0 K0 j (ty := .int) hj inJx4a65c rfl tyJx4a65c tyJx4a65c_ok nmJx4a65c 0 (by decide) dJxc12de_init_da8c8_6 (tA 48 rfl rfl) (fun _ h => h) rfl (by decide +kernel) rfl rfl (Nat.le_of_ble_eq_true rfl) (ws.set j (q, .inr (0, [.int 0, .null, .int 0]))) rfl ?_
  exact k_vret C0 dJxc12de_init_da8c8_9 hr hlk (Nat.le_of_ble_eq_true rfl) (Nat.le_of_ble_eq_true rfl) () rfl (fun H h => h)
set_option maxRecDepth 100000 in
set_option maxHeartbeats 4000000 in
theorem ci_listW (l : Launch) (D : va_G) (Y : Nat → Nat) (A : Nat → Prop) (ws : va_W) (q j : Nat) (hj : ws[j]? = some (q, .inr (0, [.int 0, .null, .int 0])))  : CT l yJx4a65c_init_da8c8 (Cond.code yJx4a65c_init_da8c8 cJx4a65c_init_da8c8 1 none) 3 52 D Y A [.ref q] (WL D A ws) (fun _ : Unit => none) (fun _ : Unit => WL D A (ws.set j (q, .inr (0, [.int 0, .ref (Y 4), .int 0])))) noX 0 0 := by
  refine CT.of (by decide) (Nat.le_of_ble_eq_true rfl) ?_
  intro p_ e_ s_ m_ below_ meth_ c_ C0 K0 hr hlk htab hnm_
  refine k_aload_n C0 dJx4a65c_init_da8c8_0 0 rfl ?_
  refine k_callI C0 K0 dJx4a65c_init_da8c8_1 (ci_absL l D Y A ws q j hj) (tA 39 rfl rfl) (tA 3 rfl rfl) (tA 37 rfl rfl) (tA 38 rfl rfl) rfl hyJxc12de_init_da8c8 rfl (by exact Nat.le_of_ble_eq_true rfl) ⟨Nat.le_of_ble_eq_true rfl, Nat.le_of_ble_eq_true rfl⟩ ⟨Nat.le_of_ble_eq_true rfl, Nat.le_of_ble_eq_true rfl⟩ (fun E => kX_no E) (fun _ => ?_)
  refine k_aload_n C0 dJx4a65c_init_da8c8_4 0 rfl ?_
  refine l_gets C0 K0 dJx4a65c_init_da8c8_5 (tA 44 rfl rfl) rfl ?_
  refine w_put C0 K0 j (ty := .array (.object "java/lang/Object")) (wl_at hj) inJx4a65c rfl tyJx4a65c tyJx4a65c_ok nmJx4a65c 1 (by decide) dJx4a65c_init_da8c8_8 (tA 46 rfl rfl) (fun _ h => h) rfl (by decide +kernel) rfl rfl (Nat.le_of_ble_eq_true rfl) (ws.set j (q, .inr (0, [.int 0, .ref (Y 4), .int 0]))) (List.set_set ..) ?_
  exact k_vret C0 dJx4a65c_init_da8c8_11 hr hlk (Nat.le_of_ble_eq_true rfl) (Nat.le_of_ble_eq_true rfl) () rfl (fun H h => h)
def cPos (k i : Nat) : Nat := if k = 0 then 0 else if k = 8 then 1 else if k = 9 then 2 + i else 6 + i
theorem sg0_live {k i : Nat} (h : live sg0 k i) : (k = 0 ∧ i = 0) ∨ (k = 1 ∧ i < 5) ∨ (k = 8 ∧ i = 0) ∨ (k = 9 ∧ i < 4) := by
  match k, h with
  | 0, h => exact Or.inl ⟨rfl, h⟩
  | 1, h => exact Or.inr (Or.inl ⟨rfl, h⟩)
  | 2, h => exact absurd h (Nat.not_lt_zero i)
  | 3, h => exact absurd h (Nat.not_lt_zero i)
  | 4, h => exact absurd h (Nat.not_lt_zero i)
  | 5, h => exact absurd h (Nat.not_lt_zero i)
  | 6, h => exact absurd h (Nat.not_lt_zero i)
  | 7, h => exact absurd h (Nat.not_lt_zero i)
  | 8, h => exact Or.inr (Or.inr (Or.inl ⟨rfl, h⟩))
  | 9, h => exact Or.inr (Or.inr (Or.inr ⟨rfl, h⟩))
  | 10, h => exact absurd h.2 (Nat.not_lt_zero 0)
  | _ + 11, h => exact h.elim
theorem cPos_inj {k i k' i' : Nat} (h : (k = 0 ∧ i = 0) ∨ (k = 1 ∧ i < 5) ∨ (k = 8 ∧ i = 0) ∨ (k = 9 ∧ i < 4)) (h' : (k' = 0 ∧ i' = 0) ∨ (k' = 1 ∧ i' < 5) ∨ (k' = 8 ∧ i' = 0) ∨ (k' = 9 ∧ i' < 4)) (e : cPos k i = cPos k' i') : k = k' ∧ i = i' := by
  unfold cPos at e
  rcases h with ⟨rfl, h⟩ | ⟨rfl, h⟩ | ⟨rfl, h⟩ | ⟨rfl, h⟩ <;> rcases h' with ⟨rfl, h'⟩ | ⟨rfl, h'⟩ | ⟨rfl, h'⟩ | ⟨rfl, h'⟩ <;> simp at e <;> first | exact ⟨rfl, by omega⟩ | omega
theorem init_C {D : va_G} {Y : Nat → Nat} {A : Nat → Prop} {H : Heap} {o q1 q2 q3 q4 q5 q6 q7 q8 q9 q10 : Nat} (h : WL D A [(o, .inr (6, [.ref q1, .ref q2, .ref q3, .ref q4, .ref q5, .int 0, .int 0, .int 0])), (q1, .inl (Y 2, 5, .inr (.inr (.inr (.inr (va_up (va_up (va_up (va_up (va_up (fun _ => none) 0 (some q6)) 1 (some q7)) 2 (some q8)) 3 (some q9)) 4 (some q10))))))), (q2, .inr (0, [.int 0, .ref (Y 4), .int 0])), (q3, .inr (0, [.int 0, .ref (Y 4), .int 0])), (q4, .inr (0, [.int 0, .ref (Y 4), .int 0])), (q5, .inr (0, [.int 0, .ref (Y 4), .int 0])), (q6, .inr (1, [.int 0, .int 0, .int 1, .int 0])), (q7, .inr (1, [.int (0 + 1), .int 0, .int 1, .int 0])), (q8, .inr (1, [.int (0 + 1 + 1), .int 0, .int 1, .int 0])), (q9, .inr (1, [.int (0 + 1 + 1 + 1), .int 0, .int 1, .int 0])), (q10, .inr (1, [.int (0 + 1 + 1 + 1 + 1), .int 0, .int 1, .int 0]))] H) : WX D Y A sg0 (fun k i => if k = 0 then o else if k = 8 then q1 else if k = 9 then (if i = 0 then q2 else if i = 1 then q3 else if i = 2 then q4 else q5) else if k = 1 then (if i = 0 then q6 else if i = 1 then q7 else if i = 2 then q8 else if i = 3 then q9 else q10) else Y 4) [] H := by
  have hat : ∀ k i, live sg0 k i → ∃ e, ([(o, .inr (6, [.ref q1, .ref q2, .ref q3, .ref q4, .ref q5, .int 0, .int 0, .int 0])), (q1, .inl (Y 2, 5, .inr (.inr (.inr (.inr (va_up (va_up (va_up (va_up (va_up (fun _ => none) 0 (some q6)) 1 (some q7)) 2 (some q8)) 3 (some q9)) 4 (some q10))))))), (q2, .inr (0, [.int 0, .ref (Y 4), .int 0])), (q3, .inr (0, [.int 0, .ref (Y 4), .int 0])), (q4, .inr (0, [.int 0, .ref (Y 4), .int 0])), (q5, .inr (0, [.int 0, .ref (Y 4), .int 0])), (q6, .inr (1, [.int 0, .int 0, .int 1, .int 0])), (q7, .inr (1, [.int (0 + 1), .int 0, .int 1, .int 0])), (q8, .inr (1, [.int (0 + 1 + 1), .int 0, .int 1, .int 0])), (q9, .inr (1, [.int (0 + 1 + 1 + 1), .int 0, .int 1, .int 0])), (q10, .inr (1, [.int (0 + 1 + 1 + 1 + 1), .int 0, .int 1, .int 0]))] : va_W)[cPos k i]? = some ((fun k i => if k = 0 then o else if k = 8 then q1 else if k = 9 then (if i = 0 then q2 else if i = 1 then q3 else if i = 2 then q4 else q5) else if k = 1 then (if i = 0 then q6 else if i = 1 then q7 else if i = 2 then q8 else if i = 3 then q9 else q10) else Y 4) k i, e) ∧ (va_at D vwCl ((fun k i => if k = 0 then o else if k = 8 then q1 else if k = 9 then (if i = 0 then q2 else if i = 1 then q3 else if i = 2 then q4 else q5) else if k = 1 then (if i = 0 then q6 else if i = 1 then q7 else if i = 2 then q8 else if i = 3 then q9 else q10) else Y 4) k i, e) H → va_at D vwCl ((fun k i => if k = 0 then o else if k = 8 then q1 else if k = 9 then (if i = 0 then q2 else if i = 1 then q3 else if i = 2 then q4 else q5) else if k = 1 then (if i = 0 then q6 else if i = 1 then q7 else if i = 2 then q8 else if i = 3 then q9 else q10) else Y 4) k i, cel Y sg0 (fun k i => if k = 0 then o else if k = 8 then q1 else if k = 9 then (if i = 0 then q2 else if i = 1 then q3 else if i = 2 then q4 else q5) else if k = 1 then (if i = 0 then q6 else if i = 1 then q7 else if i = 2 then q8 else if i = 3 then q9 else q10) else Y 4) k i) H) := by
    intro k i hl
    rcases sg0_live hl with ⟨rfl, h⟩ | ⟨rfl, h⟩ | ⟨rfl, h⟩ | ⟨rfl, h⟩
    · subst h
      exact ⟨_, rfl, fun z => z⟩
    · rcases (show i = 0 ∨ i = 1 ∨ i = 2 ∨ i = 3 ∨ i = 4 by omega) with rfl | rfl | rfl | rfl | rfl <;> exact ⟨_, rfl, fun z => z⟩
    · subst h
      refine ⟨_, rfl, fun z => ?_⟩
      have z2 : H[q1]? = some (arrV (Y 2) 5 (fun j => va_rf (((va_up (va_up (va_up (va_up (va_up (fun _ => none) 0 (some q6)) 1 (some q7)) 2 (some q8)) 3 (some q9)) 4 (some q10))) j))) := z
      show H[q1]? = some (arrV (Y 2) 5 (fun j => va_rf (some ((fun k i => if k = 0 then o else if k = 8 then q1 else if k = 9 then (if i = 0 then q2 else if i = 1 then q3 else if i = 2 then q4 else q5) else if k = 1 then (if i = 0 then q6 else if i = 1 then q7 else if i = 2 then q8 else if i = 3 then q9 else q10) else Y 4) 1 j))))
      refine z2.trans (congrArg some (arrV_cg (fun j hj => ?_)))
      rcases (show j = 0 ∨ j = 1 ∨ j = 2 ∨ j = 3 ∨ j = 4 by omega) with rfl | rfl | rfl | rfl | rfl <;> rfl
    · rcases (show i = 0 ∨ i = 1 ∨ i = 2 ∨ i = 3 by omega) with rfl | rfl | rfl | rfl <;> exact ⟨_, rfl, fun z => z⟩
  refine ⟨fun k i hl => ?_, fun k i k' i' hl hl' he => ?_, fun L hL hz => rfl, fun j x hx => no_nil hx, fun i j x y hx => no_nil hx⟩
  · obtain ⟨e, h1, h2⟩ := hat k i hl
    exact ⟨h2 (h.1 _ _ h1), h.2.2 _ _ h1⟩
  · obtain ⟨e, h1, -⟩ := hat k i hl
    obtain ⟨e2, h2, -⟩ := hat k' i' hl'
    exact cPos_inj (sg0_live hl) (sg0_live hl') (h.2.1 _ _ _ _ h1 h2 he)
set_option maxRecDepth 100000 in
set_option maxHeartbeats 4000000 in
theorem cc_init (l : Launch) (D : va_G) (Y : Nat → Nat) (A : Nat → Prop) (o : Nat) : CT l yX5_init (Cond.code yX5_init cX5_init 2 none) 4 72 D Y A [.ref o] (WL D A [(o, .inr (6, [.null, .null, .null, .null, .null, .int 0, .int 0, .int 0]))]) (fun _ : Nat → Nat → Nat => none) (fun al => fun H => al 0 0 = o ∧ WX D Y A sg0 al [] H) noX 10 37 := by
  refine CT.of (by decide) (Nat.le_of_ble_eq_true rfl) ?_
  intro p_ e_ s_ m_ below_ meth_ c_ C0 K0 hr hlk htab hnm_
  refine k_aload_n C0 dX5_init_0 0 rfl ?_
  refine k_objInit C0 dX5_init_1 (tA 27 rfl rfl) (tA 28 rfl rfl) (tA 29 rfl rfl) (Nat.le_of_ble_eq_true rfl) (Nat.le_of_ble_eq_true rfl) ?_
  refine k_aload_n C0 dX5_init_4 0 rfl ?_
  refine k_iconst C0 5 dX5_init_5 (by decide) ?_
  refine w_newq C0 K0 5 (tA 30 rfl rfl) K0.1.2.2.2.2.2.2.2.2 (t0 := 2) rfl (by decide) (by decide) (by decide) (Nat.le_of_ble_eq_true rfl) (Nat.le_of_ble_eq_true rfl) dX5_init_6 (fun q1 => ?_)
  refine w_putF C0 K0 hnm_ 0 (ty := .array (.object "ShopPaymaster$Land")) rfl inX5 rfl tyX5 tyX5_ok nmX5 0 (by decide) dX5_init_9 (tA 81 rfl rfl) (fun _ h => h) rfl rfl (by decide +kernel) rfl rfl (Nat.le_of_ble_eq_true rfl) [(o, .inr (6, [.ref q1, .null, .null, .null, .null, .int 0, .int 0, .int 0])), (q1, .inl (Y 2, 5, .inr (.inr (.inr (.inr (fun _ => none))))))] rfl ?_
  refine k_aload_n C0 dX5_init_12 0 rfl ?_
  refine w_new (ci := 0) C0 K0 [.int 0, .null, .int 0] inJx4a65c rfl tyJx4a65c tyJx4a65c_ok (tA 32 rfl rfl) (tA 33 rfl rfl) (tA 4 rfl rfl) (fun j hj => by rcases (show j = 0 ∨ j = 1 ∨ j = 2 by omega) with rfl | rfl | rfl <;> rfl) (Nat.le_of_ble_eq_true rfl) (Nat.le_of_ble_eq_true rfl) dX5_init_13 (fun q2 => ?_)
  refine k_dup C0 dX5_init_16 rfl ?_
  refine k_callI C0 K0 dX5_init_17 (ci_listW l D Y A [(o, .inr (6, [.ref q1, .null, .null, .null, .null, .int 0, .int 0, .int 0])), (q1, .inl (Y 2, 5, .inr (.inr (.inr (.inr (fun _ => none)))))), (q2, .inr (0, [.int 0, .null, .int 0]))] q2 2 rfl) (tA 36 rfl rfl) (tA 4 rfl rfl) (tA 34 rfl rfl) (tA 35 rfl rfl) rfl hyJx4a65c_init_da8c8 rfl (by exact Nat.le_of_ble_eq_true rfl) ⟨Nat.le_of_ble_eq_true rfl, Nat.le_of_ble_eq_true rfl⟩ ⟨Nat.le_of_ble_eq_true rfl, Nat.le_of_ble_eq_true rfl⟩ (fun E => kX_no E) (fun _ => k_W (V' := WL D A [(o, .inr (6, [.ref q1, .null, .null, .null, .null, .int 0, .int 0, .int 0])), (q1, .inl (Y 2, 5, .inr (.inr (.inr (.inr (fun _ => none)))))), (q2, .inr (0, [.int 0, .ref (Y 4), .int 0]))]) (fun H h => h) ?_)
  refine w_putF C0 K0 hnm_ 0 (ty := .object "java/util/ArrayList") rfl inX5 rfl tyX5 tyX5_ok nmX5 1 (by decide) dX5_init_20 (tA 82 rfl rfl) (fun _ h => h) rfl rfl (by decide +kernel) rfl rfl (Nat.le_of_ble_eq_true rfl) [(o, .inr (6, [.ref q1, .ref q2, .null, .null, .null, .int 0, .int 0, .int 0])), (q1, .inl (Y 2, 5, .inr (.inr (.inr (.inr (fun _ => none)))))), (q2, .inr (0, [.int 0, .ref (Y 4), .int 0]))] rfl ?_
  refine k_aload_n C0 dX5_init_23 0 rfl ?_
  refine w_new (ci := 0) C0 K0 [.int 0, .null, .int 0] inJx4a65c rfl tyJx4a65c tyJx4a65c_ok (tA 32 rfl rfl) (tA 33 rfl rfl) (tA 4 rfl rfl) (fun j hj => by rcases (show j = 0 ∨ j = 1 ∨ j = 2 by omega) with rfl | rfl | rfl <;> rfl) (Nat.le_of_ble_eq_true rfl) (Nat.le_of_ble_eq_true rfl) dX5_init_24 (fun q3 => ?_)
  refine k_dup C0 dX5_init_27 rfl ?_
  refine k_callI C0 K0 dX5_init_28 (ci_listW l D Y A [(o, .inr (6, [.ref q1, .ref q2, .null, .null, .null, .int 0, .int 0, .int 0])), (q1, .inl (Y 2, 5, .inr (.inr (.inr (.inr (fun _ => none)))))), (q2, .inr (0, [.int 0, .ref (Y 4), .int 0])), (q3, .inr (0, [.int 0, .null, .int 0]))] q3 3 rfl) (tA 36 rfl rfl) (tA 4 rfl rfl) (tA 34 rfl rfl) (tA 35 rfl rfl) rfl hyJx4a65c_init_da8c8 rfl (by exact Nat.le_of_ble_eq_true rfl) ⟨Nat.le_of_ble_eq_true rfl, Nat.le_of_ble_eq_true rfl⟩ ⟨Nat.le_of_ble_eq_true rfl, Nat.le_of_ble_eq_true rfl⟩ (fun E => kX_no E) (fun _ => k_W (V' := WL D A [(o, .inr (6, [.ref q1, .ref q2, .null, .null, .null, .int 0, .int 0, .int 0])), (q1, .inl (Y 2, 5, .inr (.inr (.inr (.inr (fun _ => none)))))), (q2, .inr (0, [.int 0, .ref (Y 4), .int 0])), (q3, .inr (0, [.int 0, .ref (Y 4), .int 0]))]) (fun H h => h) ?_)
  refine w_putF C0 K0 hnm_ 0 (ty := .object "java/util/ArrayList") rfl inX5 rfl tyX5 tyX5_ok nmX5 2 (by decide) dX5_init_31 (tA 83 rfl rfl) (fun _ h => h) rfl rfl (by decide +kernel) rfl rfl (Nat.le_of_ble_eq_true rfl) [(o, .inr (6, [.ref q1, .ref q2, .ref q3, .null, .null, .int 0, .int 0, .int 0])), (q1, .inl (Y 2, 5, .inr (.inr (.inr (.inr (fun _ => none)))))), (q2, .inr (0, [.int 0, .ref (Y 4), .int 0])), (q3, .inr (0, [.int 0, .ref (Y 4), .int 0]))] rfl ?_
  refine k_aload_n C0 dX5_init_34 0 rfl ?_
  refine w_new (ci := 0) C0 K0 [.int 0, .null, .int 0] inJx4a65c rfl tyJx4a65c tyJx4a65c_ok (tA 32 rfl rfl) (tA 33 rfl rfl) (tA 4 rfl rfl) (fun j hj => by rcases (show j = 0 ∨ j = 1 ∨ j = 2 by omega) with rfl | rfl | rfl <;> rfl) (Nat.le_of_ble_eq_true rfl) (Nat.le_of_ble_eq_true rfl) dX5_init_35 (fun q4 => ?_)
  refine k_dup C0 dX5_init_38 rfl ?_
  refine k_callI C0 K0 dX5_init_39 (ci_listW l D Y A [(o, .inr (6, [.ref q1, .ref q2, .ref q3, .null, .null, .int 0, .int 0, .int 0])), (q1, .inl (Y 2, 5, .inr (.inr (.inr (.inr (fun _ => none)))))), (q2, .inr (0, [.int 0, .ref (Y 4), .int 0])), (q3, .inr (0, [.int 0, .ref (Y 4), .int 0])), (q4, .inr (0, [.int 0, .null, .int 0]))] q4 4 rfl) (tA 36 rfl rfl) (tA 4 rfl rfl) (tA 34 rfl rfl) (tA 35 rfl rfl) rfl hyJx4a65c_init_da8c8 rfl (by exact Nat.le_of_ble_eq_true rfl) ⟨Nat.le_of_ble_eq_true rfl, Nat.le_of_ble_eq_true rfl⟩ ⟨Nat.le_of_ble_eq_true rfl, Nat.le_of_ble_eq_true rfl⟩ (fun E => kX_no E) (fun _ => k_W (V' := WL D A [(o, .inr (6, [.ref q1, .ref q2, .ref q3, .null, .null, .int 0, .int 0, .int 0])), (q1, .inl (Y 2, 5, .inr (.inr (.inr (.inr (fun _ => none)))))), (q2, .inr (0, [.int 0, .ref (Y 4), .int 0])), (q3, .inr (0, [.int 0, .ref (Y 4), .int 0])), (q4, .inr (0, [.int 0, .ref (Y 4), .int 0]))]) (fun H h => h) ?_)
  refine w_putF C0 K0 hnm_ 0 (ty := .object "java/util/ArrayList") rfl inX5 rfl tyX5 tyX5_ok nmX5 3 (by decide) dX5_init_42 (tA 84 rfl rfl) (fun _ h => h) rfl rfl (by decide +kernel) rfl rfl (Nat.le_of_ble_eq_true rfl) [(o, .inr (6, [.ref q1, .ref q2, .ref q3, .ref q4, .null, .int 0, .int 0, .int 0])), (q1, .inl (Y 2, 5, .inr (.inr (.inr (.inr (fun _ => none)))))), (q2, .inr (0, [.int 0, .ref (Y 4), .int 0])), (q3, .inr (0, [.int 0, .ref (Y 4), .int 0])), (q4, .inr (0, [.int 0, .ref (Y 4), .int 0]))] rfl ?_
  refine k_aload_n C0 dX5_init_45 0 rfl ?_
  refine w_new (ci := 0) C0 K0 [.int 0, .null, .int 0] inJx4a65c rfl tyJx4a65c tyJx4a65c_ok (tA 32 rfl rfl) (tA 33 rfl rfl) (tA 4 rfl rfl) (fun j hj => by rcases (show j = 0 ∨ j = 1 ∨ j = 2 by omega) with rfl | rfl | rfl <;> rfl) (Nat.le_of_ble_eq_true rfl) (Nat.le_of_ble_eq_true rfl) dX5_init_46 (fun q5 => ?_)
  refine k_dup C0 dX5_init_49 rfl ?_
  refine k_callI C0 K0 dX5_init_50 (ci_listW l D Y A [(o, .inr (6, [.ref q1, .ref q2, .ref q3, .ref q4, .null, .int 0, .int 0, .int 0])), (q1, .inl (Y 2, 5, .inr (.inr (.inr (.inr (fun _ => none)))))), (q2, .inr (0, [.int 0, .ref (Y 4), .int 0])), (q3, .inr (0, [.int 0, .ref (Y 4), .int 0])), (q4, .inr (0, [.int 0, .ref (Y 4), .int 0])), (q5, .inr (0, [.int 0, .null, .int 0]))] q5 5 rfl) (tA 36 rfl rfl) (tA 4 rfl rfl) (tA 34 rfl rfl) (tA 35 rfl rfl) rfl hyJx4a65c_init_da8c8 rfl (by exact Nat.le_of_ble_eq_true rfl) ⟨Nat.le_of_ble_eq_true rfl, Nat.le_of_ble_eq_true rfl⟩ ⟨Nat.le_of_ble_eq_true rfl, Nat.le_of_ble_eq_true rfl⟩ (fun E => kX_no E) (fun _ => k_W (V' := WL D A [(o, .inr (6, [.ref q1, .ref q2, .ref q3, .ref q4, .null, .int 0, .int 0, .int 0])), (q1, .inl (Y 2, 5, .inr (.inr (.inr (.inr (fun _ => none)))))), (q2, .inr (0, [.int 0, .ref (Y 4), .int 0])), (q3, .inr (0, [.int 0, .ref (Y 4), .int 0])), (q4, .inr (0, [.int 0, .ref (Y 4), .int 0])), (q5, .inr (0, [.int 0, .ref (Y 4), .int 0]))]) (fun H h => h) ?_)
  refine w_putF C0 K0 hnm_ 0 (ty := .object "java/util/ArrayList") rfl inX5 rfl tyX5 tyX5_ok nmX5 4 (by decide) dX5_init_53 (tA 85 rfl rfl) (fun _ h => h) rfl rfl (by decide +kernel) rfl rfl (Nat.le_of_ble_eq_true rfl) [(o, .inr (6, [.ref q1, .ref q2, .ref q3, .ref q4, .ref q5, .int 0, .int 0, .int 0])), (q1, .inl (Y 2, 5, .inr (.inr (.inr (.inr (fun _ => none)))))), (q2, .inr (0, [.int 0, .ref (Y 4), .int 0])), (q3, .inr (0, [.int 0, .ref (Y 4), .int 0])), (q4, .inr (0, [.int 0, .ref (Y 4), .int 0])), (q5, .inr (0, [.int 0, .ref (Y 4), .int 0]))] rfl ?_
  refine k_aload_n C0 dX5_init_56 0 rfl ?_
  refine k_iconst C0 0 dX5_init_57 (by decide) ?_
  refine w_put C0 K0 0 (ty := .int) rfl inX5 rfl tyX5 tyX5_ok nmX5 5 (by decide) dX5_init_58 (tA 86 rfl rfl) (fun _ h => h) rfl (by decide +kernel) rfl rfl (Nat.le_of_ble_eq_true rfl) [(o, .inr (6, [.ref q1, .ref q2, .ref q3, .ref q4, .ref q5, .int 0, .int 0, .int 0])), (q1, .inl (Y 2, 5, .inr (.inr (.inr (.inr (fun _ => none)))))), (q2, .inr (0, [.int 0, .ref (Y 4), .int 0])), (q3, .inr (0, [.int 0, .ref (Y 4), .int 0])), (q4, .inr (0, [.int 0, .ref (Y 4), .int 0])), (q5, .inr (0, [.int 0, .ref (Y 4), .int 0]))] rfl ?_
  refine k_aload_n C0 dX5_init_61 0 rfl ?_
  refine k_iconst C0 0 dX5_init_62 (by decide) ?_
  refine w_put C0 K0 0 (ty := .int) rfl inX5 rfl tyX5 tyX5_ok nmX5 6 (by decide) dX5_init_63 (tA 87 rfl rfl) (fun _ h => h) rfl (by decide +kernel) rfl rfl (Nat.le_of_ble_eq_true rfl) [(o, .inr (6, [.ref q1, .ref q2, .ref q3, .ref q4, .ref q5, .int 0, .int 0, .int 0])), (q1, .inl (Y 2, 5, .inr (.inr (.inr (.inr (fun _ => none)))))), (q2, .inr (0, [.int 0, .ref (Y 4), .int 0])), (q3, .inr (0, [.int 0, .ref (Y 4), .int 0])), (q4, .inr (0, [.int 0, .ref (Y 4), .int 0])), (q5, .inr (0, [.int 0, .ref (Y 4), .int 0]))] rfl ?_
  refine k_aload_n C0 dX5_init_66 0 rfl ?_
  refine k_iconst C0 0 dX5_init_67 (by decide) ?_
  refine w_put C0 K0 0 (ty := .int) rfl inX5 rfl tyX5 tyX5_ok nmX5 7 (by decide) dX5_init_68 (tA 88 rfl rfl) (fun _ h => h) rfl (by decide +kernel) rfl rfl (Nat.le_of_ble_eq_true rfl) [(o, .inr (6, [.ref q1, .ref q2, .ref q3, .ref q4, .ref q5, .int 0, .int 0, .int 0])), (q1, .inl (Y 2, 5, .inr (.inr (.inr (.inr (fun _ => none)))))), (q2, .inr (0, [.int 0, .ref (Y 4), .int 0])), (q3, .inr (0, [.int 0, .ref (Y 4), .int 0])), (q4, .inr (0, [.int 0, .ref (Y 4), .int 0])), (q5, .inr (0, [.int 0, .ref (Y 4), .int 0]))] rfl ?_
  refine k_iconst C0 0 dX5_init_71 (by decide) ?_
  refine k_istore_n C0 [(1, _), (0, _)] dX5_init_72 (by decide) rfl ?_
  refine k_iload_n C0 dX5_init_73 0 rfl ?_
  refine k_aload_n C0 dX5_init_74 1 rfl ?_
  refine w_get C0 K0 0 rfl inX5 rfl 0 (.ref q1) (by decide) dX5_init_75 (tA 81 rfl rfl) (fun _ h => h) rfl ?_
  refine w_alen C0 K0 1 rfl 2 rfl 5 rfl dX5_init_78 ?_
  refine k_icmp_ge C0 102 dX5_init_79 (by decide) (fun zz => absurd zz (by decide)) (fun _ => ?_)
  refine k_aload_n C0 dX5_init_82 1 rfl ?_
  refine w_get C0 K0 0 rfl inX5 rfl 0 (.ref q1) (by decide) dX5_init_83 (tA 81 rfl rfl) (fun _ h => h) rfl ?_
  refine k_iload_n C0 dX5_init_86 0 rfl ?_
  refine w_new (ci := 1) C0 K0 [.int 0, .int 0, .int 0, .int 0] inX0 rfl tyX0 tyX0_ok (tA 30 rfl rfl) (tA 58 rfl rfl) (tA 5 rfl rfl) (fun j hj => by rcases (show j = 0 ∨ j = 1 ∨ j = 2 ∨ j = 3 by omega) with rfl | rfl | rfl | rfl <;> rfl) (Nat.le_of_ble_eq_true rfl) (Nat.le_of_ble_eq_true rfl) dX5_init_87 (fun q6 => ?_)
  refine k_dup C0 dX5_init_90 rfl ?_
  refine k_iload_n C0 dX5_init_91 0 rfl ?_
  refine k_callI C0 K0 dX5_init_92 (ci_landW l D Y A [(o, .inr (6, [.ref q1, .ref q2, .ref q3, .ref q4, .ref q5, .int 0, .int 0, .int 0])), (q1, .inl (Y 2, 5, .inr (.inr (.inr (.inr (fun _ => none)))))), (q2, .inr (0, [.int 0, .ref (Y 4), .int 0])), (q3, .inr (0, [.int 0, .ref (Y 4), .int 0])), (q4, .inr (0, [.int 0, .ref (Y 4), .int 0])), (q5, .inr (0, [.int 0, .ref (Y 4), .int 0])), (q6, .inr (1, [.int 0, .int 0, .int 0, .int 0]))] q6 6 rfl (0 : Int32)) (tA 61 rfl rfl) (tA 5 rfl rfl) (tA 59 rfl rfl) (tA 60 rfl rfl) rfl hyX0_init rfl (by exact Nat.le_of_ble_eq_true rfl) ⟨Nat.le_of_ble_eq_true rfl, Nat.le_of_ble_eq_true rfl⟩ ⟨Nat.le_of_ble_eq_true rfl, Nat.le_of_ble_eq_true rfl⟩ (fun E => kX_no E) (fun _ => k_W (V' := WL D A [(o, .inr (6, [.ref q1, .ref q2, .ref q3, .ref q4, .ref q5, .int 0, .int 0, .int 0])), (q1, .inl (Y 2, 5, .inr (.inr (.inr (.inr (fun _ => none)))))), (q2, .inr (0, [.int 0, .ref (Y 4), .int 0])), (q3, .inr (0, [.int 0, .ref (Y 4), .int 0])), (q4, .inr (0, [.int 0, .ref (Y 4), .int 0])), (q5, .inr (0, [.int 0, .ref (Y 4), .int 0])), (q6, .inr (1, [.int 0, .int 0, .int 1, .int 0]))]) (fun H h => h) ?_)
  refine w_aast (i := 0) C0 K0 1 6 rfl rfl (show vp_in (nI 0) 5 from vp_in_nI (by decide) (by decide)) dX5_init_95 [(o, .inr (6, [.ref q1, .ref q2, .ref q3, .ref q4, .ref q5, .int 0, .int 0, .int 0])), (q1, .inl (Y 2, 5, .inr (.inr (.inr (.inr (va_up (fun _ => none) 0 (some q6))))))), (q2, .inr (0, [.int 0, .ref (Y 4), .int 0])), (q3, .inr (0, [.int 0, .ref (Y 4), .int 0])), (q4, .inr (0, [.int 0, .ref (Y 4), .int 0])), (q5, .inr (0, [.int 0, .ref (Y 4), .int 0])), (q6, .inr (1, [.int 0, .int 0, .int 1, .int 0]))] rfl ?_
  refine k_iinc C0 (0 + 1) [(1, _), (0, _)] dX5_init_96 0 rfl rfl (by decide) rfl ?_
  refine k_goto C0 73 dX5_init_99 (by decide) ?_
  refine k_iload_n C0 dX5_init_73 0 rfl ?_
  refine k_aload_n C0 dX5_init_74 1 rfl ?_
  refine w_get C0 K0 0 rfl inX5 rfl 0 (.ref q1) (by decide) dX5_init_75 (tA 81 rfl rfl) (fun _ h => h) rfl ?_
  refine w_alen C0 K0 1 rfl 2 rfl 5 rfl dX5_init_78 ?_
  refine k_icmp_ge C0 102 dX5_init_79 (by decide) (fun zz => absurd zz (by decide)) (fun _ => ?_)
  refine k_aload_n C0 dX5_init_82 1 rfl ?_
  refine w_get C0 K0 0 rfl inX5 rfl 0 (.ref q1) (by decide) dX5_init_83 (tA 81 rfl rfl) (fun _ h => h) rfl ?_
  refine k_iload_n C0 dX5_init_86 0 rfl ?_
  refine w_new (ci := 1) C0 K0 [.int 0, .int 0, .int 0, .int 0] inX0 rfl tyX0 tyX0_ok (tA 30 rfl rfl) (tA 58 rfl rfl) (tA 5 rfl rfl) (fun j hj => by rcases (show j = 0 ∨ j = 1 ∨ j = 2 ∨ j = 3 by omega) with rfl | rfl | rfl | rfl <;> rfl) (Nat.le_of_ble_eq_true rfl) (Nat.le_of_ble_eq_true rfl) dX5_init_87 (fun q7 => ?_)
  refine k_dup C0 dX5_init_90 rfl ?_
  refine k_iload_n C0 dX5_init_91 0 rfl ?_
  refine k_callI C0 K0 dX5_init_92 (ci_landW l D Y A [(o, .inr (6, [.ref q1, .ref q2, .ref q3, .ref q4, .ref q5, .int 0, .int 0, .int 0])), (q1, .inl (Y 2, 5, .inr (.inr (.inr (.inr (va_up (fun _ => none) 0 (some q6))))))), (q2, .inr (0, [.int 0, .ref (Y 4), .int 0])), (q3, .inr (0, [.int 0, .ref (Y 4), .int 0])), (q4, .inr (0, [.int 0, .ref (Y 4), .int 0])), (q5, .inr (0, [.int 0, .ref (Y 4), .int 0])), (q6, .inr (1, [.int 0, .int 0, .int 1, .int 0])), (q7, .inr (1, [.int 0, .int 0, .int 0, .int 0]))] q7 7 rfl (0 + 1 : Int32)) (tA 61 rfl rfl) (tA 5 rfl rfl) (tA 59 rfl rfl) (tA 60 rfl rfl) rfl hyX0_init rfl (by exact Nat.le_of_ble_eq_true rfl) ⟨Nat.le_of_ble_eq_true rfl, Nat.le_of_ble_eq_true rfl⟩ ⟨Nat.le_of_ble_eq_true rfl, Nat.le_of_ble_eq_true rfl⟩ (fun E => kX_no E) (fun _ => k_W (V' := WL D A [(o, .inr (6, [.ref q1, .ref q2, .ref q3, .ref q4, .ref q5, .int 0, .int 0, .int 0])), (q1, .inl (Y 2, 5, .inr (.inr (.inr (.inr (va_up (fun _ => none) 0 (some q6))))))), (q2, .inr (0, [.int 0, .ref (Y 4), .int 0])), (q3, .inr (0, [.int 0, .ref (Y 4), .int 0])), (q4, .inr (0, [.int 0, .ref (Y 4), .int 0])), (q5, .inr (0, [.int 0, .ref (Y 4), .int 0])), (q6, .inr (1, [.int 0, .int 0, .int 1, .int 0])), (q7, .inr (1, [.int (0 + 1), .int 0, .int 1, .int 0]))]) (fun H h => h) ?_)
  refine w_aast (i := 1) C0 K0 1 7 rfl rfl (show vp_in (nI 1) 5 from vp_in_nI (by decide) (by decide)) dX5_init_95 [(o, .inr (6, [.ref q1, .ref q2, .ref q3, .ref q4, .ref q5, .int 0, .int 0, .int 0])), (q1, .inl (Y 2, 5, .inr (.inr (.inr (.inr (va_up (va_up (fun _ => none) 0 (some q6)) 1 (some q7))))))), (q2, .inr (0, [.int 0, .ref (Y 4), .int 0])), (q3, .inr (0, [.int 0, .ref (Y 4), .int 0])), (q4, .inr (0, [.int 0, .ref (Y 4), .int 0])), (q5, .inr (0, [.int 0, .ref (Y 4), .int 0])), (q6, .inr (1, [.int 0, .int 0, .int 1, .int 0])), (q7, .inr (1, [.int (0 + 1), .int 0, .int 1, .int 0]))] rfl ?_
  refine k_iinc C0 (0 + 1 + 1) [(1, _), (0, _)] dX5_init_96 0 rfl rfl (by decide) rfl ?_
  refine k_goto C0 73 dX5_init_99 (by decide) ?_
  refine k_iload_n C0 dX5_init_73 0 rfl ?_
  refine k_aload_n C0 dX5_init_74 1 rfl ?_
  refine w_get C0 K0 0 rfl inX5 rfl 0 (.ref q1) (by decide) dX5_init_75 (tA 81 rfl rfl) (fun _ h => h) rfl ?_
  refine w_alen C0 K0 1 rfl 2 rfl 5 rfl dX5_init_78 ?_
  refine k_icmp_ge C0 102 dX5_init_79 (by decide) (fun zz => absurd zz (by decide)) (fun _ => ?_)
  refine k_aload_n C0 dX5_init_82 1 rfl ?_
  refine w_get C0 K0 0 rfl inX5 rfl 0 (.ref q1) (by decide) dX5_init_83 (tA 81 rfl rfl) (fun _ h => h) rfl ?_
  refine k_iload_n C0 dX5_init_86 0 rfl ?_
  refine w_new (ci := 1) C0 K0 [.int 0, .int 0, .int 0, .int 0] inX0 rfl tyX0 tyX0_ok (tA 30 rfl rfl) (tA 58 rfl rfl) (tA 5 rfl rfl) (fun j hj => by rcases (show j = 0 ∨ j = 1 ∨ j = 2 ∨ j = 3 by omega) with rfl | rfl | rfl | rfl <;> rfl) (Nat.le_of_ble_eq_true rfl) (Nat.le_of_ble_eq_true rfl) dX5_init_87 (fun q8 => ?_)
  refine k_dup C0 dX5_init_90 rfl ?_
  refine k_iload_n C0 dX5_init_91 0 rfl ?_
  refine k_callI C0 K0 dX5_init_92 (ci_landW l D Y A [(o, .inr (6, [.ref q1, .ref q2, .ref q3, .ref q4, .ref q5, .int 0, .int 0, .int 0])), (q1, .inl (Y 2, 5, .inr (.inr (.inr (.inr (va_up (va_up (fun _ => none) 0 (some q6)) 1 (some q7))))))), (q2, .inr (0, [.int 0, .ref (Y 4), .int 0])), (q3, .inr (0, [.int 0, .ref (Y 4), .int 0])), (q4, .inr (0, [.int 0, .ref (Y 4), .int 0])), (q5, .inr (0, [.int 0, .ref (Y 4), .int 0])), (q6, .inr (1, [.int 0, .int 0, .int 1, .int 0])), (q7, .inr (1, [.int (0 + 1), .int 0, .int 1, .int 0])), (q8, .inr (1, [.int 0, .int 0, .int 0, .int 0]))] q8 8 rfl (0 + 1 + 1 : Int32)) (tA 61 rfl rfl) (tA 5 rfl rfl) (tA 59 rfl rfl) (tA 60 rfl rfl) rfl hyX0_init rfl (by exact Nat.le_of_ble_eq_true rfl) ⟨Nat.le_of_ble_eq_true rfl, Nat.le_of_ble_eq_true rfl⟩ ⟨Nat.le_of_ble_eq_true rfl, Nat.le_of_ble_eq_true rfl⟩ (fun E => kX_no E) (fun _ => k_W (V' := WL D A [(o, .inr (6, [.ref q1, .ref q2, .ref q3, .ref q4, .ref q5, .int 0, .int 0, .int 0])), (q1, .inl (Y 2, 5, .inr (.inr (.inr (.inr (va_up (va_up (fun _ => none) 0 (some q6)) 1 (some q7))))))), (q2, .inr (0, [.int 0, .ref (Y 4), .int 0])), (q3, .inr (0, [.int 0, .ref (Y 4), .int 0])), (q4, .inr (0, [.int 0, .ref (Y 4), .int 0])), (q5, .inr (0, [.int 0, .ref (Y 4), .int 0])), (q6, .inr (1, [.int 0, .int 0, .int 1, .int 0])), (q7, .inr (1, [.int (0 + 1), .int 0, .int 1, .int 0])), (q8, .inr (1, [.int (0 + 1 + 1), .int 0, .int 1, .int 0]))]) (fun H h => h) ?_)
  refine w_aast (i := 2) C0 K0 1 8 rfl rfl (show vp_in (nI 2) 5 from vp_in_nI (by decide) (by decide)) dX5_init_95 [(o, .inr (6, [.ref q1, .ref q2, .ref q3, .ref q4, .ref q5, .int 0, .int 0, .int 0])), (q1, .inl (Y 2, 5, .inr (.inr (.inr (.inr (va_up (va_up (va_up (fun _ => none) 0 (some q6)) 1 (some q7)) 2 (some q8))))))), (q2, .inr (0, [.int 0, .ref (Y 4), .int 0])), (q3, .inr (0, [.int 0, .ref (Y 4), .int 0])), (q4, .inr (0, [.int 0, .ref (Y 4), .int 0])), (q5, .inr (0, [.int 0, .ref (Y 4), .int 0])), (q6, .inr (1, [.int 0, .int 0, .int 1, .int 0])), (q7, .inr (1, [.int (0 + 1), .int 0, .int 1, .int 0])), (q8, .inr (1, [.int (0 + 1 + 1), .int 0, .int 1, .int 0]))] rfl ?_
  refine k_iinc C0 (0 + 1 + 1 + 1) [(1, _), (0, _)] dX5_init_96 0 rfl rfl (by decide) rfl ?_
  refine k_goto C0 73 dX5_init_99 (by decide) ?_
  refine k_iload_n C0 dX5_init_73 0 rfl ?_
  refine k_aload_n C0 dX5_init_74 1 rfl ?_
  refine w_get C0 K0 0 rfl inX5 rfl 0 (.ref q1) (by decide) dX5_init_75 (tA 81 rfl rfl) (fun _ h => h) rfl ?_
  refine w_alen C0 K0 1 rfl 2 rfl 5 rfl dX5_init_78 ?_
  refine k_icmp_ge C0 102 dX5_init_79 (by decide) (fun zz => absurd zz (by decide)) (fun _ => ?_)
  refine k_aload_n C0 dX5_init_82 1 rfl ?_
  refine w_get C0 K0 0 rfl inX5 rfl 0 (.ref q1) (by decide) dX5_init_83 (tA 81 rfl rfl) (fun _ h => h) rfl ?_
  refine k_iload_n C0 dX5_init_86 0 rfl ?_
  refine w_new (ci := 1) C0 K0 [.int 0, .int 0, .int 0, .int 0] inX0 rfl tyX0 tyX0_ok (tA 30 rfl rfl) (tA 58 rfl rfl) (tA 5 rfl rfl) (fun j hj => by rcases (show j = 0 ∨ j = 1 ∨ j = 2 ∨ j = 3 by omega) with rfl | rfl | rfl | rfl <;> rfl) (Nat.le_of_ble_eq_true rfl) (Nat.le_of_ble_eq_true rfl) dX5_init_87 (fun q9 => ?_)
  refine k_dup C0 dX5_init_90 rfl ?_
  refine k_iload_n C0 dX5_init_91 0 rfl ?_
  refine k_callI C0 K0 dX5_init_92 (ci_landW l D Y A [(o, .inr (6, [.ref q1, .ref q2, .ref q3, .ref q4, .ref q5, .int 0, .int 0, .int 0])), (q1, .inl (Y 2, 5, .inr (.inr (.inr (.inr (va_up (va_up (va_up (fun _ => none) 0 (some q6)) 1 (some q7)) 2 (some q8))))))), (q2, .inr (0, [.int 0, .ref (Y 4), .int 0])), (q3, .inr (0, [.int 0, .ref (Y 4), .int 0])), (q4, .inr (0, [.int 0, .ref (Y 4), .int 0])), (q5, .inr (0, [.int 0, .ref (Y 4), .int 0])), (q6, .inr (1, [.int 0, .int 0, .int 1, .int 0])), (q7, .inr (1, [.int (0 + 1), .int 0, .int 1, .int 0])), (q8, .inr (1, [.int (0 + 1 + 1), .int 0, .int 1, .int 0])), (q9, .inr (1, [.int 0, .int 0, .int 0, .int 0]))] q9 9 rfl (0 + 1 + 1 + 1 : Int32)) (tA 61 rfl rfl) (tA 5 rfl rfl) (tA 59 rfl rfl) (tA 60 rfl rfl) rfl hyX0_init rfl (by exact Nat.le_of_ble_eq_true rfl) ⟨Nat.le_of_ble_eq_true rfl, Nat.le_of_ble_eq_true rfl⟩ ⟨Nat.le_of_ble_eq_true rfl, Nat.le_of_ble_eq_true rfl⟩ (fun E => kX_no E) (fun _ => k_W (V' := WL D A [(o, .inr (6, [.ref q1, .ref q2, .ref q3, .ref q4, .ref q5, .int 0, .int 0, .int 0])), (q1, .inl (Y 2, 5, .inr (.inr (.inr (.inr (va_up (va_up (va_up (fun _ => none) 0 (some q6)) 1 (some q7)) 2 (some q8))))))), (q2, .inr (0, [.int 0, .ref (Y 4), .int 0])), (q3, .inr (0, [.int 0, .ref (Y 4), .int 0])), (q4, .inr (0, [.int 0, .ref (Y 4), .int 0])), (q5, .inr (0, [.int 0, .ref (Y 4), .int 0])), (q6, .inr (1, [.int 0, .int 0, .int 1, .int 0])), (q7, .inr (1, [.int (0 + 1), .int 0, .int 1, .int 0])), (q8, .inr (1, [.int (0 + 1 + 1), .int 0, .int 1, .int 0])), (q9, .inr (1, [.int (0 + 1 + 1 + 1), .int 0, .int 1, .int 0]))]) (fun H h => h) ?_)
  refine w_aast (i := 3) C0 K0 1 9 rfl rfl (show vp_in (nI 3) 5 from vp_in_nI (by decide) (by decide)) dX5_init_95 [(o, .inr (6, [.ref q1, .ref q2, .ref q3, .ref q4, .ref q5, .int 0, .int 0, .int 0])), (q1, .inl (Y 2, 5, .inr (.inr (.inr (.inr (va_up (va_up (va_up (va_up (fun _ => none) 0 (some q6)) 1 (some q7)) 2 (some q8)) 3 (some q9))))))), (q2, .inr (0, [.int 0, .ref (Y 4), .int 0])), (q3, .inr (0, [.int 0, .ref (Y 4), .int 0])), (q4, .inr (0, [.int 0, .ref (Y 4), .int 0])), (q5, .inr (0, [.int 0, .ref (Y 4), .int 0])), (q6, .inr (1, [.int 0, .int 0, .int 1, .int 0])), (q7, .inr (1, [.int (0 + 1), .int 0, .int 1, .int 0])), (q8, .inr (1, [.int (0 + 1 + 1), .int 0, .int 1, .int 0])), (q9, .inr (1, [.int (0 + 1 + 1 + 1), .int 0, .int 1, .int 0]))] rfl ?_
  refine k_iinc C0 (0 + 1 + 1 + 1 + 1) [(1, _), (0, _)] dX5_init_96 0 rfl rfl (by decide) rfl ?_
  refine k_goto C0 73 dX5_init_99 (by decide) ?_
  refine k_iload_n C0 dX5_init_73 0 rfl ?_
  refine k_aload_n C0 dX5_init_74 1 rfl ?_
  refine w_get C0 K0 0 rfl inX5 rfl 0 (.ref q1) (by decide) dX5_init_75 (tA 81 rfl rfl) (fun _ h => h) rfl ?_
  refine w_alen C0 K0 1 rfl 2 rfl 5 rfl dX5_init_78 ?_
  refine k_icmp_ge C0 102 dX5_init_79 (by decide) (fun zz => absurd zz (by decide)) (fun _ => ?_)
  refine k_aload_n C0 dX5_init_82 1 rfl ?_
  refine w_get C0 K0 0 rfl inX5 rfl 0 (.ref q1) (by decide) dX5_init_83 (tA 81 rfl rfl) (fun _ h => h) rfl ?_
  refine k_iload_n C0 dX5_init_86 0 rfl ?_
  refine w_new (ci := 1) C0 K0 [.int 0, .int 0, .int 0, .int 0] inX0 rfl tyX0 tyX0_ok (tA 30 rfl rfl) (tA 58 rfl rfl) (tA 5 rfl rfl) (fun j hj => by rcases (show j = 0 ∨ j = 1 ∨ j = 2 ∨ j = 3 by omega) with rfl | rfl | rfl | rfl <;> rfl) (Nat.le_of_ble_eq_true rfl) (Nat.le_of_ble_eq_true rfl) dX5_init_87 (fun q10 => ?_)
  refine k_dup C0 dX5_init_90 rfl ?_
  refine k_iload_n C0 dX5_init_91 0 rfl ?_
  refine k_callI C0 K0 dX5_init_92 (ci_landW l D Y A [(o, .inr (6, [.ref q1, .ref q2, .ref q3, .ref q4, .ref q5, .int 0, .int 0, .int 0])), (q1, .inl (Y 2, 5, .inr (.inr (.inr (.inr (va_up (va_up (va_up (va_up (fun _ => none) 0 (some q6)) 1 (some q7)) 2 (some q8)) 3 (some q9))))))), (q2, .inr (0, [.int 0, .ref (Y 4), .int 0])), (q3, .inr (0, [.int 0, .ref (Y 4), .int 0])), (q4, .inr (0, [.int 0, .ref (Y 4), .int 0])), (q5, .inr (0, [.int 0, .ref (Y 4), .int 0])), (q6, .inr (1, [.int 0, .int 0, .int 1, .int 0])), (q7, .inr (1, [.int (0 + 1), .int 0, .int 1, .int 0])), (q8, .inr (1, [.int (0 + 1 + 1), .int 0, .int 1, .int 0])), (q9, .inr (1, [.int (0 + 1 + 1 + 1), .int 0, .int 1, .int 0])), (q10, .inr (1, [.int 0, .int 0, .int 0, .int 0]))] q10 10 rfl (0 + 1 + 1 + 1 + 1 : Int32)) (tA 61 rfl rfl) (tA 5 rfl rfl) (tA 59 rfl rfl) (tA 60 rfl rfl) rfl hyX0_init rfl (by exact Nat.le_of_ble_eq_true rfl) ⟨Nat.le_of_ble_eq_true rfl, Nat.le_of_ble_eq_true rfl⟩ ⟨Nat.le_of_ble_eq_true rfl, Nat.le_of_ble_eq_true rfl⟩ (fun E => kX_no E) (fun _ => k_W (V' := WL D A [(o, .inr (6, [.ref q1, .ref q2, .ref q3, .ref q4, .ref q5, .int 0, .int 0, .int 0])), (q1, .inl (Y 2, 5, .inr (.inr (.inr (.inr (va_up (va_up (va_up (va_up (fun _ => none) 0 (some q6)) 1 (some q7)) 2 (some q8)) 3 (some q9))))))), (q2, .inr (0, [.int 0, .ref (Y 4), .int 0])), (q3, .inr (0, [.int 0, .ref (Y 4), .int 0])), (q4, .inr (0, [.int 0, .ref (Y 4), .int 0])), (q5, .inr (0, [.int 0, .ref (Y 4), .int 0])), (q6, .inr (1, [.int 0, .int 0, .int 1, .int 0])), (q7, .inr (1, [.int (0 + 1), .int 0, .int 1, .int 0])), (q8, .inr (1, [.int (0 + 1 + 1), .int 0, .int 1, .int 0])), (q9, .inr (1, [.int (0 + 1 + 1 + 1), .int 0, .int 1, .int 0])), (q10, .inr (1, [.int (0 + 1 + 1 + 1 + 1), .int 0, .int 1, .int 0]))]) (fun H h => h) ?_)
  refine w_aast (i := 4) C0 K0 1 10 rfl rfl (show vp_in (nI 4) 5 from vp_in_nI (by decide) (by decide)) dX5_init_95 [(o, .inr (6, [.ref q1, .ref q2, .ref q3, .ref q4, .ref q5, .int 0, .int 0, .int 0])), (q1, .inl (Y 2, 5, .inr (.inr (.inr (.inr (va_up (va_up (va_up (va_up (va_up (fun _ => none) 0 (some q6)) 1 (some q7)) 2 (some q8)) 3 (some q9)) 4 (some q10))))))), (q2, .inr (0, [.int 0, .ref (Y 4), .int 0])), (q3, .inr (0, [.int 0, .ref (Y 4), .int 0])), (q4, .inr (0, [.int 0, .ref (Y 4), .int 0])), (q5, .inr (0, [.int 0, .ref (Y 4), .int 0])), (q6, .inr (1, [.int 0, .int 0, .int 1, .int 0])), (q7, .inr (1, [.int (0 + 1), .int 0, .int 1, .int 0])), (q8, .inr (1, [.int (0 + 1 + 1), .int 0, .int 1, .int 0])), (q9, .inr (1, [.int (0 + 1 + 1 + 1), .int 0, .int 1, .int 0])), (q10, .inr (1, [.int (0 + 1 + 1 + 1 + 1), .int 0, .int 1, .int 0]))] rfl ?_
  refine k_iinc C0 (0 + 1 + 1 + 1 + 1 + 1) [(1, _), (0, _)] dX5_init_96 0 rfl rfl (by decide) rfl ?_
  refine k_goto C0 73 dX5_init_99 (by decide) ?_
  refine k_iload_n C0 dX5_init_73 0 rfl ?_
  refine k_aload_n C0 dX5_init_74 1 rfl ?_
  refine w_get C0 K0 0 rfl inX5 rfl 0 (.ref q1) (by decide) dX5_init_75 (tA 81 rfl rfl) (fun _ h => h) rfl ?_
  refine w_alen C0 K0 1 rfl 2 rfl 5 rfl dX5_init_78 ?_
  refine k_icmp_ge C0 102 dX5_init_79 (by decide) (fun _ => ?_) (fun zz => absurd (by decide) zz)
  exact k_vret C0 dX5_init_102 hr hlk (Nat.le_of_ble_eq_true rfl) (Nat.le_of_ble_eq_true rfl) (fun k i => if k = 0 then o else if k = 8 then q1 else if k = 9 then (if i = 0 then q2 else if i = 1 then q3 else if i = 2 then q4 else q5) else if k = 1 then (if i = 0 then q6 else if i = 1 then q7 else if i = 2 then q8 else if i = 3 then q9 else q10) else Y 4) rfl (fun H h => ⟨rfl, init_C h⟩)
