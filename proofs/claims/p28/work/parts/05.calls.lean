/-! what every contract is given of its start; contracts; calls; ends; throws -/
section KD
def kTy (Y : Nat → Nat) : List (ClassId × FieldType) := [(Y 0, .int), (Y 0, .int), (Y 2, .object "ShopPaymaster$Land"), (Y 3, .object "java/lang/Object")]
def kStr : List (Nat × String) := [(112, "the sale was refunded"), (123, "the month of the sale is too long ago"), (197, "the day would be above the last one"), (202, "no such land"), (206, "no such maker"), (213, "no such product"), (215, "no such sale"), (217, "no such subscription"), (219, "an argument is out of range"), (221, "there are as many as there may be"), (227, "the subscription has ended")]
def kNc : List (String × String) := [("java/lang/IllegalArgumentException", "java/lang/IllegalStateException"), ("java/lang/IndexOutOfBoundsException", "java/lang/IllegalStateException")]
def kCa : List (String × String) := [("java/lang/IllegalArgumentException", "java/lang/IllegalArgumentException"), ("java/lang/IllegalStateException", "java/lang/IllegalStateException"), ("java/lang/IndexOutOfBoundsException", "java/lang/IndexOutOfBoundsException"), (RX1, "java/lang/Object"), (RX2, "java/lang/Object"), (RX3, "java/lang/Object"), (RX4, "java/lang/Object")]
/-- of the heap: static fields that nobody writes -/
def SK (A : Nat → Prop) (Y : Nat → Nat) (U : State) (H : Heap) : Prop := vx_Zq Bundle.tN "UNASSIGNED_STACK" Bundle.steD A U H ∧ vx_Zq Bundle.tN "SUPPRESSED_SENTINEL" Bundle.listD A U H ∧ va_Z RJx4a65c "DEFAULTCAPACITY_EMPTY_ELEMENTDATA" "[Ljava/lang/Object;" (.ref (Y 4)) A U H ∧ va_T (.object "java/lang/Object") (Y 4) 0 (fun _ => .null) A U H ∧ ∃ xs : Nat → Int32, va_T .int (Y 6) (Y 7) (fun j => .int (xs j)) A U H
/-- of the tables -/
def UK (D : va_G) (Y : Nat → Nat) (U : State) : Prop := va_K D vwCl (kTy Y) U ∧ (∀ q ∈ kStr, ∃ a, vk_R RX5 q.1 q.2 a U) ∧ va_Mi "[Ljava/lang/Object;" (Y 5) U ∧ va_Dc U ∧ (∀ q ∈ kNc, va_Nc q.1 q.2 U) ∧ (∀ q ∈ kCa, va_Nw (.castable q.1 q.2) U) ∧ (va_Nw (.declares kD0) U ∧ va_Nw (.declares kD1) U ∧ va_Nw (.declares kD2) U) ∧ va_AO "java/lang/Object" U ∧ va_AO "ShopPaymaster$Land" U
def PK (D : va_G) (Y : Nat → Nat) (A : Nat → Prop) (U : State) : Prop := UK D Y U ∧ (∀ q, U.heap.size ≤ q → A q) ∧ SK A Y U U.heap
theorem SK.moved {A : Nat → Prop} {Y : Nat → Nat} {u U : State} {H : Heap} (hvm : u.vm.Alike U.vm) (h : SK A Y u H) : SK A Y U H := ⟨vx_Zq.moved hvm h.1, vx_Zq.moved hvm h.2.1, va_Z.moved hvm h.2.2.1, va_T.moved hvm h.2.2.2.1, h.2.2.2.2.elim fun xs hx => ⟨xs, va_T.moved hvm hx⟩⟩
theorem SK.kept {A : Nat → Prop} {Y : Nat → Nat} {U : State} {H H1 : Heap} (h : SK A Y U H) (hq : ∀ a : Nat, a < H.size → ¬ A a → H1[a]? = H[a]?) : SK A Y U H1 := ⟨vx_Zq.kept h.1 hq, vx_Zq.kept h.2.1 hq, va_Z.kept h.2.2.1 hq, va_T.kept h.2.2.2.1 hq, h.2.2.2.2.elim fun xs hx => ⟨xs, va_T.kept hx hq⟩⟩
theorem SK.narrow {A B : Nat → Prop} {Y : Nat → Nat} {U : State} {H : Heap} (h : SK A Y U H) (hAB : ∀ q, B q → A q) : SK B Y U H := ⟨vx_Zq.narrow h.1 hAB, vx_Zq.narrow h.2.1 hAB, va_Z.narrow h.2.2.1 hAB, va_T.narrow h.2.2.2.1 hAB, h.2.2.2.2.elim fun xs hx => ⟨xs, va_T.narrow hx hAB⟩⟩
theorem UK.warm {D : va_G} {Y : Nat → Nat} {s U : State} (hW : s.WarmedH U.vm) (h : UK D Y s) : UK D Y U := by
  obtain ⟨h1, h2, h3, h4, h5, h8, h9, h6, h7⟩ := h
  refine ⟨h1.moved hW.alike, fun q hq => ?_, h3.moved hW.alike, h4.moved hW.alike, fun q hq => (h5 q hq).moved hW.alike, fun q hq => va_Nw.warmC hW (h8 q hq), ⟨va_Nw.warmD hW h9.1, va_Nw.warmD hW h9.2.1, va_Nw.warmD hW h9.2.2⟩, h6.moved hW.alike, h7.moved hW.alike⟩
  obtain ⟨a, ha⟩ := h2 q hq
  exact ⟨a, ha.warm hW⟩
theorem UK.same {D : va_G} {Y : Nat → Nat} {s U : State} (hv : U.vm = s.vm) (h : UK D Y s) : UK D Y U := h.warm (by rw [hv]; exact State.WarmedH.refl s)
theorem PK.calling {D : va_G} {Y : Nat → Nat} {A : Nat → Prop} {U : State} (h : PK D Y A U) (g : JFrame) (mk : MethodId) (a : Array Value) : PK D Y A (U.calling g mk a) := ⟨h.1.same rfl, h.2.1, SK.moved (Vm.Alike.refl U.vm) h.2.2⟩
/-- at a callee's start -/
theorem PK.next {D : va_G} {Y : Nat → Nat} {A : Nat → Prop} {s U : State} {locs : List Loc} (h : PK D Y A s) (hW : s.WarmedH U.vm) (hS : va_S A s.heap U.heap locs) : PK D Y A U := ⟨h.1.warm hW, fun q hq => h.2.1 q (Nat.le_trans hS.1 hq), SK.moved hW.alike (h.2.2.kept hS.2.1)⟩
/-- a callee that may write less: its own cells B, and new ones -/
theorem PK.nextB {D : va_G} {Y : Nat → Nat} {A B : Nat → Prop} {s U : State} {locs : List Loc} (h : PK D Y A s) (hW : s.WarmedH U.vm) (hS : va_S A s.heap U.heap locs) (hB : ∀ q, B q → A q) (hn : ∀ q, U.heap.size ≤ q → B q) : PK D Y B U := ⟨h.1.warm hW, hn, SK.moved hW.alike ((h.2.2.kept hS.2.1).narrow hB)⟩
def cQ {S : Type} (rv : S → Option Value) (V' : S → Heap → Prop) (A : Nat → Prop) : Array Value → State → Outcome → State → Prop := fun _ st o t => (∃ u, o = .returned (rv u) ∧ V' u t.heap) ∧ va_F A st t
def cX (VX : String → Heap → Prop) (A : Nat → Prop) : String → State → State → Prop := fun E st t => VX E t.heap ∧ va_F A st t
/-- A CONTRACT: from V, with arguments As: it returns rv u with V' u, or throws E with VX E; at most mc cells of ms slots are new; nothing but A changes -/
def CT (l : Launch) (y : MethodName) (w0 : Cond) (F LOC : Nat) (D : va_G) (Y : Nat → Nat) (A : Nat → Prop) (As : List Value) (V : Heap → Prop) {S : Type} (rv : S → Option Value) (V' : S → Heap → Prop) (VX : String → Heap → Prop) (mc ms : Nat) : Prop :=
  vx_Met l y (w0 :: TT) { frames := F, cells := mc, slots := ms, locals := LOC } (va_Pc As (fun U => V U.heap ∧ PK D Y A U)) (cQ rv V' A) (cX VX A) mc ms A
def noX : String → Heap → Prop := fun _ _ => False
theorem TT_in (w : Cond) (h : w ∈ TT) : w ∈ TT ∧ ((w.onTables && w.keeps) = true ∨ ∃ ty, w = .arrayClass ty) := ⟨h, good_of_word (TT_gd w h)⟩
theorem goodTT {y : MethodName} {b : ByteArray} {n : Nat} {r : Option FieldType} (h : Cond.code y b n r ∈ TT) : GoodIn TT (Cond.code y b n r :: TT) := fun w hw => TT_in w ((List.mem_cons.mp hw).elim (fun e => e ▸ h) id)
theorem goodTV {own : String} {idx : Nat} {y : MethodName} {b : ByteArray} {n : Nat} {r : Option FieldType} (h1 : Cond.methodLink own idx y ∈ TT) (h2 : Cond.instanceMethod y ∈ TT) (h3 : Cond.selects y.cls y y ∈ TT) (h4 : Cond.initialized y.cls ∈ TT) (h5 : Cond.code y b n r ∈ TT) : GoodIn TT (wsV own idx y.cls y (Cond.code y b n r :: TT)) := by
  intro w hw
  rcases List.mem_append.mp hw with hw | hw
  · refine TT_in w ?_
    simp only [List.mem_cons, List.not_mem_nil, or_false] at hw
    rcases hw with rfl | rfl | rfl | rfl <;> assumption
  · exact goodTT h5 w hw
theorem goodTS {own : String} {idx : Nat} {y : MethodName} {ws : List Cond} (h1 : Cond.methodLink own idx y ∈ TT) (h2 : Cond.static y ∈ TT) (h4 : Cond.initialized y.cls ∈ TT) (h5 : GoodIn TT ws) : GoodIn TT (va_wsS own idx y ws) := by
  intro w hw
  rcases List.mem_append.mp hw with hw | hw
  · refine TT_in w ?_
    simp only [List.mem_cons, List.not_mem_nil, or_false] at hw
    rcases hw with rfl | rfl | rfl <;> assumption
  · exact h5 w hw
theorem goodTW {y : MethodName} {b : ByteArray} {n : Nat} {r : Option FieldType} {hh : List (Nat × Nat × Nat × Nat)} (h : Cond.codeWith y b n r hh ∈ TT) : GoodIn TT (Cond.codeWith y b n r hh :: TT) := fun w hw => TT_in w ((List.mem_cons.mp hw).elim (fun e => e ▸ h) id)
end KD
section KE
variable {p : Program} {l : Launch} {e : Env} {R : Room} {s : State} {m : MethodId} {args : Array Value} {below : List Frame} {meth : Method} {c : Code} {Q : State → Prop}
variable {A : Nat → Prop} {V : Heap → Prop} {k n nL pc : Nat} {lv : List (Nat × Value)} {st rest : List Value} {cc : ByteArray} {own : String} {D : va_G} {Y : Nat → Nat}
theorem va_S.toF {s t : State} {H : Heap} {locs : List Loc} (h : va_S A s.heap H locs) (ht : t.heap = H) : va_F A s t := h.F ht
/-- behind a call: what came back, or was thrown -/
theorem k_run {S : Type} {rv : S → Option Value} {V' : S → Heap → Prop} {VX : String → Heap → Prop} {mc ms : Nat} {st0 : List Value} {a : Array Value}
    (hr : ∀ (H : Heap) (locs : List Loc) (ls : Array Slot), V H → va_S A s.heap H locs → lv_has ls nL lv → vx_Run p l e R s m args below meth c H locs k n mc ms (F0 m pc ls st0) rest (cQ rv V' A a) (cX VX A) A)
    (kx : ∀ E, kX p l e R s m args below meth c Q A nL (VX E) (k + mc) (n + ms) pc lv E)
    (kk : ∀ u, kG p l e R s m args below meth c Q A nL (V' u) (k + mc) (n + ms) (pc + 3) lv ((rv u).toList ++ rest)) : kG p l e R s m args below meth c Q A nL V k n pc lv st0 := by
  intro H locs ls hV hS hl T hT X
  rcases hr H locs ls hV hS hl T hT X with ⟨v, st₀, t, T', L, h0, X', hL, e1, e2, ⟨⟨u, hv, hp⟩, hF⟩, go⟩ | ⟨q, st₀, t, T', L, E, ce, h0, X', hL, e1, e2, ⟨hp, hF⟩, hce, hcv, hcl, go⟩
  · cases hv
    obtain ⟨k1, k2, k3⟩ := vx_keep (A0 := A) (A1 := A) h0 e1 hS (fun q _ h => h) (fun q h => h) hL hF
    obtain ⟨t2, a1, b1⟩ := kk u T'.heap (locs ++ L) ls (by rw [e1]; exact hp) k3 hl T' rfl X'
    exact ⟨t2, go t2 a1, b1⟩
  · obtain ⟨k1, k2, k3⟩ := vx_keep (A0 := A) (A1 := A) h0 e1 hS (fun q _ h => h) (fun q h => h) hL hF
    obtain ⟨t2, a1, b1⟩ := kx E T'.heap (locs ++ L) ls rest q ce (by rw [e1]; exact hp) k3 hl (by rw [e1]; exact hce) hcv hcl T' rfl X'
    exact ⟨t2, go.trans a1, b1⟩
theorem k_blind {As : List Value} {V : Heap → Prop} : FrameBlind (va_Pc As (fun U => V U.heap ∧ PK D Y A U)) := fun a U g mk h => ⟨h.1, h.2.1, h.2.2.calling g mk a⟩
theorem k_callV (C0 : CallFix p m c cc nL s args TT own) (K0 : PK D Y A s) {idx maxL F LOC mc ms b0 : Nat} {y : MethodName} {bytes : ByteArray} {ret : Option FieldType} {as : List Value} {S : Type} {rv : S → Option Value} {V' : S → Heap → Prop} {VX : String → Heap → Prop} {st0 : List Value}
    (d : decode cc pc = .ok (.invokevirtual idx, 3)) (hM : CT l y (Cond.code y bytes maxL ret) F LOC D Y A (.ref b0 :: as) V rv V' VX mc ms)
    (hw : GoodIn TT (wsV own idx y.cls y (Cond.code y bytes maxL ret :: TT))) (hy : y.cls ≠ "java/lang/invoke/MethodHandle" ∧ y.cls ≠ "java/lang/invoke/VarHandle" ∧ (parseMethodDescriptor y.desc).map (fun d => d.parameters.length) = some as.length)
    (hrecv : ∀ H, V H → ∃ cellB : Cell, H[b0]? = some cellB ∧ cellB.vm.isStatics = false ∧ s.vm.findClass y.cls = some cellB.cls) (hst : st0 = as.reverse ++ .ref b0 :: rest) (hcat : (rest.map fun v => v.category).sum ≤ 8)
    (hR : F + 1 ≤ R.frames ∧ 8 + (maxL + 11) + LOC ≤ R.locals) (hf : k + mc ≤ R.cells ∧ n + ms ≤ R.slots)
    (kx : ∀ E, kX p l e R s m args below meth c Q A nL (VX E) (k + mc) (n + ms) pc lv E)
    (kk : ∀ u, kG p l e R s m args below meth c Q A nL (V' u) (k + mc) (n + ms) (pc + 3) lv ((rv u).toList ++ rest)) : kG p l e R s m args below meth c Q A nL V k n pc lv st0 :=
  k_run (a := (Value.ref b0 :: as).toArray) (fun H locs ls hV hS hl => vx_runV C0 hM (cwV as.length C0.2.2.2.2 hw rfl rfl rfl ⟨rfl, hy⟩ hR) ⟨k_blind, hrecv H hV, fun U hU hW => ⟨rfl, by rw [hU]; exact hV, K0.next hW (by rw [hU]; exact hS)⟩⟩ rfl rfl hl.1 hst (lv_room hcat) d hf) kx kk
theorem k_callS (C0 : CallFix p m c cc nL s args TT own) (K0 : PK D Y A s) {idx maxL F LOC mc ms : Nat} {y : MethodName} {bytes : ByteArray} {ret : Option FieldType} {as : List Value} {S : Type} {rv : S → Option Value} {V' : S → Heap → Prop} {VX : String → Heap → Prop} {st0 : List Value}
    (d : decode cc pc = .ok (.invokestatic idx, 3)) (hM : CT l y (Cond.code y bytes maxL ret) F LOC D Y A as V rv V' VX mc ms)
    (hw : GoodIn TT (va_wsS own idx y (Cond.code y bytes maxL ret :: TT))) (hy : y.cls ≠ "java/lang/invoke/MethodHandle" ∧ y.cls ≠ "java/lang/invoke/VarHandle" ∧ (parseMethodDescriptor y.desc).map (fun d => d.parameters.length) = some as.length)
    (hst : st0 = as.reverse ++ rest) (hcat : (rest.map fun v => v.category).sum ≤ 8)
    (hR : F + 1 ≤ R.frames ∧ 8 + (maxL + 11) + LOC ≤ R.locals) (hf : k + mc ≤ R.cells ∧ n + ms ≤ R.slots)
    (kx : ∀ E, kX p l e R s m args below meth c Q A nL (VX E) (k + mc) (n + ms) pc lv E)
    (kk : ∀ u, kG p l e R s m args below meth c Q A nL (V' u) (k + mc) (n + ms) (pc + 3) lv ((rv u).toList ++ rest)) : kG p l e R s m args below meth c Q A nL V k n pc lv st0 :=
  k_run (a := as.toArray) (fun H locs ls hV hS hl => vx_runS C0 hM (va_cwS as.length C0.2.2.2.2 hw rfl rfl rfl hy hR) ⟨k_blind, fun U hU hW => ⟨rfl, by rw [hU]; exact hV, K0.next hW (by rw [hU]; exact hS)⟩⟩ rfl rfl hl.1 hst (lv_room hcat) d hf) kx kk
theorem k_callI (C0 : CallFix p m c cc nL s args TT own) (K0 : PK D Y A s) {idx maxL F LOC mc ms b0 : Nat} {y : MethodName} {bytes : ByteArray} {as : List Value} {S : Type} {rv : S → Option Value} {V' : S → Heap → Prop} {VX : String → Heap → Prop} {st0 : List Value}
    (d : decode cc pc = .ok (.invokespecial idx, 3)) (hM : CT l y (Cond.code y bytes maxL none) F LOC D Y A (.ref b0 :: as) V rv V' VX mc ms)
    (h5 : Cond.code y bytes maxL none ∈ TT) (h4 : Cond.initialized y.cls ∈ TT) (h1 : Cond.methodLink own idx y ∈ TT) (h2 : Cond.instanceMethod y ∈ TT) (hn1 : y.name = "<init>") (hy : y.cls ≠ "java/lang/invoke/MethodHandle" ∧ y.cls ≠ "java/lang/invoke/VarHandle" ∧ (parseMethodDescriptor y.desc).map (fun d => d.parameters.length) = some as.length)
    (hst : st0 = as.reverse ++ .ref b0 :: rest) (hcat : (rest.map fun v => v.category).sum ≤ 8)
    (hR : F + 1 ≤ R.frames ∧ 8 + (maxL + 11) + LOC ≤ R.locals) (hf : k + mc ≤ R.cells ∧ n + ms ≤ R.slots)
    (kx : ∀ E, kX p l e R s m args below meth c Q A nL (VX E) (k + mc) (n + ms) pc lv E)
    (kk : ∀ u, kG p l e R s m args below meth c Q A nL (V' u) (k + mc) (n + ms) (pc + 3) lv ((rv u).toList ++ rest)) : kG p l e R s m args below meth c Q A nL V k n pc lv st0 :=
  k_run (a := (Value.ref b0 :: as).toArray) (fun H locs ls hV hS hl => vx_runI C0 hM (cwI as.length C0.2.2.2.2 (goodTT h5) rfl rfl rfl (C0.2.2.2.2 _ h4) (C0.2.2.2.2 _ h1) (C0.2.2.2.2 _ h2) hn1 hy hR) ⟨k_blind, fun U hU hW => ⟨rfl, by rw [hU]; exact hV, K0.next hW (by rw [hU]; exact hS)⟩⟩ rfl rfl hl.1 hst (lv_room hcat) d hf) kx kk
theorem k_objInit (C0 : CallFix p m c cc nL s args TT own) {idx b0 : Nat} (d : decode cc pc = .ok (.invokespecial idx, 3)) (h1 : Cond.methodLink own idx objectInit ∈ TT) (h2 : Cond.instanceMethod objectInit ∈ TT) (h3 : Cond.code objectInit ⟨#[0xb1]⟩ 1 none ∈ TT)
    (hfr : 1 ≤ R.frames) (hlo : (rest.map fun v => v.category).sum + 12 ≤ R.locals) (g : kG p l e R s m args below meth c Q A nL V k n (pc + 3) lv rest) : kG p l e R s m args below meth c Q A nL V k n pc lv (.ref b0 :: rest) := fun H locs ls hV hS hl =>
  W.objInit C0.1 C0.2.1 C0.2.2.2.1 (C0.2.2.2.2 _ h1) (C0.2.2.2.2 _ h2) (C0.2.2.2.2 _ h3) rfl (by rw [C0.2.2.1]; exact hl.1) rfl d hfr (by show 2 * 0 + _ + 12 ≤ _; omega) (g H locs ls hV hS hl)
theorem kX_no (E : String) : kX p l e R s m args below meth c Q A nL (noX E) k n pc lv E := fun _ _ _ _ _ _ h => h.elim
section KEnd
variable {S : Type} {rv : S → Option Value} {V' : S → Heap → Prop} {VX : String → Heap → Prop} {mc ms : Nat}
abbrev kQ (below : List Frame) {S : Type} (rv : S → Option Value) (V' : S → Heap → Prop) (VX : String → Heap → Prop) (A : Nat → Prop) (args : Array Value) (s : State) (mc ms : Nat) : State → Prop := vx_MQ below (cQ rv V' A) (cX VX A) args s mc ms A
theorem k_iret (C0 : CallFix p m c cc nL s args TT own) {v : Int32} (d : decode cc pc = .ok (.ireturn, 1)) (hr : meth.sig.returnType = some .int) (hlk : meth.locks = false) (hk : k ≤ mc) (hn : n ≤ ms) (u : S) (hu : rv u = some (.int v)) (hV : ∀ H, V H → V' u H) : kG p l e R s m args below meth c (kQ below rv V' VX A args s mc ms) A nL V k n pc lv [.int v] := fun H locs ls hV0 hS hl =>
  W.widen hk hn (vx_ret (W.iret C0.1 C0.2.1 hr (fun t ht hW => ⟨⟨u, by rw [hu], by rw [ht]; exact hV H hV0⟩, hS.F ht⟩) hS.2.2 d hlk))
theorem k_zret (C0 : CallFix p m c cc nL s args TT own) {v : Int32} {ty : FieldType} (d : decode cc pc = .ok (.ireturn, 1)) (hr : meth.sig.returnType = some ty) (hz : narrow ty (.int v) = .int v) (hlk : meth.locks = false) (hk : k ≤ mc) (hn : n ≤ ms) (u : S) (hu : rv u = some (.int v)) (hV : ∀ H, V H → V' u H) : kG p l e R s m args below meth c (kQ below rv V' VX A args s mc ms) A nL V k n pc lv [.int v] := fun H locs ls hV0 hS hl =>
  W.widen hk hn (vx_ret (W.zret C0.1 C0.2.1 hr hz (fun t ht hW => ⟨⟨u, by rw [hu], by rw [ht]; exact hV H hV0⟩, hS.F ht⟩) hS.2.2 d hlk))
theorem k_aret (C0 : CallFix p m c cc nL s args TT own) {v : Nat} {ty : FieldType} (d : decode cc pc = .ok (.areturn, 1)) (hr : meth.sig.returnType = some ty) (hrt : (∃ n, ty = .object n) ∨ ∃ t, ty = .array t) (hlk : meth.locks = false) (hk : k ≤ mc) (hn : n ≤ ms) (u : S) (hu : rv u = some (.ref v)) (hV : ∀ H, V H → V' u H) : kG p l e R s m args below meth c (kQ below rv V' VX A args s mc ms) A nL V k n pc lv [.ref v] := fun H locs ls hV0 hS hl =>
  W.widen hk hn (vx_ret (W.aret C0.1 C0.2.1 hr hrt (Or.inr ⟨_, rfl⟩) (fun t ht hW => ⟨⟨u, by rw [hu], by rw [ht]; exact hV H hV0⟩, hS.F ht⟩) hS.2.2 d hlk))
theorem k_vret (C0 : CallFix p m c cc nL s args TT own) (d : decode cc pc = .ok (.return_, 1)) (hr : meth.sig.returnType = none) (hlk : meth.locks = false) (hk : k ≤ mc) (hn : n ≤ ms) (u : S) (hu : rv u = none) (hV : ∀ H, V H → V' u H) : kG p l e R s m args below meth c (kQ below rv V' VX A args s mc ms) A nL V k n pc lv [] := fun H locs ls hV0 hS hl =>
  W.widen hk hn (vx_ret (W.vret C0.1 C0.2.1 hr (fun t ht hW => ⟨⟨u, by rw [hu], by rw [ht]; exact hV H hV0⟩, hS.F ht⟩) hS.2.2 d hlk))
theorem kX_out {E : String} (htab : ∀ x ∈ c.exceptionTable.toList, False) (hlk : meth.locks = false) (hk : k ≤ mc) (hn : n ≤ ms) (hV : ∀ H, V H → VX E H) : kX p l e R s m args below meth c (kQ below rv V' VX A args s mc ms) A nL V k n pc lv E := fun H locs ls rest q ce hV0 hS hl hcell hcv hcl =>
  vx_out (fun x hx => (htab x hx).elim) hlk hcell hcv hcl (fun t ht _ => ⟨by rw [ht]; exact hV H hV0, hS.F ht⟩) hS.2.2 hk hn
theorem k_throwS (C0 : CallFix p m c cc nL s args TT own) (K0 : PK D Y A s) (hlt : l.stackTraces = false) (htab : ∀ x ∈ c.exceptionTable.toList, False) (hlk : meth.locks = false) {ik is ic : Nat} {cls text : String} (hown : own = RX5) (hstr : (is, text) ∈ kStr) (hcls : Bundle.fit cls = true)
    (hk1 : Cond.classLink RX5 ik cls ∈ TT) (hini : Cond.initialized cls ∈ TT) (hx : ∀ w ∈ (vx_atS RX5 ic cls ["java/lang/RuntimeException", "java/lang/Exception"]).filter goodWord, w ∈ TT) (hy : ∀ w ∈ (vx_atS RX5 ic cls ["java/lang/RuntimeException", "java/lang/Exception"]).filter (fun w => !goodWord w), w ∈ [Cond.castable cls cls, .declares kD0, .declares kD1, .declares kD2]) (hz : ∀ w ∈ Cond.classLink RX5 ik cls :: Cond.initialized cls :: vx_atS RX5 ic cls ["java/lang/RuntimeException", "java/lang/Exception"], vx_ot w = true) (hca : (cls, cls) ∈ kCa)
    (d0 : decode cc pc = .ok (.new ik, 3)) (d3 : decode cc (pc + 3) = .ok (.dup, 1)) (d4 : decode cc (pc + 4) = .ok (.ldc is, 2)) (d6 : decode cc (pc + 6) = .ok (.invokespecial ic, 3)) (d9 : decode cc (pc + 9) = .ok (.athrow, 1))
    (hR1 : 5 < R.frames) (hR2 : 82 ≤ R.locals) (hR3 : k + 1 ≤ R.cells) (hR4 : n + 6 ≤ R.slots) (hk : k + 1 ≤ mc) (hn : n + 6 ≤ ms) (hst : (st.map fun v => v.category).sum = 0)
    (hV : ∀ H H' : Heap, V H → H.size ≤ H'.size → (∀ q : Nat, q < H.size → H'[q]? = H[q]?) → VX cls H') : kG p l e R s m args below meth c (kQ below rv V' VX A args s mc ms) A nL V k n pc lv st := by
  subst hown
  intro H locs ls hV0 hS hl
  obtain ⟨sa, hsa⟩ := K0.1.2.1 _ hstr
  have hU := K0.1
  obtain ⟨-, -, -, -, -, u1, u2, -, -⟩ := hU
  refine vx_throwS (A := A) (names := ["java/lang/RuntimeException", "java/lang/Exception"]) C0.1 C0.2.1 hlt C0.2.2.2.1 hcls (by decide +kernel) (C0.2.2.2.2 _ hk1) (C0.2.2.2.2 _ hini) hsa
    (vx_hat (fun w h => C0.2.2.2.2 w (hx w h)) hy (vx_c (va_Nw.use rfl (u1 _ hca)) (vx_c (va_Nw.use rfl u2.1) (vx_c (va_Nw.use rfl u2.2.1) (vx_c (va_Nw.use rfl u2.2.2) vx_n))))) hz K0.2.2.1 K0.2.2.2.1 hS (by rw [C0.2.2.1]; exact hl.1) d0 d3 d4 d6 d9 (fun x h => (htab x h).elim) hR1 (by rw [hst]; exact hR2) hR3 hR4 hlk
    (fun t hal hz1 hq1 => ⟨hV H _ hV0 hz1 hq1, ?_⟩) hS.2.2 hk hn
  exact ⟨Nat.le_trans hS.1 hz1, fun q h1 h2 => (hq1 q (Nat.lt_of_lt_of_le h1 hS.1)).trans (hS.2.1 q h1 h2)⟩
/-- a contract out of its body's walk -/
theorem CT.of {l : Launch} {y : MethodName} {cc : ByteArray} {maxL : Nat} {ret : Option FieldType} {F LOC : Nat} {As : List Value} {V : Heap → Prop} (hy : plainName y.cls = true) (hAs : (lg_sl As).length ≤ maxL)
    (body : ∀ (p : Program) (e : Env) (s : State) (m : MethodId) (below : List Frame) (meth : Method) (c : Code), CallFix p m c cc maxL s As.toArray TT y.cls → PK D Y A s → meth.sig.returnType = ret → meth.locks = false → (∀ x ∈ c.exceptionTable.toList, False) → meth.name = y.name →
      kG p l e { frames := F, cells := mc, slots := ms, locals := LOC } s m As.toArray below meth c (kQ below rv V' VX A As.toArray s mc ms) A maxL V 0 0 0 (lv_args 0 As) []) :
    CT l y (Cond.code y cc maxL ret) F LOC D Y A As V rv V' VX mc ms := by
  refine vx_ofW (cc := cc) (maxL := maxL) (ret := ret) hy rfl ?_
  intro p e s m args below meth c s₁ B hml ht hv
  obtain ⟨rfl, hV0, hK⟩ := hv
  have hts := atoms_spec (ws := Cond.code y cc maxL ret :: TT) B.pre
  have h := body p e s m below meth c ⟨B.exec, B.bytes, hml, findClass_of_methodNamed B.named, fun w hw => hts w (List.mem_cons_of_mem _ hw)⟩ hK B.returns B.notSynchronized ht (name_of_methodNamed B.named B.method).1
  rw [lg_entry_eq]
  exact h s.heap [] _ hV0 va_S.rf (lv_entry As hAs)
end KEnd
end KE
