theorem WX.putPr {D : va_G} {Y : Nat → Nat} {A : Nat → Prop} {sg : Sg} {al : Nat → Nat → Nat} {X : va_W} {H H' : Heap} (h : WX D Y A sg al X H) (u p : Nat) (hu : u < sN sg 5) (h1 : va_at D vwCl (al 5 u, .inr (5, [.ref (al 1 (sg.2 5 u 0)), .int (sg.1 5 u 1), .ref (al 3 p), .int (sg.1 5 u 3), .int (sg.1 5 u 4), .int (sg.1 5 u 5), .int (sg.1 5 u 6)])) H') (oq : ∀ q, q ≠ al 5 u → H'[q]? = H[q]?) : WX D Y A (sP sg 5 u 2 p) al X H' := by
  refine h.put 5 u hu (fun k i => ?_) (fun _ _ => rfl) (fun k i hk hne => ?_) ?_ oq
  · match k with
    | 0 => exact Iff.rfl | 1 => exact Iff.rfl | 2 => exact Iff.rfl | 3 => exact Iff.rfl | 4 => exact Iff.rfl | 5 => exact Iff.rfl | 6 => exact Iff.rfl | 7 => exact Iff.rfl | 8 => exact Iff.rfl | 9 => exact Iff.rfl | 10 => exact Iff.rfl | _ + 11 => exact Iff.rfl
  · match k, hk, hne with
    | 0, _, _ => rfl | 1, _, _ => rfl | 2, _, _ => rfl | 3, _, _ => rfl | 4, _, _ => rfl | 6, _, _ => rfl | 7, _, _ => rfl | 8, _, _ => rfl | 9, _, _ => rfl | 10, _, _ => rfl
    | 5, _, hne =>
      have e : i ≠ u := fun z => hne ⟨rfl, z⟩
      exact cel5 rfl (congrArg (al 1) (up3_i (f := sg.2) e rfl)) (congrArg (al 3) (up3_i (f := sg.2) e rfl))
    | _ + 11, hk, _ => exact hk.elim
  · have e0 : (sP sg 5 u 2 p).2 5 u 0 = sg.2 5 u 0 := up3_j (f := sg.2) (by decide) rfl
    have e1 : (sP sg 5 u 2 p).2 5 u 2 = p := up3_at (f := sg.2)
    show va_at D vwCl (al 5 u, .inr (5, [.ref (al 1 ((sP sg 5 u 2 p).2 5 u 0)), .int (sg.1 5 u 1), .ref (al 3 ((sP sg 5 u 2 p).2 5 u 2)), .int (sg.1 5 u 3), .int (sg.1 5 u 4), .int (sg.1 5 u 5), .int (sg.1 5 u 6)])) H'
    rw [e0, e1]
    exact h1
section KPR
variable {p : Program} {l : Launch} {e : Env} {R : Room} {s : State} {m : MethodId} {args : Array Value} {below : List Frame} {meth : Method} {c : Code} {Q : State → Prop}
variable {A : Nat → Prop} {n nL pc kk0 : Nat} {lv : List (Nat × Value)} {st rest : List Value} {cc : ByteArray} {own : String} {D : va_G} {Y : Nat → Nat} {sg : Sg} {al : Nat → Nat → Nat} {X : va_W}
theorem l_putPr (C0 : CallFix p m c cc nL s args TT own) (K0 : PK D Y A s) (u w : Nat) (hu : u < sN sg 5) {ref : String} {index : Nat} (d : decode cc pc = .ok (.putfield index, 3)) (hlink : Cond.fieldLink own index ref (TX4 2).2.1 (TX4 2).2.2.1 ∈ TT) (hsame : ∀ x, s.fieldFound? (TX4 2).1 (TX4 2).2.1 (TX4 2).2.2.1 = some x → s.fieldFound? ref (TX4 2).2.1 (TX4 2).2.2.1 = some x)
    (g : kG p l e R s m args below meth c Q A nL (WX D Y A (sP sg 5 u 2 w) al X) kk0 n (pc + 3) lv st) : kG p l e R s m args below meth c Q A nL (WX D Y A sg al X) kk0 n pc lv (.ref (al 3 w) :: .ref (al 5 u) :: st) :=
  k_put (fs := [.ref (al 1 (sg.2 5 u 0)), .int (sg.1 5 u 1), .ref (al 3 (sg.2 5 u 2)), .int (sg.1 5 u 3), .int (sg.1 5 u 4), .int (sg.1 5 u 5), .int (sg.1 5 u 6)]) (ty := .object "ShopPaymaster$Product") (ci := 5) C0 K0 inX4 rfl tyX4 tyX4_ok nmX4 2 (by decide) d hlink hsame rfl (by decide +kernel) rfl rfl (Nat.le_of_ble_eq_true rfl) (fun H hV => ⟨(hV.1 5 u hu).1, (hV.1 5 u hu).2⟩) (fun H H' hV _ h1 oq => hV.putPr u w hu h1 oq) g
end KPR
theorem gkX5_44 : GoodIn TT (wsV RX5 44 yX5_landAt.cls yX5_landAt (Cond.code yX5_landAt cX5_landAt 2 (some (.object "ShopPaymaster$Land")) :: TT)) := goodTV (tA 110 rfl rfl) (tA 112 rfl rfl) (tP 0 rfl) (tA 1 rfl rfl) (tA 113 rfl rfl)
theorem hyX5_landAt : yX5_landAt.cls ≠ "java/lang/invoke/MethodHandle" ∧ yX5_landAt.cls ≠ "java/lang/invoke/VarHandle" ∧ (parseMethodDescriptor yX5_landAt.desc).map (fun d => d.parameters.length) = some 1 := by decide +kernel
theorem gkX5_85 : GoodIn TT (wsV RX5 85 yX5_productAt.cls yX5_productAt (Cond.code yX5_productAt cX5_productAt 2 (some (.object "ShopPaymaster$Product")) :: TT)) := goodTV (tB 116 rfl rfl) (tB 118 rfl rfl) (tP 6 rfl) (tA 1 rfl rfl) (tB 119 rfl rfl)
theorem hyX5_productAt : yX5_productAt.cls ≠ "java/lang/invoke/MethodHandle" ∧ yX5_productAt.cls ≠ "java/lang/invoke/VarHandle" ∧ (parseMethodDescriptor yX5_productAt.desc).map (fun d => d.parameters.length) = some 1 := by decide +kernel
theorem gkX5_89 : GoodIn TT (wsV RX5 89 yX2_changePrice.cls yX2_changePrice (Cond.code yX2_changePrice cX2_changePrice 5 (some .int) :: TT)) := goodTV (tB 121 rfl rfl) (tB 122 rfl rfl) (tB 123 rfl rfl) (tA 19 rfl rfl) (tB 124 rfl rfl)
theorem hyX2_changePrice : yX2_changePrice.cls ≠ "java/lang/invoke/MethodHandle" ∧ yX2_changePrice.cls ≠ "java/lang/invoke/VarHandle" ∧ (parseMethodDescriptor yX2_changePrice.desc).map (fun d => d.parameters.length) = some 2 := by decide +kernel
theorem gkX5_93 : GoodIn TT (wsV RX5 93 yX2_priceIn.cls yX2_priceIn (Cond.code yX2_priceIn cX2_priceIn 3 (some .int) :: TT)) := goodTV (tB 133 rfl rfl) (tB 126 rfl rfl) (tB 127 rfl rfl) (tA 19 rfl rfl) (tB 128 rfl rfl)
theorem gkX5_101 : GoodIn TT (wsV RX5 101 yX5_saleAt.cls yX5_saleAt (Cond.code yX5_saleAt cX5_saleAt 2 (some (.object "ShopPaymaster$Sale")) :: TT)) := goodTV (tB 201 rfl rfl) (tB 203 rfl rfl) (tP 10 rfl) (tA 1 rfl rfl) (tB 204 rfl rfl)
theorem hyX5_saleAt : yX5_saleAt.cls ≠ "java/lang/invoke/MethodHandle" ∧ yX5_saleAt.cls ≠ "java/lang/invoke/VarHandle" ∧ (parseMethodDescriptor yX5_saleAt.desc).map (fun d => d.parameters.length) = some 1 := by decide +kernel
theorem gkX5_146 : GoodIn TT (wsV RX5 146 yX5_subscriptionAt.cls yX5_subscriptionAt (Cond.code yX5_subscriptionAt cX5_subscriptionAt 2 (some (.object "ShopPaymaster$Subscription")) :: TT)) := goodTV (tC 7 rfl rfl) (tC 9 rfl rfl) (tP 11 rfl) (tA 1 rfl rfl) (tC 10 rfl rfl)
theorem hyX5_subscriptionAt : yX5_subscriptionAt.cls ≠ "java/lang/invoke/MethodHandle" ∧ yX5_subscriptionAt.cls ≠ "java/lang/invoke/VarHandle" ∧ (parseMethodDescriptor yX5_subscriptionAt.desc).map (fun d => d.parameters.length) = some 1 := by decide +kernel
theorem gkX5_75 : GoodIn TT (wsV RX5 75 yX5_makerAt.cls yX5_makerAt (Cond.code yX5_makerAt cX5_makerAt 2 (some (.object "ShopPaymaster$Maker")) :: TT)) := goodTV (tB 60 rfl rfl) (tB 62 rfl rfl) (tP 5 rfl) (tA 1 rfl rfl) (tB 63 rfl rfl)
theorem hyX5_makerAt : yX5_makerAt.cls ≠ "java/lang/invoke/MethodHandle" ∧ yX5_makerAt.cls ≠ "java/lang/invoke/VarHandle" ∧ (parseMethodDescriptor yX5_makerAt.desc).map (fun d => d.parameters.length) = some 1 := by decide +kernel
theorem gkX5_191 : GoodIn TT (wsV RX5 191 yX1_currentBalance.cls yX1_currentBalance (Cond.code yX1_currentBalance cX1_currentBalance 1 (some .int) :: TT)) := goodTV (tC 126 rfl rfl) (tC 63 rfl rfl) (tC 64 rfl rfl) (tA 14 rfl rfl) (tC 65 rfl rfl)
theorem gkX5_184 : GoodIn TT (wsV RX5 184 yX1_payoutOf.cls yX1_payoutOf (Cond.code yX1_payoutOf cX1_payoutOf 2 (some .int) :: TT)) := goodTV (tC 131 rfl rfl) (tC 132 rfl rfl) (tC 133 rfl rfl) (tA 14 rfl rfl) (tC 134 rfl rfl)
theorem hyX1_payoutOf : yX1_payoutOf.cls ≠ "java/lang/invoke/MethodHandle" ∧ yX1_payoutOf.cls ≠ "java/lang/invoke/VarHandle" ∧ (parseMethodDescriptor yX1_payoutOf.desc).map (fun d => d.parameters.length) = some 1 := by decide +kernel
theorem gkX5_165 : GoodIn TT (va_wsS RX5 165 yX5_requireRunning (Cond.code yX5_requireRunning cX5_requireRunning 1 none :: TT)) := goodTS (tC 102 rfl rfl) (tC 103 rfl rfl) (tA 1 rfl rfl) (goodTT (tC 104 rfl rfl))
theorem hyX5_requireRunning : yX5_requireRunning.cls ≠ "java/lang/invoke/MethodHandle" ∧ yX5_requireRunning.cls ≠ "java/lang/invoke/VarHandle" ∧ (parseMethodDescriptor yX5_requireRunning.desc).map (fun d => d.parameters.length) = some 1 := by decide +kernel
theorem gkX5_175 : GoodIn TT (wsV RX5 175 yX4_end.cls yX4_end (Cond.code yX4_end cX4_end 1 none :: TT)) := goodTV (tC 110 rfl rfl) (tC 83 rfl rfl) (tC 84 rfl rfl) (tA 21 rfl rfl) (tC 85 rfl rfl)
theorem gkX5_64 : GoodIn TT (va_wsS RX5 64 yX5_requireRoom (Cond.code yX5_requireRoom cX5_requireRoom 2 none :: TT)) := goodTS (tA 195 rfl rfl) (tA 196 rfl rfl) (tA 1 rfl rfl) (goodTT (tA 197 rfl rfl))
theorem hyX5_requireRoom : yX5_requireRoom.cls ≠ "java/lang/invoke/MethodHandle" ∧ yX5_requireRoom.cls ≠ "java/lang/invoke/VarHandle" ∧ (parseMethodDescriptor yX5_requireRoom.desc).map (fun d => d.parameters.length) = some 2 := by decide +kernel
theorem hyX1_init : yX1_init.cls ≠ "java/lang/invoke/MethodHandle" ∧ yX1_init.cls ≠ "java/lang/invoke/VarHandle" ∧ (parseMethodDescriptor yX1_init.desc).map (fun d => d.parameters.length) = some 1 := by decide +kernel
theorem hyX2_init : yX2_init.cls ≠ "java/lang/invoke/MethodHandle" ∧ yX2_init.cls ≠ "java/lang/invoke/VarHandle" ∧ (parseMethodDescriptor yX2_init.desc).map (fun d => d.parameters.length) = some 3 := by decide +kernel
theorem hyX4_init : yX4_init.cls ≠ "java/lang/invoke/MethodHandle" ∧ yX4_init.cls ≠ "java/lang/invoke/VarHandle" ∧ (parseMethodDescriptor yX4_init.desc).map (fun d => d.parameters.length) = some 4 := by decide +kernel
set_option maxRecDepth 100000 in
set_option maxHeartbeats 4000000 in
theorem cc_setTax (l : Launch) (D : va_G) (Y : Nat → Nat) (A : Nat → Prop) (sg : Sg) (al : Nat → Nat → Nat) (X : va_W) (j : Nat) (hj : j < 5) (r b : Int32) (hb : b = 0 ∨ b = 1) (h1 : 0 ≤ r) (h2 : r ≤ 30) : CT l yX5_setTax (Cond.code yX5_setTax cX5_setTax 6 (some .int)) 1 22 D Y A [.ref (al 0 0), .int (nI j), .int r, .int b] (WX D Y A sg al X) (fun _ : Unit => some (.int (sg.1 1 j 1))) (fun _ : Unit => WX D Y A (sI (sI sg 1 j 1 r) 1 j 2 b) al X) noX 0 0 := by
  refine CT.of (by decide) (Nat.le_of_ble_eq_true rfl) ?_
  intro p_ e_ s_ m_ below_ meth_ c_ C0 K0 hr hlk htab hnm_
  refine k_aload_n C0 dX5_setTax_0 0 rfl ?_
  refine k_iload_n C0 dX5_setTax_1 1 rfl ?_
  refine k_callV C0 K0 dX5_setTax_2 (cc_landAt l D Y A sg al X j hj) gkX5_44 hyX5_landAt (c_recv (sg := sg) (al := al) K0 0 0 rfl rfl rfl) rfl (by exact Nat.le_of_ble_eq_true rfl) ⟨Nat.le_of_ble_eq_true rfl, Nat.le_of_ble_eq_true rfl⟩ ⟨Nat.le_of_ble_eq_true rfl, Nat.le_of_ble_eq_true rfl⟩ (fun E => kX_no E) (fun _ => ?_)
  refine k_astore C0 [(4, _), (0, _), (1, _), (2, _), (3, _)] dX5_setTax_5 (by decide) rfl ?_
  refine k_iload_n C0 dX5_setTax_7 3 rfl ?_
  refine k_iconst C0 0 dX5_setTax_8 (by decide) ?_
  refine k_bipush C0 30 dX5_setTax_9 (by decide) ?_
  refine k_callS C0 K0 dX5_setTax_11 (cc_requireRange l D Y A (WX D Y A sg al X) r (0 : Int32) (30 : Int32) h1 h2) gkX5_48 hyX5_requireRange rfl (by exact Nat.le_of_ble_eq_true rfl) ⟨Nat.le_of_ble_eq_true rfl, Nat.le_of_ble_eq_true rfl⟩ ⟨Nat.le_of_ble_eq_true rfl, Nat.le_of_ble_eq_true rfl⟩ (fun E => kX_no E) (fun _ => ?_)
  refine k_aload C0 dX5_setTax_14 0 rfl ?_
  refine c_getI C0 K0 1 j hj rfl inX0 rfl 1 (sg.1 1 j 1) (by decide) dX5_setTax_16 (tA 66 rfl rfl) (fun _ h => h) rfl rfl ?_
  refine k_istore C0 [(5, _), (4, _), (0, _), (1, _), (2, _), (3, _)] dX5_setTax_19 (by decide) rfl ?_
  refine k_aload C0 dX5_setTax_21 1 rfl ?_
  refine k_iload_n C0 dX5_setTax_23 4 rfl ?_
  refine c_putI C0 K0 1 j hj (ty := .int) rfl inX0 rfl tyX0 tyX0_ok nmX0 1 (by decide) dX5_setTax_24 (tA 66 rfl rfl) (fun _ h => h) rfl (by decide +kernel) rfl rfl (Nat.le_of_ble_eq_true rfl) rfl ?_
  refine k_aload C0 dX5_setTax_27 1 rfl ?_
  refine k_iload_n C0 dX5_setTax_29 5 rfl ?_
  refine c_putI (sg := sI sg 1 j 1 r) C0 K0 1 j hj (ty := .boolean) rfl inX0 rfl tyX0 tyX0_ok nmX0 2 (by decide) dX5_setTax_30 (tA 69 rfl rfl) (fun _ h => h) rfl (by decide +kernel) (nz01 hb) (ft01 hb) (Nat.le_of_ble_eq_true rfl) rfl ?_
  refine k_iload C0 dX5_setTax_33 0 rfl ?_
  exact k_iret C0 dX5_setTax_35 hr hlk (Nat.le_of_ble_eq_true rfl) (Nat.le_of_ble_eq_true rfl) () rfl (fun H h => h)
set_option maxRecDepth 100000 in
set_option maxHeartbeats 4000000 in
theorem cx_setTax_1 (l : Launch) (D : va_G) (Y : Nat → Nat) (A : Nat → Prop) (sg : Sg) (al : Nat → Nat → Nat) (X : va_W) (hlt : l.stackTraces = false) (x : Int32) (h : ¬ (0 ≤ x ∧ x ≤ 4)) (r b : Int32) : CT l yX5_setTax (Cond.code yX5_setTax cX5_setTax 6 (some .int)) 7 103 D Y A [.ref (al 0 0), .int x, .int r, .int b] (WX D Y A sg al X) (fun _ : Unit => none) (fun (_ : Unit) (_ : Heap) => False) (xE "java/lang/IllegalArgumentException" (WX D Y A sg al X)) 1 6 := by
  refine CT.of (by decide) (Nat.le_of_ble_eq_true rfl) ?_
  intro p_ e_ s_ m_ below_ meth_ c_ C0 K0 hr hlk htab hnm_
  refine k_aload_n C0 dX5_setTax_0 0 rfl ?_
  refine k_iload_n C0 dX5_setTax_1 1 rfl ?_
  refine k_callV C0 K0 dX5_setTax_2 (cx_landAt l D Y A sg al X hlt x h) gkX5_44 hyX5_landAt (c_recv (sg := sg) (al := al) K0 0 0 rfl rfl rfl) rfl (by exact Nat.le_of_ble_eq_true rfl) ⟨Nat.le_of_ble_eq_true rfl, Nat.le_of_ble_eq_true rfl⟩ ⟨Nat.le_of_ble_eq_true rfl, Nat.le_of_ble_eq_true rfl⟩ (fun E => kX_out htab hlk (Nat.le_of_ble_eq_true rfl) (Nat.le_of_ble_eq_true rfl) (fun H h => h)) (fun _ => kG_no)
set_option maxRecDepth 100000 in
set_option maxHeartbeats 4000000 in
theorem cx_setTax_2 (l : Launch) (D : va_G) (Y : Nat → Nat) (A : Nat → Prop) (sg : Sg) (al : Nat → Nat → Nat) (X : va_W) (hlt : l.stackTraces = false) (j : Nat) (hj : j < 5) (r b : Int32) (h : ¬ (0 ≤ r ∧ r ≤ 30)) : CT l yX5_setTax (Cond.code yX5_setTax cX5_setTax 6 (some .int)) 7 104 D Y A [.ref (al 0 0), .int (nI j), .int r, .int b] (WX D Y A sg al X) (fun _ : Unit => none) (fun (_ : Unit) (_ : Heap) => False) (xE "java/lang/IllegalArgumentException" (WX D Y A sg al X)) 1 6 := by
  refine CT.of (by decide) (Nat.le_of_ble_eq_true rfl) ?_
  intro p_ e_ s_ m_ below_ meth_ c_ C0 K0 hr hlk htab hnm_
  refine k_aload_n C0 dX5_setTax_0 0 rfl ?_
  refine k_iload_n C0 dX5_setTax_1 1 rfl ?_
  refine k_callV C0 K0 dX5_setTax_2 (cc_landAt l D Y A sg al X j hj) gkX5_44 hyX5_landAt (c_recv (sg := sg) (al := al) K0 0 0 rfl rfl rfl) rfl (by exact Nat.le_of_ble_eq_true rfl) ⟨Nat.le_of_ble_eq_true rfl, Nat.le_of_ble_eq_true rfl⟩ ⟨Nat.le_of_ble_eq_true rfl, Nat.le_of_ble_eq_true rfl⟩ (fun E => kX_no E) (fun _ => ?_)
  refine k_astore C0 [(4, _), (0, _), (1, _), (2, _), (3, _)] dX5_setTax_5 (by decide) rfl ?_
  refine k_iload_n C0 dX5_setTax_7 3 rfl ?_
  refine k_iconst C0 0 dX5_setTax_8 (by decide) ?_
  refine k_bipush C0 30 dX5_setTax_9 (by decide) ?_
  refine k_callS C0 K0 dX5_setTax_11 (cx_requireRange l D Y A sg al X hlt r (0 : Int32) (30 : Int32) h) gkX5_48 hyX5_requireRange rfl (by exact Nat.le_of_ble_eq_true rfl) ⟨Nat.le_of_ble_eq_true rfl, Nat.le_of_ble_eq_true rfl⟩ ⟨Nat.le_of_ble_eq_true rfl, Nat.le_of_ble_eq_true rfl⟩ (fun E => kX_out htab hlk (Nat.le_of_ble_eq_true rfl) (Nat.le_of_ble_eq_true rfl) (fun H h => h)) (fun _ => kG_no)
set_option maxRecDepth 100000 in
set_option maxHeartbeats 4000000 in
theorem cc_setPrice (l : Launch) (D : va_G) (Y : Nat → Nat) (A : Nat → Prop) (sg : Sg) (al : Nat → Nat → Nat) (X : va_W) (hw : lw sg 1) (i j : Nat) (hi : i < sN sg 3) (hj : j < 5) (v : Int32) (h1 : 0 ≤ v) (h2 : v ≤ 100000) : CT l yX5_setPrice (Cond.code yX5_setPrice cX5_setPrice 6 (some .int)) 4 85 D Y A [.ref (al 0 0), .int (nI i), .int (nI j), .int v] (WX D Y A sg al X) (fun _ : Unit => some (.int (c_price sg i j))) (fun _ : Unit => WX D Y A (sI sg 7 i ((nI j).toNatClampNeg) v) al X) noX 0 0 := by
  refine CT.of (by decide) (Nat.le_of_ble_eq_true rfl) ?_
  intro p_ e_ s_ m_ below_ meth_ c_ C0 K0 hr hlk htab hnm_
  refine k_aload_n C0 dX5_setPrice_0 0 rfl ?_
  refine k_iload_n C0 dX5_setPrice_1 1 rfl ?_
  refine k_callV C0 K0 dX5_setPrice_2 (cc_productAt l D Y A sg al X hw i hi) gkX5_85 hyX5_productAt (c_recv (sg := sg) (al := al) K0 0 0 rfl rfl rfl) rfl (by exact Nat.le_of_ble_eq_true rfl) ⟨Nat.le_of_ble_eq_true rfl, Nat.le_of_ble_eq_true rfl⟩ ⟨Nat.le_of_ble_eq_true rfl, Nat.le_of_ble_eq_true rfl⟩ (fun E => kX_no E) (fun _ => ?_)
  refine k_astore C0 [(4, _), (0, _), (1, _), (2, _), (3, _)] dX5_setPrice_5 (by decide) rfl ?_
  refine k_aload_n C0 dX5_setPrice_7 1 rfl ?_
  refine k_iload_n C0 dX5_setPrice_8 3 rfl ?_
  refine k_callV C0 K0 dX5_setPrice_9 (cc_landAt l D Y A sg al X j hj) gkX5_44 hyX5_landAt (c_recv (sg := sg) (al := al) K0 0 0 rfl rfl rfl) rfl (by exact Nat.le_of_ble_eq_true rfl) ⟨Nat.le_of_ble_eq_true rfl, Nat.le_of_ble_eq_true rfl⟩ ⟨Nat.le_of_ble_eq_true rfl, Nat.le_of_ble_eq_true rfl⟩ (fun E => kX_no E) (fun _ => ?_)
  refine k_astore C0 [(5, _), (4, _), (0, _), (1, _), (2, _), (3, _)] dX5_setPrice_12 (by decide) rfl ?_
  refine k_iload_n C0 dX5_setPrice_14 5 rfl ?_
  refine k_iconst C0 0 dX5_setPrice_15 (by decide) ?_
  refine k_ldc C0 (v := 100000) dX5_setPrice_16 (tB 94 rfl rfl) ?_
  refine k_callS C0 K0 dX5_setPrice_18 (cc_requireRange l D Y A (WX D Y A sg al X) v (0 : Int32) (100000 : Int32) h1 h2) gkX5_48 hyX5_requireRange rfl (by exact Nat.le_of_ble_eq_true rfl) ⟨Nat.le_of_ble_eq_true rfl, Nat.le_of_ble_eq_true rfl⟩ ⟨Nat.le_of_ble_eq_true rfl, Nat.le_of_ble_eq_true rfl⟩ (fun E => kX_no E) (fun _ => ?_)
  refine k_aload C0 dX5_setPrice_21 1 rfl ?_
  refine k_aload C0 dX5_setPrice_23 0 rfl ?_
  refine k_iload_n C0 dX5_setPrice_25 5 rfl ?_
  refine k_callV C0 K0 dX5_setPrice_26 (cc_changePrice l D Y A sg al X i hi j hj v) gkX5_89 hyX2_changePrice (c_recv (sg := sg) (al := al) K0 3 i hi rfl rfl) rfl (by exact Nat.le_of_ble_eq_true rfl) ⟨Nat.le_of_ble_eq_true rfl, Nat.le_of_ble_eq_true rfl⟩ ⟨Nat.le_of_ble_eq_true rfl, Nat.le_of_ble_eq_true rfl⟩ (fun E => kX_no E) (fun _ => ?_)
  exact k_iret C0 dX5_setPrice_29 hr hlk (Nat.le_of_ble_eq_true rfl) (Nat.le_of_ble_eq_true rfl) () rfl (fun H h => h)
set_option maxRecDepth 100000 in
set_option maxHeartbeats 4000000 in
theorem cx_setPrice_1 (l : Launch) (D : va_G) (Y : Nat → Nat) (A : Nat → Prop) (sg : Sg) (al : Nat → Nat → Nat) (X : va_W) (hlt : l.stackTraces = false) (hw : lw sg 1) (x : Int32) (h : ¬ (0 ≤ x ∧ x < nI (sN sg 3))) (y v : Int32) : CT l yX5_setPrice (Cond.code yX5_setPrice cX5_setPrice 6 (some .int)) 7 103 D Y A [.ref (al 0 0), .int x, .int y, .int v] (WX D Y A sg al X) (fun _ : Unit => none) (fun (_ : Unit) (_ : Heap) => False) (xE "java/lang/IndexOutOfBoundsException" (WX D Y A sg al X)) 1 6 := by
  refine CT.of (by decide) (Nat.le_of_ble_eq_true rfl) ?_
  intro p_ e_ s_ m_ below_ meth_ c_ C0 K0 hr hlk htab hnm_
  refine k_aload_n C0 dX5_setPrice_0 0 rfl ?_
  refine k_iload_n C0 dX5_setPrice_1 1 rfl ?_
  refine k_callV C0 K0 dX5_setPrice_2 (cx_productAt l D Y A sg al X hlt hw x h) gkX5_85 hyX5_productAt (c_recv (sg := sg) (al := al) K0 0 0 rfl rfl rfl) rfl (by exact Nat.le_of_ble_eq_true rfl) ⟨Nat.le_of_ble_eq_true rfl, Nat.le_of_ble_eq_true rfl⟩ ⟨Nat.le_of_ble_eq_true rfl, Nat.le_of_ble_eq_true rfl⟩ (fun E => kX_out htab hlk (Nat.le_of_ble_eq_true rfl) (Nat.le_of_ble_eq_true rfl) (fun H h => h)) (fun _ => kG_no)
set_option maxRecDepth 100000 in
set_option maxHeartbeats 4000000 in
theorem cx_setPrice_2 (l : Launch) (D : va_G) (Y : Nat → Nat) (A : Nat → Prop) (sg : Sg) (al : Nat → Nat → Nat) (X : va_W) (hlt : l.stackTraces = false) (hw : lw sg 1) (i : Nat) (hi : i < sN sg 3) (x : Int32) (h : ¬ (0 ≤ x ∧ x ≤ 4)) (v : Int32) : CT l yX5_setPrice (Cond.code yX5_setPrice cX5_setPrice 6 (some .int)) 7 103 D Y A [.ref (al 0 0), .int (nI i), .int x, .int v] (WX D Y A sg al X) (fun _ : Unit => none) (fun (_ : Unit) (_ : Heap) => False) (xE "java/lang/IllegalArgumentException" (WX D Y A sg al X)) 1 6 := by
  refine CT.of (by decide) (Nat.le_of_ble_eq_true rfl) ?_
  intro p_ e_ s_ m_ below_ meth_ c_ C0 K0 hr hlk htab hnm_
  refine k_aload_n C0 dX5_setPrice_0 0 rfl ?_
  refine k_iload_n C0 dX5_setPrice_1 1 rfl ?_
  refine k_callV C0 K0 dX5_setPrice_2 (cc_productAt l D Y A sg al X hw i hi) gkX5_85 hyX5_productAt (c_recv (sg := sg) (al := al) K0 0 0 rfl rfl rfl) rfl (by exact Nat.le_of_ble_eq_true rfl) ⟨Nat.le_of_ble_eq_true rfl, Nat.le_of_ble_eq_true rfl⟩ ⟨Nat.le_of_ble_eq_true rfl, Nat.le_of_ble_eq_true rfl⟩ (fun E => kX_no E) (fun _ => ?_)
  refine k_astore C0 [(4, _), (0, _), (1, _), (2, _), (3, _)] dX5_setPrice_5 (by decide) rfl ?_
  refine k_aload_n C0 dX5_setPrice_7 1 rfl ?_
  refine k_iload_n C0 dX5_setPrice_8 3 rfl ?_
  refine k_callV C0 K0 dX5_setPrice_9 (cx_landAt l D Y A sg al X hlt x h) gkX5_44 hyX5_landAt (c_recv (sg := sg) (al := al) K0 0 0 rfl rfl rfl) rfl (by exact Nat.le_of_ble_eq_true rfl) ⟨Nat.le_of_ble_eq_true rfl, Nat.le_of_ble_eq_true rfl⟩ ⟨Nat.le_of_ble_eq_true rfl, Nat.le_of_ble_eq_true rfl⟩ (fun E => kX_out htab hlk (Nat.le_of_ble_eq_true rfl) (Nat.le_of_ble_eq_true rfl) (fun H h => h)) (fun _ => kG_no)
set_option maxRecDepth 100000 in
set_option maxHeartbeats 4000000 in
theorem cx_setPrice_3 (l : Launch) (D : va_G) (Y : Nat → Nat) (A : Nat → Prop) (sg : Sg) (al : Nat → Nat → Nat) (X : va_W) (hlt : l.stackTraces = false) (hw : lw sg 1) (i j : Nat) (hi : i < sN sg 3) (hj : j < 5) (v : Int32) (h : ¬ (0 ≤ v ∧ v ≤ 100000)) : CT l yX5_setPrice (Cond.code yX5_setPrice cX5_setPrice 6 (some .int)) 7 104 D Y A [.ref (al 0 0), .int (nI i), .int (nI j), .int v] (WX D Y A sg al X) (fun _ : Unit => none) (fun (_ : Unit) (_ : Heap) => False) (xE "java/lang/IllegalArgumentException" (WX D Y A sg al X)) 1 6 := by
  refine CT.of (by decide) (Nat.le_of_ble_eq_true rfl) ?_
  intro p_ e_ s_ m_ below_ meth_ c_ C0 K0 hr hlk htab hnm_
  refine k_aload_n C0 dX5_setPrice_0 0 rfl ?_
  refine k_iload_n C0 dX5_setPrice_1 1 rfl ?_
  refine k_callV C0 K0 dX5_setPrice_2 (cc_productAt l D Y A sg al X hw i hi) gkX5_85 hyX5_productAt (c_recv (sg := sg) (al := al) K0 0 0 rfl rfl rfl) rfl (by exact Nat.le_of_ble_eq_true rfl) ⟨Nat.le_of_ble_eq_true rfl, Nat.le_of_ble_eq_true rfl⟩ ⟨Nat.le_of_ble_eq_true rfl, Nat.le_of_ble_eq_true rfl⟩ (fun E => kX_no E) (fun _ => ?_)
  refine k_astore C0 [(4, _), (0, _), (1, _), (2, _), (3, _)] dX5_setPrice_5 (by decide) rfl ?_
  refine k_aload_n C0 dX5_setPrice_7 1 rfl ?_
  refine k_iload_n C0 dX5_setPrice_8 3 rfl ?_
  refine k_callV C0 K0 dX5_setPrice_9 (cc_landAt l D Y A sg al X j hj) gkX5_44 hyX5_landAt (c_recv (sg := sg) (al := al) K0 0 0 rfl rfl rfl) rfl (by exact Nat.le_of_ble_eq_true rfl) ⟨Nat.le_of_ble_eq_true rfl, Nat.le_of_ble_eq_true rfl⟩ ⟨Nat.le_of_ble_eq_true rfl, Nat.le_of_ble_eq_true rfl⟩ (fun E => kX_no E) (fun _ => ?_)
  refine k_astore C0 [(5, _), (4, _), (0, _), (1, _), (2, _), (3, _)] dX5_setPrice_12 (by decide) rfl ?_
  refine k_iload_n C0 dX5_setPrice_14 5 rfl ?_
  refine k_iconst C0 0 dX5_setPrice_15 (by decide) ?_
  refine k_ldc C0 (v := 100000) dX5_setPrice_16 (tB 94 rfl rfl) ?_
  refine k_callS C0 K0 dX5_setPrice_18 (cx_requireRange l D Y A sg al X hlt v (0 : Int32) (100000 : Int32) h) gkX5_48 hyX5_requireRange rfl (by exact Nat.le_of_ble_eq_true rfl) ⟨Nat.le_of_ble_eq_true rfl, Nat.le_of_ble_eq_true rfl⟩ ⟨Nat.le_of_ble_eq_true rfl, Nat.le_of_ble_eq_true rfl⟩ (fun E => kX_out htab hlk (Nat.le_of_ble_eq_true rfl) (Nat.le_of_ble_eq_true rfl) (fun H h => h)) (fun _ => kG_no)
set_option maxRecDepth 100000 in
set_option maxHeartbeats 4000000 in
theorem cc_buy (l : Launch) (D : va_G) (Y : Nat → Nat) (A : Nat → Prop) (sg : Sg) (al : Nat → Nat → Nat) (hw : lw sg 1) (i j : Nat) (hi : i < sN sg 3) (hj : j < 5) (hm : sg.2 3 i 1 < sN sg 2) (hd : 0 < 100 + sg.1 1 j 1) (hb : sg.1 1 j 2 = 0 ∨ sg.1 1 j 2 = 1) (hw2 : lw sg 2) (h6 : sN sg 4 < 6000) : CT l yX5_buy (Cond.code yX5_buy cX5_buy 5 (some .int)) 10 238 D Y A [.ref (al 0 0), .int (nI i), .int (nI j)] (WX D Y A sg al []) (fun _ : Nat → Nat → Nat => some (.int (nI (sN sg 4)))) (fun al' : Nat → Nat → Nat => fun H => al' 0 0 = al 0 0 ∧ WX D Y A (c_sell sg i j (c_price sg i j) 0) al' [] H) noX (1 + (capN sg 2 - sC sg 2)) (9 + 4 * (capN sg 2 - sC sg 2)) := by
  refine CT.of (by decide) (Nat.le_of_ble_eq_true rfl) ?_
  intro p_ e_ s_ m_ below_ meth_ c_ C0 K0 hr hlk htab hnm_
  refine k_aload_n C0 dX5_buy_0 0 rfl ?_
  refine k_iload_n C0 dX5_buy_1 1 rfl ?_
  refine k_callV C0 K0 dX5_buy_2 (cc_productAt l D Y A sg al [] hw i hi) gkX5_85 hyX5_productAt (c_recv (sg := sg) (al := al) K0 0 0 rfl rfl rfl) rfl (by exact Nat.le_of_ble_eq_true rfl) ⟨Nat.le_of_ble_eq_true rfl, Nat.le_of_ble_eq_true rfl⟩ ⟨Nat.zero_le _, Nat.zero_le _⟩ (fun E => kX_no E) (fun _ => ?_)
  refine k_astore_n C0 [(3, _), (0, _), (1, _), (2, _)] dX5_buy_5 (by decide) rfl ?_
  refine k_aload_n C0 dX5_buy_6 1 rfl ?_
  refine k_iload_n C0 dX5_buy_7 3 rfl ?_
  refine k_callV C0 K0 dX5_buy_8 (cc_landAt l D Y A sg al [] j hj) gkX5_44 hyX5_landAt (c_recv (sg := sg) (al := al) K0 0 0 rfl rfl rfl) rfl (by exact Nat.le_of_ble_eq_true rfl) ⟨Nat.le_of_ble_eq_true rfl, Nat.le_of_ble_eq_true rfl⟩ ⟨Nat.zero_le _, Nat.zero_le _⟩ (fun E => kX_no E) (fun _ => ?_)
  refine k_astore C0 [(4, _), (3, _), (0, _), (1, _), (2, _)] dX5_buy_11 (by decide) rfl ?_
  refine k_aload_n C0 dX5_buy_13 2 rfl ?_
  refine k_aload_n C0 dX5_buy_14 1 rfl ?_
  refine k_aload C0 dX5_buy_15 0 rfl ?_
  refine k_aload_n C0 dX5_buy_17 1 rfl ?_
  refine k_aload C0 dX5_buy_18 0 rfl ?_
  refine k_callV C0 K0 dX5_buy_20 (cc_priceIn l D Y A sg al [] i hi j hj) gkX5_93 hyX2_priceIn (c_recv (sg := sg) (al := al) K0 3 i hi rfl rfl) rfl (by exact Nat.le_of_ble_eq_true rfl) ⟨Nat.le_of_ble_eq_true rfl, Nat.le_of_ble_eq_true rfl⟩ ⟨Nat.zero_le _, Nat.zero_le _⟩ (fun E => kX_no E) (fun _ => ?_)
  refine k_iconst C0 0 dX5_buy_23 (by decide) ?_
  refine k_callV C0 K0 dX5_buy_24 (cc_sell l D Y A sg al i j hi hj (c_price sg i j) 0 hm hd hb hw2 h6) gkX5_97 hyX5_sell (c_recv (sg := sg) (al := al) K0 0 0 rfl rfl rfl) rfl (by exact Nat.le_of_ble_eq_true rfl) ⟨Nat.le_of_ble_eq_true rfl, Nat.le_of_ble_eq_true rfl⟩ ⟨Nat.le_of_eq (Nat.zero_add _), Nat.le_of_eq (Nat.zero_add _)⟩ (fun E => kX_no E) (fun al3 => k_ex (fun H h => h.1) (fun ha3 => k_W (V' := WX D Y A (c_sell sg i j (c_price sg i j) 0) al3 []) (fun H h => h.2) ?_))
  exact k_iret C0 dX5_buy_27 hr hlk (Nat.le_of_eq (Nat.zero_add _)) (Nat.le_of_eq (Nat.zero_add _)) al3 rfl (fun H h => ⟨ha3 0 0 (by decide) (by decide), h⟩)
set_option maxRecDepth 100000 in
set_option maxHeartbeats 4000000 in
theorem cx_buy_1 (l : Launch) (D : va_G) (Y : Nat → Nat) (A : Nat → Prop) (sg : Sg) (al : Nat → Nat → Nat) (X : va_W) (hlt : l.stackTraces = false) (hw : lw sg 1) (x : Int32) (h : ¬ (0 ≤ x ∧ x < nI (sN sg 3))) (y : Int32) : CT l yX5_buy (Cond.code yX5_buy cX5_buy 5 (some .int)) 7 103 D Y A [.ref (al 0 0), .int x, .int y] (WX D Y A sg al X) (fun _ : Unit => none) (fun (_ : Unit) (_ : Heap) => False) (xE "java/lang/IndexOutOfBoundsException" (WX D Y A sg al X)) 1 6 := by
  refine CT.of (by decide) (Nat.le_of_ble_eq_true rfl) ?_
  intro p_ e_ s_ m_ below_ meth_ c_ C0 K0 hr hlk htab hnm_
  refine k_aload_n C0 dX5_buy_0 0 rfl ?_
  refine k_iload_n C0 dX5_buy_1 1 rfl ?_
  refine k_callV C0 K0 dX5_buy_2 (cx_productAt l D Y A sg al X hlt hw x h) gkX5_85 hyX5_productAt (c_recv (sg := sg) (al := al) K0 0 0 rfl rfl rfl) rfl (by exact Nat.le_of_ble_eq_true rfl) ⟨Nat.le_of_ble_eq_true rfl, Nat.le_of_ble_eq_true rfl⟩ ⟨Nat.le_of_ble_eq_true rfl, Nat.le_of_ble_eq_true rfl⟩ (fun E => kX_out htab hlk (Nat.le_of_ble_eq_true rfl) (Nat.le_of_ble_eq_true rfl) (fun H h => h)) (fun _ => kG_no)
set_option maxRecDepth 100000 in
set_option maxHeartbeats 4000000 in
theorem cx_buy_2 (l : Launch) (D : va_G) (Y : Nat → Nat) (A : Nat → Prop) (sg : Sg) (al : Nat → Nat → Nat) (X : va_W) (hlt : l.stackTraces = false) (hw : lw sg 1) (i : Nat) (hi : i < sN sg 3) (x : Int32) (h : ¬ (0 ≤ x ∧ x ≤ 4)) : CT l yX5_buy (Cond.code yX5_buy cX5_buy 5 (some .int)) 7 103 D Y A [.ref (al 0 0), .int (nI i), .int x] (WX D Y A sg al X) (fun _ : Unit => none) (fun (_ : Unit) (_ : Heap) => False) (xE "java/lang/IllegalArgumentException" (WX D Y A sg al X)) 1 6 := by
  refine CT.of (by decide) (Nat.le_of_ble_eq_true rfl) ?_
  intro p_ e_ s_ m_ below_ meth_ c_ C0 K0 hr hlk htab hnm_
  refine k_aload_n C0 dX5_buy_0 0 rfl ?_
  refine k_iload_n C0 dX5_buy_1 1 rfl ?_
  refine k_callV C0 K0 dX5_buy_2 (cc_productAt l D Y A sg al X hw i hi) gkX5_85 hyX5_productAt (c_recv (sg := sg) (al := al) K0 0 0 rfl rfl rfl) rfl (by exact Nat.le_of_ble_eq_true rfl) ⟨Nat.le_of_ble_eq_true rfl, Nat.le_of_ble_eq_true rfl⟩ ⟨Nat.le_of_ble_eq_true rfl, Nat.le_of_ble_eq_true rfl⟩ (fun E => kX_no E) (fun _ => ?_)
  refine k_astore_n C0 [(3, _), (0, _), (1, _), (2, _)] dX5_buy_5 (by decide) rfl ?_
  refine k_aload_n C0 dX5_buy_6 1 rfl ?_
  refine k_iload_n C0 dX5_buy_7 3 rfl ?_
  refine k_callV C0 K0 dX5_buy_8 (cx_landAt l D Y A sg al X hlt x h) gkX5_44 hyX5_landAt (c_recv (sg := sg) (al := al) K0 0 0 rfl rfl rfl) rfl (by exact Nat.le_of_ble_eq_true rfl) ⟨Nat.le_of_ble_eq_true rfl, Nat.le_of_ble_eq_true rfl⟩ ⟨Nat.le_of_ble_eq_true rfl, Nat.le_of_ble_eq_true rfl⟩ (fun E => kX_out htab hlk (Nat.le_of_ble_eq_true rfl) (Nat.le_of_ble_eq_true rfl) (fun H h => h)) (fun _ => kG_no)
set_option maxRecDepth 100000 in
set_option maxHeartbeats 4000000 in
theorem cc_refund (l : Launch) (D : va_G) (Y : Nat → Nat) (A : Nat → Prop) (sg : Sg) (al : Nat → Nat → Nat) (X : va_W) (hw : lw sg 2) (i : Nat) (hi : i < sN sg 4) (hm : sg.2 4 i 0 < sN sg 2) (hl_ : sg.2 4 i 1 < 5) (hz : sg.1 4 i 8 = 0) (hq : sg.1 0 0 5 / 30 - sg.1 4 i 2 ≤ 3) : CT l yX5_refund (Cond.code yX5_refund cX5_refund 3 (some .int)) 4 85 D Y A [.ref (al 0 0), .int (nI i)] (WX D Y A sg al X) (fun _ : Unit => some (.int ((c_book (sI sg 4 i 8 1) i (-1)).1 4 i 3))) (fun _ : Unit => WX D Y A (c_book (sI sg 4 i 8 1) i (-1)) al X) noX 0 0 := by
  refine CT.of (by decide) (Nat.le_of_ble_eq_true rfl) ?_
  intro p_ e_ s_ m_ below_ meth_ c_ C0 K0 hr hlk htab hnm_
  refine k_aload_n C0 dX5_refund_0 0 rfl ?_
  refine k_iload_n C0 dX5_refund_1 1 rfl ?_
  refine k_callV C0 K0 dX5_refund_2 (cc_saleAt l D Y A sg al X hw i hi) gkX5_101 hyX5_saleAt (c_recv (sg := sg) (al := al) K0 0 0 rfl rfl rfl) rfl (by exact Nat.le_of_ble_eq_true rfl) ⟨Nat.le_of_ble_eq_true rfl, Nat.le_of_ble_eq_true rfl⟩ ⟨Nat.le_of_ble_eq_true rfl, Nat.le_of_ble_eq_true rfl⟩ (fun E => kX_no E) (fun _ => ?_)
  refine k_astore_n C0 [(2, _), (0, _), (1, _)] dX5_refund_5 (by decide) rfl ?_
  refine k_aload_n C0 dX5_refund_6 0 rfl ?_
  refine c_getI C0 K0 4 i hi rfl inX3 rfl 8 (sg.1 4 i 8) (by decide) dX5_refund_7 (tB 169 rfl rfl) (fun _ h => h) rfl rfl ?_
  refine k_if_eq C0 23 dX5_refund_10 (by decide) (fun _ => ?_) (fun zz => absurd hz zz)
  refine k_aload_n C0 dX5_refund_23 1 rfl ?_
  refine k_callV C0 K0 dX5_refund_24 (cc_currentMonth l D Y A sg al X ) gkX5_117 hyX5_currentMonth (c_recv (sg := sg) (al := al) K0 0 0 rfl rfl rfl) rfl (by exact Nat.le_of_ble_eq_true rfl) ⟨Nat.le_of_ble_eq_true rfl, Nat.le_of_ble_eq_true rfl⟩ ⟨Nat.le_of_ble_eq_true rfl, Nat.le_of_ble_eq_true rfl⟩ (fun E => kX_no E) (fun _ => ?_)
  refine k_aload_n C0 dX5_refund_27 0 rfl ?_
  refine c_getI C0 K0 4 i hi rfl inX3 rfl 2 (sg.1 4 i 2) (by decide) dX5_refund_28 (tB 157 rfl rfl) (fun _ h => h) rfl rfl ?_
  refine k_isub C0 dX5_refund_31 ?_
  refine k_iconst C0 3 dX5_refund_32 (by decide) ?_
  refine k_icmp_le C0 46 dX5_refund_33 (by decide) (fun _ => ?_) (fun zz => absurd hq zz)
  refine k_aload_n C0 dX5_refund_46 0 rfl ?_
  refine k_iconst C0 1 dX5_refund_47 (by decide) ?_
  refine c_putI C0 K0 4 i hi (ty := .boolean) rfl inX3 rfl tyX3 tyX3_ok nmX3 8 (by decide) dX5_refund_48 (tB 169 rfl rfl) (fun _ h => h) rfl (by decide +kernel) rfl rfl (Nat.le_of_ble_eq_true rfl) rfl ?_
  refine k_aload_n C0 dX5_refund_51 1 rfl ?_
  refine k_aload_n C0 dX5_refund_52 0 rfl ?_
  refine k_iconst C0 (-1) dX5_refund_53 (by decide) ?_
  refine k_callV C0 K0 dX5_refund_54 (cc_book l D Y A (sI sg 4 i 8 1) al X i hi (-1) hm hl_) gkX5_125 hyX5_book (c_recv (sg := sI sg 4 i 8 1) (al := al) K0 0 0 rfl rfl rfl) rfl (by exact Nat.le_of_ble_eq_true rfl) ⟨Nat.le_of_ble_eq_true rfl, Nat.le_of_ble_eq_true rfl⟩ ⟨Nat.le_of_ble_eq_true rfl, Nat.le_of_ble_eq_true rfl⟩ (fun E => kX_no E) (fun _ => ?_)
  have hi2 : i < sN (c_book (sI sg 4 i 8 1) i (-1)) 4 := by unfold sN; rw [c_book_2]; exact hi
  refine k_aload_n C0 dX5_refund_57 0 rfl ?_
  refine c_getI C0 K0 4 i hi2 rfl inX3 rfl 3 ((c_book (sI sg 4 i 8 1) i (-1)).1 4 i 3) (by decide) dX5_refund_58 (tB 159 rfl rfl) (fun _ h => h) rfl rfl ?_
  exact k_iret C0 dX5_refund_61 hr hlk (Nat.le_of_ble_eq_true rfl) (Nat.le_of_ble_eq_true rfl) () rfl (fun H h => h)
set_option maxRecDepth 100000 in
set_option maxHeartbeats 4000000 in
theorem cx_refund_1 (l : Launch) (D : va_G) (Y : Nat → Nat) (A : Nat → Prop) (sg : Sg) (al : Nat → Nat → Nat) (X : va_W) (hlt : l.stackTraces = false) (hw : lw sg 2) (x : Int32) (h : ¬ (0 ≤ x ∧ x < nI (sN sg 4))) : CT l yX5_refund (Cond.code yX5_refund cX5_refund 3 (some .int)) 7 103 D Y A [.ref (al 0 0), .int x] (WX D Y A sg al X) (fun _ : Unit => none) (fun (_ : Unit) (_ : Heap) => False) (xE "java/lang/IndexOutOfBoundsException" (WX D Y A sg al X)) 1 6 := by
  refine CT.of (by decide) (Nat.le_of_ble_eq_true rfl) ?_
  intro p_ e_ s_ m_ below_ meth_ c_ C0 K0 hr hlk htab hnm_
  refine k_aload_n C0 dX5_refund_0 0 rfl ?_
  refine k_iload_n C0 dX5_refund_1 1 rfl ?_
  refine k_callV C0 K0 dX5_refund_2 (cx_saleAt l D Y A sg al X hlt hw x h) gkX5_101 hyX5_saleAt (c_recv (sg := sg) (al := al) K0 0 0 rfl rfl rfl) rfl (by exact Nat.le_of_ble_eq_true rfl) ⟨Nat.le_of_ble_eq_true rfl, Nat.le_of_ble_eq_true rfl⟩ ⟨Nat.le_of_ble_eq_true rfl, Nat.le_of_ble_eq_true rfl⟩ (fun E => kX_out htab hlk (Nat.le_of_ble_eq_true rfl) (Nat.le_of_ble_eq_true rfl) (fun H h => h)) (fun _ => kG_no)
set_option maxRecDepth 100000 in
set_option maxHeartbeats 4000000 in
theorem cx_refund_2 (l : Launch) (D : va_G) (Y : Nat → Nat) (A : Nat → Prop) (sg : Sg) (al : Nat → Nat → Nat) (X : va_W) (hlt : l.stackTraces = false) (hw : lw sg 2) (i : Nat) (hi : i < sN sg 4) (hz : ¬ sg.1 4 i 8 = 0) : CT l yX5_refund (Cond.code yX5_refund cX5_refund 3 (some .int)) 6 85 D Y A [.ref (al 0 0), .int (nI i)] (WX D Y A sg al X) (fun _ : Unit => none) (fun (_ : Unit) (_ : Heap) => False) (xE "java/lang/IllegalStateException" (WX D Y A sg al X)) 1 6 := by
  refine CT.of (by decide) (Nat.le_of_ble_eq_true rfl) ?_
  intro p_ e_ s_ m_ below_ meth_ c_ C0 K0 hr hlk htab hnm_
  refine k_aload_n C0 dX5_refund_0 0 rfl ?_
  refine k_iload_n C0 dX5_refund_1 1 rfl ?_
  refine k_callV C0 K0 dX5_refund_2 (cc_saleAt l D Y A sg al X hw i hi) gkX5_101 hyX5_saleAt (c_recv (sg := sg) (al := al) K0 0 0 rfl rfl rfl) rfl (by exact Nat.le_of_ble_eq_true rfl) ⟨Nat.le_of_ble_eq_true rfl, Nat.le_of_ble_eq_true rfl⟩ ⟨Nat.le_of_ble_eq_true rfl, Nat.le_of_ble_eq_true rfl⟩ (fun E => kX_no E) (fun _ => ?_)
  refine k_astore_n C0 [(2, _), (0, _), (1, _)] dX5_refund_5 (by decide) rfl ?_
  refine k_aload_n C0 dX5_refund_6 0 rfl ?_
  refine c_getI C0 K0 4 i hi rfl inX3 rfl 8 (sg.1 4 i 8) (by decide) dX5_refund_7 (tB 169 rfl rfl) (fun _ h => h) rfl rfl ?_
  refine k_if_eq C0 23 dX5_refund_10 (by decide) (fun zz => absurd zz hz) (fun _ => ?_)
  exact k_throwS C0 K0 hlt htab hlk rfl (text := "the sale was refunded") (by decide) (by decide +kernel) (tA 198 rfl rfl) (tA 13 rfl rfl) in_x1 in_y1 in_z1 (by decide) dX5_refund_13 dX5_refund_16 dX5_refund_17 dX5_refund_19 dX5_refund_22 (Nat.le_of_ble_eq_true rfl) (Nat.le_of_ble_eq_true rfl) (Nat.le_of_ble_eq_true rfl) (Nat.le_of_ble_eq_true rfl) (Nat.le_of_ble_eq_true rfl) (Nat.le_of_ble_eq_true rfl) rfl (fun H H2 hV _ oq => ⟨rfl, hV.keep oq⟩)
set_option maxRecDepth 100000 in
set_option maxHeartbeats 4000000 in
theorem cx_refund_3 (l : Launch) (D : va_G) (Y : Nat → Nat) (A : Nat → Prop) (sg : Sg) (al : Nat → Nat → Nat) (X : va_W) (hlt : l.stackTraces = false) (hw : lw sg 2) (i : Nat) (hi : i < sN sg 4) (hz : sg.1 4 i 8 = 0) (hq : ¬ sg.1 0 0 5 / 30 - sg.1 4 i 2 ≤ 3) : CT l yX5_refund (Cond.code yX5_refund cX5_refund 3 (some .int)) 6 85 D Y A [.ref (al 0 0), .int (nI i)] (WX D Y A sg al X) (fun _ : Unit => none) (fun (_ : Unit) (_ : Heap) => False) (xE "java/lang/IllegalStateException" (WX D Y A sg al X)) 1 6 := by
  refine CT.of (by decide) (Nat.le_of_ble_eq_true rfl) ?_
  intro p_ e_ s_ m_ below_ meth_ c_ C0 K0 hr hlk htab hnm_
  refine k_aload_n C0 dX5_refund_0 0 rfl ?_
  refine k_iload_n C0 dX5_refund_1 1 rfl ?_
  refine k_callV C0 K0 dX5_refund_2 (cc_saleAt l D Y A sg al X hw i hi) gkX5_101 hyX5_saleAt (c_recv (sg := sg) (al := al) K0 0 0 rfl rfl rfl) rfl (by exact Nat.le_of_ble_eq_true rfl) ⟨Nat.le_of_ble_eq_true rfl, Nat.le_of_ble_eq_true rfl⟩ ⟨Nat.le_of_ble_eq_true rfl, Nat.le_of_ble_eq_true rfl⟩ (fun E => kX_no E) (fun _ => ?_)
  refine k_astore_n C0 [(2, _), (0, _), (1, _)] dX5_refund_5 (by decide) rfl ?_
  refine k_aload_n C0 dX5_refund_6 0 rfl ?_
  refine c_getI C0 K0 4 i hi rfl inX3 rfl 8 (sg.1 4 i 8) (by decide) dX5_refund_7 (tB 169 rfl rfl) (fun _ h => h) rfl rfl ?_
  refine k_if_eq C0 23 dX5_refund_10 (by decide) (fun _ => ?_) (fun zz => absurd hz zz)
  refine k_aload_n C0 dX5_refund_23 1 rfl ?_
  refine k_callV C0 K0 dX5_refund_24 (cc_currentMonth l D Y A sg al X ) gkX5_117 hyX5_currentMonth (c_recv (sg := sg) (al := al) K0 0 0 rfl rfl rfl) rfl (by exact Nat.le_of_ble_eq_true rfl) ⟨Nat.le_of_ble_eq_true rfl, Nat.le_of_ble_eq_true rfl⟩ ⟨Nat.le_of_ble_eq_true rfl, Nat.le_of_ble_eq_true rfl⟩ (fun E => kX_no E) (fun _ => ?_)
  refine k_aload_n C0 dX5_refund_27 0 rfl ?_
  refine c_getI C0 K0 4 i hi rfl inX3 rfl 2 (sg.1 4 i 2) (by decide) dX5_refund_28 (tB 157 rfl rfl) (fun _ h => h) rfl rfl ?_
  refine k_isub C0 dX5_refund_31 ?_
  refine k_iconst C0 3 dX5_refund_32 (by decide) ?_
  refine k_icmp_le C0 46 dX5_refund_33 (by decide) (fun zz => absurd zz hq) (fun _ => ?_)
  exact k_throwS C0 K0 hlt htab hlk rfl (text := "the month of the sale is too long ago") (by decide) (by decide +kernel) (tA 198 rfl rfl) (tA 13 rfl rfl) in_x1 in_y1 in_z1 (by decide) dX5_refund_36 dX5_refund_39 dX5_refund_40 dX5_refund_42 dX5_refund_45 (Nat.le_of_ble_eq_true rfl) (Nat.le_of_ble_eq_true rfl) (Nat.le_of_ble_eq_true rfl) (Nat.le_of_ble_eq_true rfl) (Nat.le_of_ble_eq_true rfl) (Nat.le_of_ble_eq_true rfl) rfl (fun H H2 hV _ oq => ⟨rfl, hV.keep oq⟩)
set_option maxRecDepth 100000 in
set_option maxHeartbeats 4000000 in
theorem cc_sales (l : Launch) (D : va_G) (Y : Nat → Nat) (A : Nat → Prop) (sg : Sg) (al : Nat → Nat → Nat) (X : va_W)  : CT l yX5_sales (Cond.code yX5_sales cX5_sales 1 (some .int)) 1 20 D Y A [.ref (al 0 0)] (WX D Y A sg al X) (fun _ : Unit => some (.int (nI (sZ sg 2)))) (fun _ : Unit => WX D Y A sg al X) noX 0 0 := by
  refine CT.of (by decide) (Nat.le_of_ble_eq_true rfl) ?_
  intro p_ e_ s_ m_ below_ meth_ c_ C0 K0 hr hlk htab hnm_
  refine k_aload_n C0 dX5_sales_0 0 rfl ?_
  refine c_get C0 K0 0 0 rfl rfl inX5 rfl 3 (.ref (al 9 2)) (by decide) dX5_sales_1 (tA 84 rfl rfl) (fun _ h => h) rfl ?_
  refine k_callV C0 K0 dX5_sales_4 (cl_size l D Y A sg al X 2 (by decide)) gkX5_60 hyJx4a65c_size_8abf5 (c_recv (sg := sg) (al := al) K0 9 2 (show (2 : Nat) < 4 by decide) rfl rfl) rfl (by exact Nat.le_of_ble_eq_true rfl) ⟨Nat.le_of_ble_eq_true rfl, Nat.le_of_ble_eq_true rfl⟩ ⟨Nat.le_of_ble_eq_true rfl, Nat.le_of_ble_eq_true rfl⟩ (fun E => kX_no E) (fun _ => ?_)
  exact k_iret C0 dX5_sales_7 hr hlk (Nat.le_of_ble_eq_true rfl) (Nat.le_of_ble_eq_true rfl) () rfl (fun H h => h)
set_option maxRecDepth 100000 in
set_option maxHeartbeats 4000000 in
theorem cc_paid (l : Launch) (D : va_G) (Y : Nat → Nat) (A : Nat → Prop) (sg : Sg) (al : Nat → Nat → Nat) (X : va_W) (hw : lw sg 2) (i : Nat) (hi : i < sN sg 4)  : CT l yX5_paid (Cond.code yX5_paid cX5_paid 2 (some .int)) 4 85 D Y A [.ref (al 0 0), .int (nI i)] (WX D Y A sg al X) (fun _ : Unit => some (.int (sg.1 4 i 3))) (fun _ : Unit => WX D Y A sg al X) noX 0 0 := by
  refine CT.of (by decide) (Nat.le_of_ble_eq_true rfl) ?_
  intro p_ e_ s_ m_ below_ meth_ c_ C0 K0 hr hlk htab hnm_
  refine k_aload_n C0 dX5_paid_0 0 rfl ?_
  refine k_iload_n C0 dX5_paid_1 1 rfl ?_
  refine k_callV C0 K0 dX5_paid_2 (cc_saleAt l D Y A sg al X hw i hi) gkX5_101 hyX5_saleAt (c_recv (sg := sg) (al := al) K0 0 0 rfl rfl rfl) rfl (by exact Nat.le_of_ble_eq_true rfl) ⟨Nat.le_of_ble_eq_true rfl, Nat.le_of_ble_eq_true rfl⟩ ⟨Nat.le_of_ble_eq_true rfl, Nat.le_of_ble_eq_true rfl⟩ (fun E => kX_no E) (fun _ => ?_)
  refine c_getI C0 K0 4 i hi rfl inX3 rfl 3 (sg.1 4 i 3) (by decide) dX5_paid_5 (tB 159 rfl rfl) (fun _ h => h) rfl rfl ?_
  exact k_iret C0 dX5_paid_8 hr hlk (Nat.le_of_ble_eq_true rfl) (Nat.le_of_ble_eq_true rfl) () rfl (fun H h => h)
set_option maxRecDepth 100000 in
set_option maxHeartbeats 4000000 in
theorem cx_paid (l : Launch) (D : va_G) (Y : Nat → Nat) (A : Nat → Prop) (sg : Sg) (al : Nat → Nat → Nat) (X : va_W) (hlt : l.stackTraces = false) (hw : lw sg 2) (x : Int32) (h : ¬ (0 ≤ x ∧ x < nI (sN sg 4))) : CT l yX5_paid (Cond.code yX5_paid cX5_paid 2 (some .int)) 7 103 D Y A [.ref (al 0 0), .int x] (WX D Y A sg al X) (fun _ : Unit => none) (fun (_ : Unit) (_ : Heap) => False) (xE "java/lang/IndexOutOfBoundsException" (WX D Y A sg al X)) 1 6 := by
  refine CT.of (by decide) (Nat.le_of_ble_eq_true rfl) ?_
  intro p_ e_ s_ m_ below_ meth_ c_ C0 K0 hr hlk htab hnm_
  refine k_aload_n C0 dX5_paid_0 0 rfl ?_
  refine k_iload_n C0 dX5_paid_1 1 rfl ?_
  refine k_callV C0 K0 dX5_paid_2 (cx_saleAt l D Y A sg al X hlt hw x h) gkX5_101 hyX5_saleAt (c_recv (sg := sg) (al := al) K0 0 0 rfl rfl rfl) rfl (by exact Nat.le_of_ble_eq_true rfl) ⟨Nat.le_of_ble_eq_true rfl, Nat.le_of_ble_eq_true rfl⟩ ⟨Nat.le_of_ble_eq_true rfl, Nat.le_of_ble_eq_true rfl⟩ (fun E => kX_out htab hlk (Nat.le_of_ble_eq_true rfl) (Nat.le_of_ble_eq_true rfl) (fun H h => h)) (fun _ => kG_no)
set_option maxRecDepth 100000 in
set_option maxHeartbeats 4000000 in
theorem cc_tax (l : Launch) (D : va_G) (Y : Nat → Nat) (A : Nat → Prop) (sg : Sg) (al : Nat → Nat → Nat) (X : va_W) (hw : lw sg 2) (i : Nat) (hi : i < sN sg 4)  : CT l yX5_tax (Cond.code yX5_tax cX5_tax 2 (some .int)) 4 85 D Y A [.ref (al 0 0), .int (nI i)] (WX D Y A sg al X) (fun _ : Unit => some (.int (sg.1 4 i 4))) (fun _ : Unit => WX D Y A sg al X) noX 0 0 := by
  refine CT.of (by decide) (Nat.le_of_ble_eq_true rfl) ?_
  intro p_ e_ s_ m_ below_ meth_ c_ C0 K0 hr hlk htab hnm_
  refine k_aload_n C0 dX5_tax_0 0 rfl ?_
  refine k_iload_n C0 dX5_tax_1 1 rfl ?_
  refine k_callV C0 K0 dX5_tax_2 (cc_saleAt l D Y A sg al X hw i hi) gkX5_101 hyX5_saleAt (c_recv (sg := sg) (al := al) K0 0 0 rfl rfl rfl) rfl (by exact Nat.le_of_ble_eq_true rfl) ⟨Nat.le_of_ble_eq_true rfl, Nat.le_of_ble_eq_true rfl⟩ ⟨Nat.le_of_ble_eq_true rfl, Nat.le_of_ble_eq_true rfl⟩ (fun E => kX_no E) (fun _ => ?_)
  refine c_getI C0 K0 4 i hi rfl inX3 rfl 4 (sg.1 4 i 4) (by decide) dX5_tax_5 (tB 161 rfl rfl) (fun _ h => h) rfl rfl ?_
  exact k_iret C0 dX5_tax_8 hr hlk (Nat.le_of_ble_eq_true rfl) (Nat.le_of_ble_eq_true rfl) () rfl (fun H h => h)
set_option maxRecDepth 100000 in
set_option maxHeartbeats 4000000 in
theorem cx_tax (l : Launch) (D : va_G) (Y : Nat → Nat) (A : Nat → Prop) (sg : Sg) (al : Nat → Nat → Nat) (X : va_W) (hlt : l.stackTraces = false) (hw : lw sg 2) (x : Int32) (h : ¬ (0 ≤ x ∧ x < nI (sN sg 4))) : CT l yX5_tax (Cond.code yX5_tax cX5_tax 2 (some .int)) 7 103 D Y A [.ref (al 0 0), .int x] (WX D Y A sg al X) (fun _ : Unit => none) (fun (_ : Unit) (_ : Heap) => False) (xE "java/lang/IndexOutOfBoundsException" (WX D Y A sg al X)) 1 6 := by
  refine CT.of (by decide) (Nat.le_of_ble_eq_true rfl) ?_
  intro p_ e_ s_ m_ below_ meth_ c_ C0 K0 hr hlk htab hnm_
  refine k_aload_n C0 dX5_tax_0 0 rfl ?_
  refine k_iload_n C0 dX5_tax_1 1 rfl ?_
  refine k_callV C0 K0 dX5_tax_2 (cx_saleAt l D Y A sg al X hlt hw x h) gkX5_101 hyX5_saleAt (c_recv (sg := sg) (al := al) K0 0 0 rfl rfl rfl) rfl (by exact Nat.le_of_ble_eq_true rfl) ⟨Nat.le_of_ble_eq_true rfl, Nat.le_of_ble_eq_true rfl⟩ ⟨Nat.le_of_ble_eq_true rfl, Nat.le_of_ble_eq_true rfl⟩ (fun E => kX_out htab hlk (Nat.le_of_ble_eq_true rfl) (Nat.le_of_ble_eq_true rfl) (fun H h => h)) (fun _ => kG_no)
set_option maxRecDepth 100000 in
set_option maxHeartbeats 4000000 in
theorem cc_shopShare (l : Launch) (D : va_G) (Y : Nat → Nat) (A : Nat → Prop) (sg : Sg) (al : Nat → Nat → Nat) (X : va_W) (hw : lw sg 2) (i : Nat) (hi : i < sN sg 4)  : CT l yX5_shopShare (Cond.code yX5_shopShare cX5_shopShare 2 (some .int)) 4 85 D Y A [.ref (al 0 0), .int (nI i)] (WX D Y A sg al X) (fun _ : Unit => some (.int (sg.1 4 i 5))) (fun _ : Unit => WX D Y A sg al X) noX 0 0 := by
  refine CT.of (by decide) (Nat.le_of_ble_eq_true rfl) ?_
  intro p_ e_ s_ m_ below_ meth_ c_ C0 K0 hr hlk htab hnm_
  refine k_aload_n C0 dX5_shopShare_0 0 rfl ?_
  refine k_iload_n C0 dX5_shopShare_1 1 rfl ?_
  refine k_callV C0 K0 dX5_shopShare_2 (cc_saleAt l D Y A sg al X hw i hi) gkX5_101 hyX5_saleAt (c_recv (sg := sg) (al := al) K0 0 0 rfl rfl rfl) rfl (by exact Nat.le_of_ble_eq_true rfl) ⟨Nat.le_of_ble_eq_true rfl, Nat.le_of_ble_eq_true rfl⟩ ⟨Nat.le_of_ble_eq_true rfl, Nat.le_of_ble_eq_true rfl⟩ (fun E => kX_no E) (fun _ => ?_)
  refine c_getI C0 K0 4 i hi rfl inX3 rfl 5 (sg.1 4 i 5) (by decide) dX5_shopShare_5 (tB 163 rfl rfl) (fun _ h => h) rfl rfl ?_
  exact k_iret C0 dX5_shopShare_8 hr hlk (Nat.le_of_ble_eq_true rfl) (Nat.le_of_ble_eq_true rfl) () rfl (fun H h => h)
set_option maxRecDepth 100000 in
set_option maxHeartbeats 4000000 in
theorem cx_shopShare (l : Launch) (D : va_G) (Y : Nat → Nat) (A : Nat → Prop) (sg : Sg) (al : Nat → Nat → Nat) (X : va_W) (hlt : l.stackTraces = false) (hw : lw sg 2) (x : Int32) (h : ¬ (0 ≤ x ∧ x < nI (sN sg 4))) : CT l yX5_shopShare (Cond.code yX5_shopShare cX5_shopShare 2 (some .int)) 7 103 D Y A [.ref (al 0 0), .int x] (WX D Y A sg al X) (fun _ : Unit => none) (fun (_ : Unit) (_ : Heap) => False) (xE "java/lang/IndexOutOfBoundsException" (WX D Y A sg al X)) 1 6 := by
  refine CT.of (by decide) (Nat.le_of_ble_eq_true rfl) ?_
  intro p_ e_ s_ m_ below_ meth_ c_ C0 K0 hr hlk htab hnm_
  refine k_aload_n C0 dX5_shopShare_0 0 rfl ?_
  refine k_iload_n C0 dX5_shopShare_1 1 rfl ?_
  refine k_callV C0 K0 dX5_shopShare_2 (cx_saleAt l D Y A sg al X hlt hw x h) gkX5_101 hyX5_saleAt (c_recv (sg := sg) (al := al) K0 0 0 rfl rfl rfl) rfl (by exact Nat.le_of_ble_eq_true rfl) ⟨Nat.le_of_ble_eq_true rfl, Nat.le_of_ble_eq_true rfl⟩ ⟨Nat.le_of_ble_eq_true rfl, Nat.le_of_ble_eq_true rfl⟩ (fun E => kX_out htab hlk (Nat.le_of_ble_eq_true rfl) (Nat.le_of_ble_eq_true rfl) (fun H h => h)) (fun _ => kG_no)
set_option maxRecDepth 100000 in
set_option maxHeartbeats 4000000 in
theorem cc_makerPart (l : Launch) (D : va_G) (Y : Nat → Nat) (A : Nat → Prop) (sg : Sg) (al : Nat → Nat → Nat) (X : va_W) (hw : lw sg 2) (i : Nat) (hi : i < sN sg 4)  : CT l yX5_makerPart (Cond.code yX5_makerPart cX5_makerPart 2 (some .int)) 4 85 D Y A [.ref (al 0 0), .int (nI i)] (WX D Y A sg al X) (fun _ : Unit => some (.int (sg.1 4 i 6))) (fun _ : Unit => WX D Y A sg al X) noX 0 0 := by
  refine CT.of (by decide) (Nat.le_of_ble_eq_true rfl) ?_
  intro p_ e_ s_ m_ below_ meth_ c_ C0 K0 hr hlk htab hnm_
  refine k_aload_n C0 dX5_makerPart_0 0 rfl ?_
  refine k_iload_n C0 dX5_makerPart_1 1 rfl ?_
  refine k_callV C0 K0 dX5_makerPart_2 (cc_saleAt l D Y A sg al X hw i hi) gkX5_101 hyX5_saleAt (c_recv (sg := sg) (al := al) K0 0 0 rfl rfl rfl) rfl (by exact Nat.le_of_ble_eq_true rfl) ⟨Nat.le_of_ble_eq_true rfl, Nat.le_of_ble_eq_true rfl⟩ ⟨Nat.le_of_ble_eq_true rfl, Nat.le_of_ble_eq_true rfl⟩ (fun E => kX_no E) (fun _ => ?_)
  refine c_getI C0 K0 4 i hi rfl inX3 rfl 6 (sg.1 4 i 6) (by decide) dX5_makerPart_5 (tB 165 rfl rfl) (fun _ h => h) rfl rfl ?_
  exact k_iret C0 dX5_makerPart_8 hr hlk (Nat.le_of_ble_eq_true rfl) (Nat.le_of_ble_eq_true rfl) () rfl (fun H h => h)
set_option maxRecDepth 100000 in
set_option maxHeartbeats 4000000 in
theorem cx_makerPart (l : Launch) (D : va_G) (Y : Nat → Nat) (A : Nat → Prop) (sg : Sg) (al : Nat → Nat → Nat) (X : va_W) (hlt : l.stackTraces = false) (hw : lw sg 2) (x : Int32) (h : ¬ (0 ≤ x ∧ x < nI (sN sg 4))) : CT l yX5_makerPart (Cond.code yX5_makerPart cX5_makerPart 2 (some .int)) 7 103 D Y A [.ref (al 0 0), .int x] (WX D Y A sg al X) (fun _ : Unit => none) (fun (_ : Unit) (_ : Heap) => False) (xE "java/lang/IndexOutOfBoundsException" (WX D Y A sg al X)) 1 6 := by
  refine CT.of (by decide) (Nat.le_of_ble_eq_true rfl) ?_
  intro p_ e_ s_ m_ below_ meth_ c_ C0 K0 hr hlk htab hnm_
  refine k_aload_n C0 dX5_makerPart_0 0 rfl ?_
  refine k_iload_n C0 dX5_makerPart_1 1 rfl ?_
  refine k_callV C0 K0 dX5_makerPart_2 (cx_saleAt l D Y A sg al X hlt hw x h) gkX5_101 hyX5_saleAt (c_recv (sg := sg) (al := al) K0 0 0 rfl rfl rfl) rfl (by exact Nat.le_of_ble_eq_true rfl) ⟨Nat.le_of_ble_eq_true rfl, Nat.le_of_ble_eq_true rfl⟩ ⟨Nat.le_of_ble_eq_true rfl, Nat.le_of_ble_eq_true rfl⟩ (fun E => kX_out htab hlk (Nat.le_of_ble_eq_true rfl) (Nat.le_of_ble_eq_true rfl) (fun H h => h)) (fun _ => kG_no)
set_option maxRecDepth 100000 in
set_option maxHeartbeats 4000000 in
theorem cc_payments (l : Launch) (D : va_G) (Y : Nat → Nat) (A : Nat → Prop) (sg : Sg) (al : Nat → Nat → Nat) (X : va_W) (hw : lw sg 3) (i : Nat) (hi : i < sN sg 5) : CT l yX5_payments (Cond.code yX5_payments cX5_payments 2 (some .int)) 4 85 D Y A [.ref (al 0 0), .int (nI i)] (WX D Y A sg al X) (fun _ : Unit => some (.int (sg.1 5 i 5))) (fun _ : Unit => WX D Y A sg al X) noX 0 0 := by
  refine CT.of (by decide) (Nat.le_of_ble_eq_true rfl) ?_
  intro p_ e_ s_ m_ below_ meth_ c_ C0 K0 hr hlk htab hnm_
  refine k_aload_n C0 dX5_payments_0 0 rfl ?_
  refine k_iload_n C0 dX5_payments_1 1 rfl ?_
  refine k_callV C0 K0 dX5_payments_2 (cc_subscriptionAt l D Y A sg al X hw i hi) gkX5_146 hyX5_subscriptionAt (c_recv (sg := sg) (al := al) K0 0 0 rfl rfl rfl) rfl (by exact Nat.le_of_ble_eq_true rfl) ⟨Nat.le_of_ble_eq_true rfl, Nat.le_of_ble_eq_true rfl⟩ ⟨Nat.le_of_ble_eq_true rfl, Nat.le_of_ble_eq_true rfl⟩ (fun E => kX_no E) (fun _ => ?_)
  refine c_getI C0 K0 5 i hi rfl inX4 rfl 5 (sg.1 5 i 5) (by decide) dX5_payments_5 (tB 225 rfl rfl) (fun _ h => h) rfl rfl ?_
  exact k_iret C0 dX5_payments_8 hr hlk (Nat.le_of_ble_eq_true rfl) (Nat.le_of_ble_eq_true rfl) () rfl (fun H h => h)
set_option maxRecDepth 100000 in
set_option maxHeartbeats 4000000 in
theorem cx_payments (l : Launch) (D : va_G) (Y : Nat → Nat) (A : Nat → Prop) (sg : Sg) (al : Nat → Nat → Nat) (X : va_W) (hlt : l.stackTraces = false) (hw : lw sg 3) (x : Int32) (h : ¬ (0 ≤ x ∧ x < nI (sN sg 5))) : CT l yX5_payments (Cond.code yX5_payments cX5_payments 2 (some .int)) 7 103 D Y A [.ref (al 0 0), .int x] (WX D Y A sg al X) (fun _ : Unit => none) (fun (_ : Unit) (_ : Heap) => False) (xE "java/lang/IndexOutOfBoundsException" (WX D Y A sg al X)) 1 6 := by
  refine CT.of (by decide) (Nat.le_of_ble_eq_true rfl) ?_
  intro p_ e_ s_ m_ below_ meth_ c_ C0 K0 hr hlk htab hnm_
  refine k_aload_n C0 dX5_payments_0 0 rfl ?_
  refine k_iload_n C0 dX5_payments_1 1 rfl ?_
  refine k_callV C0 K0 dX5_payments_2 (cx_subscriptionAt l D Y A sg al X hlt hw x h) gkX5_146 hyX5_subscriptionAt (c_recv (sg := sg) (al := al) K0 0 0 rfl rfl rfl) rfl (by exact Nat.le_of_ble_eq_true rfl) ⟨Nat.le_of_ble_eq_true rfl, Nat.le_of_ble_eq_true rfl⟩ ⟨Nat.le_of_ble_eq_true rfl, Nat.le_of_ble_eq_true rfl⟩ (fun E => kX_out htab hlk (Nat.le_of_ble_eq_true rfl) (Nat.le_of_ble_eq_true rfl) (fun H h => h)) (fun _ => kG_no)
set_option maxRecDepth 100000 in
set_option maxHeartbeats 4000000 in
theorem cc_next (l : Launch) (D : va_G) (Y : Nat → Nat) (A : Nat → Prop) (sg : Sg) (al : Nat → Nat → Nat) (X : va_W) (hw : lw sg 3) (i : Nat) (hi : i < sN sg 5) : CT l yX5_next (Cond.code yX5_next cX5_next 2 (some .int)) 4 85 D Y A [.ref (al 0 0), .int (nI i)] (WX D Y A sg al X) (fun _ : Unit => some (.int (sg.1 5 i 6))) (fun _ : Unit => WX D Y A sg al X) noX 0 0 := by
  refine CT.of (by decide) (Nat.le_of_ble_eq_true rfl) ?_
  intro p_ e_ s_ m_ below_ meth_ c_ C0 K0 hr hlk htab hnm_
  refine k_aload_n C0 dX5_next_0 0 rfl ?_
  refine k_iload_n C0 dX5_next_1 1 rfl ?_
  refine k_callV C0 K0 dX5_next_2 (cc_subscriptionAt l D Y A sg al X hw i hi) gkX5_146 hyX5_subscriptionAt (c_recv (sg := sg) (al := al) K0 0 0 rfl rfl rfl) rfl (by exact Nat.le_of_ble_eq_true rfl) ⟨Nat.le_of_ble_eq_true rfl, Nat.le_of_ble_eq_true rfl⟩ ⟨Nat.le_of_ble_eq_true rfl, Nat.le_of_ble_eq_true rfl⟩ (fun E => kX_no E) (fun _ => ?_)
  refine c_getI C0 K0 5 i hi rfl inX4 rfl 6 (sg.1 5 i 6) (by decide) dX5_next_5 (tB 227 rfl rfl) (fun _ h => h) rfl rfl ?_
  exact k_iret C0 dX5_next_8 hr hlk (Nat.le_of_ble_eq_true rfl) (Nat.le_of_ble_eq_true rfl) () rfl (fun H h => h)
set_option maxRecDepth 100000 in
set_option maxHeartbeats 4000000 in
theorem cx_next (l : Launch) (D : va_G) (Y : Nat → Nat) (A : Nat → Prop) (sg : Sg) (al : Nat → Nat → Nat) (X : va_W) (hlt : l.stackTraces = false) (hw : lw sg 3) (x : Int32) (h : ¬ (0 ≤ x ∧ x < nI (sN sg 5))) : CT l yX5_next (Cond.code yX5_next cX5_next 2 (some .int)) 7 103 D Y A [.ref (al 0 0), .int x] (WX D Y A sg al X) (fun _ : Unit => none) (fun (_ : Unit) (_ : Heap) => False) (xE "java/lang/IndexOutOfBoundsException" (WX D Y A sg al X)) 1 6 := by
  refine CT.of (by decide) (Nat.le_of_ble_eq_true rfl) ?_
  intro p_ e_ s_ m_ below_ meth_ c_ C0 K0 hr hlk htab hnm_
  refine k_aload_n C0 dX5_next_0 0 rfl ?_
  refine k_iload_n C0 dX5_next_1 1 rfl ?_
  refine k_callV C0 K0 dX5_next_2 (cx_subscriptionAt l D Y A sg al X hlt hw x h) gkX5_146 hyX5_subscriptionAt (c_recv (sg := sg) (al := al) K0 0 0 rfl rfl rfl) rfl (by exact Nat.le_of_ble_eq_true rfl) ⟨Nat.le_of_ble_eq_true rfl, Nat.le_of_ble_eq_true rfl⟩ ⟨Nat.le_of_ble_eq_true rfl, Nat.le_of_ble_eq_true rfl⟩ (fun E => kX_out htab hlk (Nat.le_of_ble_eq_true rfl) (Nat.le_of_ble_eq_true rfl) (fun H h => h)) (fun _ => kG_no)
set_option maxRecDepth 100000 in
set_option maxHeartbeats 4000000 in
theorem cc_balance (l : Launch) (D : va_G) (Y : Nat → Nat) (A : Nat → Prop) (sg : Sg) (al : Nat → Nat → Nat) (X : va_W) (hw : lw sg 0) (i : Nat) (hi : i < sN sg 2) : CT l yX5_balance (Cond.code yX5_balance cX5_balance 2 (some .int)) 4 85 D Y A [.ref (al 0 0), .int (nI i)] (WX D Y A sg al X) (fun _ : Unit => some (.int (sg.1 2 i 2 + sg.1 2 i 3))) (fun _ : Unit => WX D Y A sg al X) noX 0 0 := by
  refine CT.of (by decide) (Nat.le_of_ble_eq_true rfl) ?_
  intro p_ e_ s_ m_ below_ meth_ c_ C0 K0 hr hlk htab hnm_
  refine k_aload_n C0 dX5_balance_0 0 rfl ?_
  refine k_iload_n C0 dX5_balance_1 1 rfl ?_
  refine k_callV C0 K0 dX5_balance_2 (cc_makerAt l D Y A sg al X hw i hi) gkX5_75 hyX5_makerAt (c_recv (sg := sg) (al := al) K0 0 0 rfl rfl rfl) rfl (by exact Nat.le_of_ble_eq_true rfl) ⟨Nat.le_of_ble_eq_true rfl, Nat.le_of_ble_eq_true rfl⟩ ⟨Nat.le_of_ble_eq_true rfl, Nat.le_of_ble_eq_true rfl⟩ (fun E => kX_no E) (fun _ => ?_)
  refine k_callV C0 K0 dX5_balance_5 (cc_currentBalance l D Y A sg al X i hi) gkX5_191 hyX1_currentBalance (c_recv (sg := sg) (al := al) K0 2 i hi rfl rfl) rfl (by exact Nat.le_of_ble_eq_true rfl) ⟨Nat.le_of_ble_eq_true rfl, Nat.le_of_ble_eq_true rfl⟩ ⟨Nat.le_of_ble_eq_true rfl, Nat.le_of_ble_eq_true rfl⟩ (fun E => kX_no E) (fun _ => ?_)
  exact k_iret C0 dX5_balance_8 hr hlk (Nat.le_of_ble_eq_true rfl) (Nat.le_of_ble_eq_true rfl) () rfl (fun H h => h)
set_option maxRecDepth 100000 in
set_option maxHeartbeats 4000000 in
theorem cx_balance (l : Launch) (D : va_G) (Y : Nat → Nat) (A : Nat → Prop) (sg : Sg) (al : Nat → Nat → Nat) (X : va_W) (hlt : l.stackTraces = false) (hw : lw sg 0) (x : Int32) (h : ¬ (0 ≤ x ∧ x < nI (sN sg 2))) : CT l yX5_balance (Cond.code yX5_balance cX5_balance 2 (some .int)) 7 103 D Y A [.ref (al 0 0), .int x] (WX D Y A sg al X) (fun _ : Unit => none) (fun (_ : Unit) (_ : Heap) => False) (xE "java/lang/IndexOutOfBoundsException" (WX D Y A sg al X)) 1 6 := by
  refine CT.of (by decide) (Nat.le_of_ble_eq_true rfl) ?_
  intro p_ e_ s_ m_ below_ meth_ c_ C0 K0 hr hlk htab hnm_
  refine k_aload_n C0 dX5_balance_0 0 rfl ?_
  refine k_iload_n C0 dX5_balance_1 1 rfl ?_
  refine k_callV C0 K0 dX5_balance_2 (cx_makerAt l D Y A sg al X hlt hw x h) gkX5_75 hyX5_makerAt (c_recv (sg := sg) (al := al) K0 0 0 rfl rfl rfl) rfl (by exact Nat.le_of_ble_eq_true rfl) ⟨Nat.le_of_ble_eq_true rfl, Nat.le_of_ble_eq_true rfl⟩ ⟨Nat.le_of_ble_eq_true rfl, Nat.le_of_ble_eq_true rfl⟩ (fun E => kX_out htab hlk (Nat.le_of_ble_eq_true rfl) (Nat.le_of_ble_eq_true rfl) (fun H h => h)) (fun _ => kG_no)
set_option maxRecDepth 100000 in
set_option maxHeartbeats 4000000 in
theorem cc_heldTax (l : Launch) (D : va_G) (Y : Nat → Nat) (A : Nat → Prop) (sg : Sg) (al : Nat → Nat → Nat) (X : va_W) (j : Nat) (hj : j < 5) : CT l yX5_heldTax (Cond.code yX5_heldTax cX5_heldTax 2 (some .int)) 1 21 D Y A [.ref (al 0 0), .int (nI j)] (WX D Y A sg al X) (fun _ : Unit => some (.int (sg.1 1 j 3))) (fun _ : Unit => WX D Y A sg al X) noX 0 0 := by
  refine CT.of (by decide) (Nat.le_of_ble_eq_true rfl) ?_
  intro p_ e_ s_ m_ below_ meth_ c_ C0 K0 hr hlk htab hnm_
  refine k_aload_n C0 dX5_heldTax_0 0 rfl ?_
  refine k_iload_n C0 dX5_heldTax_1 1 rfl ?_
  refine k_callV C0 K0 dX5_heldTax_2 (cc_landAt l D Y A sg al X j hj) gkX5_44 hyX5_landAt (c_recv (sg := sg) (al := al) K0 0 0 rfl rfl rfl) rfl (by exact Nat.le_of_ble_eq_true rfl) ⟨Nat.le_of_ble_eq_true rfl, Nat.le_of_ble_eq_true rfl⟩ ⟨Nat.le_of_ble_eq_true rfl, Nat.le_of_ble_eq_true rfl⟩ (fun E => kX_no E) (fun _ => ?_)
  refine c_getI C0 K0 1 j hj rfl inX0 rfl 3 (sg.1 1 j 3) (by decide) dX5_heldTax_5 (tA 71 rfl rfl) (fun _ h => h) rfl rfl ?_
  exact k_iret C0 dX5_heldTax_8 hr hlk (Nat.le_of_ble_eq_true rfl) (Nat.le_of_ble_eq_true rfl) () rfl (fun H h => h)
set_option maxRecDepth 100000 in
set_option maxHeartbeats 4000000 in
theorem cx_heldTax (l : Launch) (D : va_G) (Y : Nat → Nat) (A : Nat → Prop) (sg : Sg) (al : Nat → Nat → Nat) (X : va_W) (hlt : l.stackTraces = false) (x : Int32) (h : ¬ (0 ≤ x ∧ x ≤ 4)) : CT l yX5_heldTax (Cond.code yX5_heldTax cX5_heldTax 2 (some .int)) 7 103 D Y A [.ref (al 0 0), .int x] (WX D Y A sg al X) (fun _ : Unit => none) (fun (_ : Unit) (_ : Heap) => False) (xE "java/lang/IllegalArgumentException" (WX D Y A sg al X)) 1 6 := by
  refine CT.of (by decide) (Nat.le_of_ble_eq_true rfl) ?_
  intro p_ e_ s_ m_ below_ meth_ c_ C0 K0 hr hlk htab hnm_
  refine k_aload_n C0 dX5_heldTax_0 0 rfl ?_
  refine k_iload_n C0 dX5_heldTax_1 1 rfl ?_
  refine k_callV C0 K0 dX5_heldTax_2 (cx_landAt l D Y A sg al X hlt x h) gkX5_44 hyX5_landAt (c_recv (sg := sg) (al := al) K0 0 0 rfl rfl rfl) rfl (by exact Nat.le_of_ble_eq_true rfl) ⟨Nat.le_of_ble_eq_true rfl, Nat.le_of_ble_eq_true rfl⟩ ⟨Nat.le_of_ble_eq_true rfl, Nat.le_of_ble_eq_true rfl⟩ (fun E => kX_out htab hlk (Nat.le_of_ble_eq_true rfl) (Nat.le_of_ble_eq_true rfl) (fun H h => h)) (fun _ => kG_no)
set_option maxRecDepth 100000 in
set_option maxHeartbeats 4000000 in
theorem cc_shop (l : Launch) (D : va_G) (Y : Nat → Nat) (A : Nat → Prop) (sg : Sg) (al : Nat → Nat → Nat) (X : va_W)  : CT l yX5_shop (Cond.code yX5_shop cX5_shop 1 (some .int)) 0 0 D Y A [.ref (al 0 0)] (WX D Y A sg al X) (fun _ : Unit => some (.int (sg.1 0 0 6))) (fun _ : Unit => WX D Y A sg al X) noX 0 0 := by
  refine CT.of (by decide) (Nat.le_of_ble_eq_true rfl) ?_
  intro p_ e_ s_ m_ below_ meth_ c_ C0 K0 hr hlk htab hnm_
  refine k_aload_n C0 dX5_shop_0 0 rfl ?_
  refine c_getI C0 K0 0 0 rfl rfl inX5 rfl 6 (sg.1 0 0 6) (by decide) dX5_shop_1 (tA 87 rfl rfl) (fun _ h => h) rfl rfl ?_
  exact k_iret C0 dX5_shop_4 hr hlk (Nat.le_of_ble_eq_true rfl) (Nat.le_of_ble_eq_true rfl) () rfl (fun H h => h)
set_option maxRecDepth 100000 in
set_option maxHeartbeats 4000000 in
theorem cc_takings (l : Launch) (D : va_G) (Y : Nat → Nat) (A : Nat → Prop) (sg : Sg) (al : Nat → Nat → Nat) (X : va_W)  : CT l yX5_takings (Cond.code yX5_takings cX5_takings 1 (some .int)) 0 0 D Y A [.ref (al 0 0)] (WX D Y A sg al X) (fun _ : Unit => some (.int (sg.1 0 0 7))) (fun _ : Unit => WX D Y A sg al X) noX 0 0 := by
  refine CT.of (by decide) (Nat.le_of_ble_eq_true rfl) ?_
  intro p_ e_ s_ m_ below_ meth_ c_ C0 K0 hr hlk htab hnm_
  refine k_aload_n C0 dX5_takings_0 0 rfl ?_
  refine c_getI C0 K0 0 0 rfl rfl inX5 rfl 7 (sg.1 0 0 7) (by decide) dX5_takings_1 (tA 88 rfl rfl) (fun _ h => h) rfl rfl ?_
  exact k_iret C0 dX5_takings_4 hr hlk (Nat.le_of_ble_eq_true rfl) (Nat.le_of_ble_eq_true rfl) () rfl (fun H h => h)
set_option maxRecDepth 100000 in
set_option maxHeartbeats 4000000 in
theorem cc_day (l : Launch) (D : va_G) (Y : Nat → Nat) (A : Nat → Prop) (sg : Sg) (al : Nat → Nat → Nat) (X : va_W)  : CT l yX5_day (Cond.code yX5_day cX5_day 1 (some .int)) 0 0 D Y A [.ref (al 0 0)] (WX D Y A sg al X) (fun _ : Unit => some (.int (sg.1 0 0 5))) (fun _ : Unit => WX D Y A sg al X) noX 0 0 := by
  refine CT.of (by decide) (Nat.le_of_ble_eq_true rfl) ?_
  intro p_ e_ s_ m_ below_ meth_ c_ C0 K0 hr hlk htab hnm_
  refine k_aload_n C0 dX5_day_0 0 rfl ?_
  refine c_getI C0 K0 0 0 rfl rfl inX5 rfl 5 (sg.1 0 0 5) (by decide) dX5_day_1 (tA 86 rfl rfl) (fun _ h => h) rfl rfl ?_
  exact k_iret C0 dX5_day_4 hr hlk (Nat.le_of_ble_eq_true rfl) (Nat.le_of_ble_eq_true rfl) () rfl (fun H h => h)
set_option maxRecDepth 100000 in
set_option maxHeartbeats 4000000 in
theorem cc_payout (l : Launch) (D : va_G) (Y : Nat → Nat) (A : Nat → Prop) (sg : Sg) (al : Nat → Nat → Nat) (X : va_W) (hw : lw sg 0) (i j : Nat) (hi : i < sN sg 2) (hj : j < 120) (h2 : nI j ≤ sg.1 0 0 5 / 30 - 1) : CT l yX5_payout (Cond.code yX5_payout cX5_payout 4 (some .int)) 4 85 D Y A [.ref (al 0 0), .int (nI i), .int (nI j)] (WX D Y A sg al X) (fun _ : Unit => some (.int (sg.1 6 i (nI j).toNatClampNeg))) (fun _ : Unit => WX D Y A sg al X) noX 0 0 := by
  refine CT.of (by decide) (Nat.le_of_ble_eq_true rfl) ?_
  intro p_ e_ s_ m_ below_ meth_ c_ C0 K0 hr hlk htab hnm_
  refine k_aload_n C0 dX5_payout_0 0 rfl ?_
  refine k_iload_n C0 dX5_payout_1 1 rfl ?_
  refine k_callV C0 K0 dX5_payout_2 (cc_makerAt l D Y A sg al X hw i hi) gkX5_75 hyX5_makerAt (c_recv (sg := sg) (al := al) K0 0 0 rfl rfl rfl) rfl (by exact Nat.le_of_ble_eq_true rfl) ⟨Nat.le_of_ble_eq_true rfl, Nat.le_of_ble_eq_true rfl⟩ ⟨Nat.le_of_ble_eq_true rfl, Nat.le_of_ble_eq_true rfl⟩ (fun E => kX_no E) (fun _ => ?_)
  refine k_astore_n C0 [(3, _), (0, _), (1, _), (2, _)] dX5_payout_5 (by decide) rfl ?_
  refine k_iload_n C0 dX5_payout_6 3 rfl ?_
  refine k_iconst C0 0 dX5_payout_7 (by decide) ?_
  refine k_aload_n C0 dX5_payout_8 1 rfl ?_
  refine k_callV C0 K0 dX5_payout_9 (cc_currentMonth l D Y A sg al X ) gkX5_117 hyX5_currentMonth (c_recv (sg := sg) (al := al) K0 0 0 rfl rfl rfl) rfl (by exact Nat.le_of_ble_eq_true rfl) ⟨Nat.le_of_ble_eq_true rfl, Nat.le_of_ble_eq_true rfl⟩ ⟨Nat.le_of_ble_eq_true rfl, Nat.le_of_ble_eq_true rfl⟩ (fun E => kX_no E) (fun _ => ?_)
  refine k_iconst C0 1 dX5_payout_12 (by decide) ?_
  refine k_isub C0 dX5_payout_13 ?_
  refine k_callS C0 K0 dX5_payout_14 (cc_requireRange l D Y A (WX D Y A sg al X) (nI j) (0 : Int32) ((sg.1 0 0 5 / 30) - 1) (nI_pos' (by omega)) h2) gkX5_48 hyX5_requireRange rfl (by exact Nat.le_of_ble_eq_true rfl) ⟨Nat.le_of_ble_eq_true rfl, Nat.le_of_ble_eq_true rfl⟩ ⟨Nat.le_of_ble_eq_true rfl, Nat.le_of_ble_eq_true rfl⟩ (fun E => kX_no E) (fun _ => ?_)
  refine k_aload_n C0 dX5_payout_17 0 rfl ?_
  refine k_iload_n C0 dX5_payout_18 3 rfl ?_
  refine k_callV C0 K0 dX5_payout_19 (cc_payoutOf l D Y A sg al X i hi j hj) gkX5_184 hyX1_payoutOf (c_recv (sg := sg) (al := al) K0 2 i hi rfl rfl) rfl (by exact Nat.le_of_ble_eq_true rfl) ⟨Nat.le_of_ble_eq_true rfl, Nat.le_of_ble_eq_true rfl⟩ ⟨Nat.le_of_ble_eq_true rfl, Nat.le_of_ble_eq_true rfl⟩ (fun E => kX_no E) (fun _ => ?_)
  exact k_iret C0 dX5_payout_22 hr hlk (Nat.le_of_ble_eq_true rfl) (Nat.le_of_ble_eq_true rfl) () rfl (fun H h => h)
set_option maxRecDepth 100000 in
set_option maxHeartbeats 4000000 in
theorem cx_payout_1 (l : Launch) (D : va_G) (Y : Nat → Nat) (A : Nat → Prop) (sg : Sg) (al : Nat → Nat → Nat) (X : va_W) (hlt : l.stackTraces = false) (hw : lw sg 0) (x : Int32) (h : ¬ (0 ≤ x ∧ x < nI (sN sg 2))) (y : Int32) : CT l yX5_payout (Cond.code yX5_payout cX5_payout 4 (some .int)) 7 103 D Y A [.ref (al 0 0), .int x, .int y] (WX D Y A sg al X) (fun _ : Unit => none) (fun (_ : Unit) (_ : Heap) => False) (xE "java/lang/IndexOutOfBoundsException" (WX D Y A sg al X)) 1 6 := by
  refine CT.of (by decide) (Nat.le_of_ble_eq_true rfl) ?_
  intro p_ e_ s_ m_ below_ meth_ c_ C0 K0 hr hlk htab hnm_
  refine k_aload_n C0 dX5_payout_0 0 rfl ?_
  refine k_iload_n C0 dX5_payout_1 1 rfl ?_
  refine k_callV C0 K0 dX5_payout_2 (cx_makerAt l D Y A sg al X hlt hw x h) gkX5_75 hyX5_makerAt (c_recv (sg := sg) (al := al) K0 0 0 rfl rfl rfl) rfl (by exact Nat.le_of_ble_eq_true rfl) ⟨Nat.le_of_ble_eq_true rfl, Nat.le_of_ble_eq_true rfl⟩ ⟨Nat.le_of_ble_eq_true rfl, Nat.le_of_ble_eq_true rfl⟩ (fun E => kX_out htab hlk (Nat.le_of_ble_eq_true rfl) (Nat.le_of_ble_eq_true rfl) (fun H h => h)) (fun _ => kG_no)
set_option maxRecDepth 100000 in
set_option maxHeartbeats 4000000 in
theorem cx_payout_2 (l : Launch) (D : va_G) (Y : Nat → Nat) (A : Nat → Prop) (sg : Sg) (al : Nat → Nat → Nat) (X : va_W) (hlt : l.stackTraces = false) (hw : lw sg 0) (i : Nat) (hi : i < sN sg 2) (x : Int32) (h : ¬ (0 ≤ x ∧ x ≤ sg.1 0 0 5 / 30 - 1)) : CT l yX5_payout (Cond.code yX5_payout cX5_payout 4 (some .int)) 7 104 D Y A [.ref (al 0 0), .int (nI i), .int x] (WX D Y A sg al X) (fun _ : Unit => none) (fun (_ : Unit) (_ : Heap) => False) (xE "java/lang/IllegalArgumentException" (WX D Y A sg al X)) 1 6 := by
  refine CT.of (by decide) (Nat.le_of_ble_eq_true rfl) ?_
  intro p_ e_ s_ m_ below_ meth_ c_ C0 K0 hr hlk htab hnm_
  refine k_aload_n C0 dX5_payout_0 0 rfl ?_
  refine k_iload_n C0 dX5_payout_1 1 rfl ?_
  refine k_callV C0 K0 dX5_payout_2 (cc_makerAt l D Y A sg al X hw i hi) gkX5_75 hyX5_makerAt (c_recv (sg := sg) (al := al) K0 0 0 rfl rfl rfl) rfl (by exact Nat.le_of_ble_eq_true rfl) ⟨Nat.le_of_ble_eq_true rfl, Nat.le_of_ble_eq_true rfl⟩ ⟨Nat.le_of_ble_eq_true rfl, Nat.le_of_ble_eq_true rfl⟩ (fun E => kX_no E) (fun _ => ?_)
  refine k_astore_n C0 [(3, _), (0, _), (1, _), (2, _)] dX5_payout_5 (by decide) rfl ?_
  refine k_iload_n C0 dX5_payout_6 3 rfl ?_
  refine k_iconst C0 0 dX5_payout_7 (by decide) ?_
  refine k_aload_n C0 dX5_payout_8 1 rfl ?_
  refine k_callV C0 K0 dX5_payout_9 (cc_currentMonth l D Y A sg al X ) gkX5_117 hyX5_currentMonth (c_recv (sg := sg) (al := al) K0 0 0 rfl rfl rfl) rfl (by exact Nat.le_of_ble_eq_true rfl) ⟨Nat.le_of_ble_eq_true rfl, Nat.le_of_ble_eq_true rfl⟩ ⟨Nat.le_of_ble_eq_true rfl, Nat.le_of_ble_eq_true rfl⟩ (fun E => kX_no E) (fun _ => ?_)
  refine k_iconst C0 1 dX5_payout_12 (by decide) ?_
  refine k_isub C0 dX5_payout_13 ?_
  refine k_callS C0 K0 dX5_payout_14 (cx_requireRange l D Y A sg al X hlt x (0 : Int32) ((sg.1 0 0 5 / 30) - 1) h) gkX5_48 hyX5_requireRange rfl (by exact Nat.le_of_ble_eq_true rfl) ⟨Nat.le_of_ble_eq_true rfl, Nat.le_of_ble_eq_true rfl⟩ ⟨Nat.le_of_ble_eq_true rfl, Nat.le_of_ble_eq_true rfl⟩ (fun E => kX_out htab hlk (Nat.le_of_ble_eq_true rfl) (Nat.le_of_ble_eq_true rfl) (fun H h => h)) (fun _ => kG_no)
set_option maxRecDepth 100000 in
set_option maxHeartbeats 4000000 in
theorem cc_cancel (l : Launch) (D : va_G) (Y : Nat → Nat) (A : Nat → Prop) (sg : Sg) (al : Nat → Nat → Nat) (X : va_W) (hw : lw sg 3) (u : Nat) (hu : u < sN sg 5) (he : ¬ sg.1 5 u 6 = -1) : CT l yX5_cancel (Cond.code yX5_cancel cX5_cancel 3 (some .int)) 4 85 D Y A [.ref (al 0 0), .int (nI u)] (WX D Y A sg al X) (fun _ : Unit => some (.int (sg.1 5 u 5))) (fun _ : Unit => WX D Y A (sI sg 5 u 6 (-1)) al X) noX 0 0 := by
  refine CT.of (by decide) (Nat.le_of_ble_eq_true rfl) ?_
  intro p_ e_ s_ m_ below_ meth_ c_ C0 K0 hr hlk htab hnm_
  refine k_aload_n C0 dX5_cancel_0 0 rfl ?_
  refine k_iload_n C0 dX5_cancel_1 1 rfl ?_
  refine k_callV C0 K0 dX5_cancel_2 (cc_subscriptionAt l D Y A sg al X hw u hu) gkX5_146 hyX5_subscriptionAt (c_recv (sg := sg) (al := al) K0 0 0 rfl rfl rfl) rfl (by exact Nat.le_of_ble_eq_true rfl) ⟨Nat.le_of_ble_eq_true rfl, Nat.le_of_ble_eq_true rfl⟩ ⟨Nat.le_of_ble_eq_true rfl, Nat.le_of_ble_eq_true rfl⟩ (fun E => kX_no E) (fun _ => ?_)
  refine k_astore_n C0 [(2, _), (0, _), (1, _)] dX5_cancel_5 (by decide) rfl ?_
  refine k_aload_n C0 dX5_cancel_6 0 rfl ?_
  refine k_callS C0 K0 dX5_cancel_7 (cc_requireRunning l D Y A sg al X u hu he) gkX5_165 hyX5_requireRunning rfl (by exact Nat.le_of_ble_eq_true rfl) ⟨Nat.le_of_ble_eq_true rfl, Nat.le_of_ble_eq_true rfl⟩ ⟨Nat.le_of_ble_eq_true rfl, Nat.le_of_ble_eq_true rfl⟩ (fun E => kX_no E) (fun _ => ?_)
  refine k_aload_n C0 dX5_cancel_10 0 rfl ?_
  refine k_callV C0 K0 dX5_cancel_11 (cc_end l D Y A sg al X u hu) gkX5_175 hyX4_end (c_recv (sg := sg) (al := al) K0 5 u hu rfl rfl) rfl (by exact Nat.le_of_ble_eq_true rfl) ⟨Nat.le_of_ble_eq_true rfl, Nat.le_of_ble_eq_true rfl⟩ ⟨Nat.le_of_ble_eq_true rfl, Nat.le_of_ble_eq_true rfl⟩ (fun E => kX_no E) (fun _ => ?_)
  refine k_aload_n C0 dX5_cancel_14 0 rfl ?_
  refine c_getI (sg := sI sg 5 u 6 (-1)) C0 K0 5 u hu rfl inX4 rfl 5 (sg.1 5 u 5) (by decide) dX5_cancel_15 (tB 225 rfl rfl) (fun _ h => h) rfl (up3_j (by decide) rfl) ?_
  exact k_iret C0 dX5_cancel_18 hr hlk (Nat.le_of_ble_eq_true rfl) (Nat.le_of_ble_eq_true rfl) () rfl (fun H h => h)
set_option maxRecDepth 100000 in
set_option maxHeartbeats 4000000 in
theorem cx_cancel_1 (l : Launch) (D : va_G) (Y : Nat → Nat) (A : Nat → Prop) (sg : Sg) (al : Nat → Nat → Nat) (X : va_W) (hlt : l.stackTraces = false) (hw : lw sg 3) (x : Int32) (h : ¬ (0 ≤ x ∧ x < nI (sN sg 5))) : CT l yX5_cancel (Cond.code yX5_cancel cX5_cancel 3 (some .int)) 7 103 D Y A [.ref (al 0 0), .int x] (WX D Y A sg al X) (fun _ : Unit => none) (fun (_ : Unit) (_ : Heap) => False) (xE "java/lang/IndexOutOfBoundsException" (WX D Y A sg al X)) 1 6 := by
  refine CT.of (by decide) (Nat.le_of_ble_eq_true rfl) ?_
  intro p_ e_ s_ m_ below_ meth_ c_ C0 K0 hr hlk htab hnm_
  refine k_aload_n C0 dX5_cancel_0 0 rfl ?_
  refine k_iload_n C0 dX5_cancel_1 1 rfl ?_
  refine k_callV C0 K0 dX5_cancel_2 (cx_subscriptionAt l D Y A sg al X hlt hw x h) gkX5_146 hyX5_subscriptionAt (c_recv (sg := sg) (al := al) K0 0 0 rfl rfl rfl) rfl (by exact Nat.le_of_ble_eq_true rfl) ⟨Nat.le_of_ble_eq_true rfl, Nat.le_of_ble_eq_true rfl⟩ ⟨Nat.le_of_ble_eq_true rfl, Nat.le_of_ble_eq_true rfl⟩ (fun E => kX_out htab hlk (Nat.le_of_ble_eq_true rfl) (Nat.le_of_ble_eq_true rfl) (fun H h => h)) (fun _ => kG_no)
set_option maxRecDepth 100000 in
set_option maxHeartbeats 4000000 in
theorem cx_cancel_2 (l : Launch) (D : va_G) (Y : Nat → Nat) (A : Nat → Prop) (sg : Sg) (al : Nat → Nat → Nat) (X : va_W) (hlt : l.stackTraces = false) (hw : lw sg 3) (u : Nat) (hu : u < sN sg 5) (he : sg.1 5 u 6 = -1) : CT l yX5_cancel (Cond.code yX5_cancel cX5_cancel 3 (some .int)) 7 102 D Y A [.ref (al 0 0), .int (nI u)] (WX D Y A sg al X) (fun _ : Unit => none) (fun (_ : Unit) (_ : Heap) => False) (xE "java/lang/IllegalStateException" (WX D Y A sg al X)) 1 6 := by
  refine CT.of (by decide) (Nat.le_of_ble_eq_true rfl) ?_
  intro p_ e_ s_ m_ below_ meth_ c_ C0 K0 hr hlk htab hnm_
  refine k_aload_n C0 dX5_cancel_0 0 rfl ?_
  refine k_iload_n C0 dX5_cancel_1 1 rfl ?_
  refine k_callV C0 K0 dX5_cancel_2 (cc_subscriptionAt l D Y A sg al X hw u hu) gkX5_146 hyX5_subscriptionAt (c_recv (sg := sg) (al := al) K0 0 0 rfl rfl rfl) rfl (by exact Nat.le_of_ble_eq_true rfl) ⟨Nat.le_of_ble_eq_true rfl, Nat.le_of_ble_eq_true rfl⟩ ⟨Nat.le_of_ble_eq_true rfl, Nat.le_of_ble_eq_true rfl⟩ (fun E => kX_no E) (fun _ => ?_)
  refine k_astore_n C0 [(2, _), (0, _), (1, _)] dX5_cancel_5 (by decide) rfl ?_
  refine k_aload_n C0 dX5_cancel_6 0 rfl ?_
  refine k_callS C0 K0 dX5_cancel_7 (cx_requireRunning l D Y A sg al X hlt u hu he) gkX5_165 hyX5_requireRunning rfl (by exact Nat.le_of_ble_eq_true rfl) ⟨Nat.le_of_ble_eq_true rfl, Nat.le_of_ble_eq_true rfl⟩ ⟨Nat.le_of_ble_eq_true rfl, Nat.le_of_ble_eq_true rfl⟩ (fun E => kX_out htab hlk (Nat.le_of_ble_eq_true rfl) (Nat.le_of_ble_eq_true rfl) (fun H h => h)) (fun _ => kG_no)
set_option maxRecDepth 100000 in
set_option maxHeartbeats 4000000 in
theorem cc_addMaker (l : Launch) (D : va_G) (Y : Nat → Nat) (A : Nat → Prop) (sg : Sg) (al : Nat → Nat → Nat) (t : Int32) (h1 : 0 ≤ t) (h2 : t ≤ 1000000) (hw : lw sg 0) (hN : sN sg 2 < 6) (r3 : ∀ i, i < sN sg 3 → sg.2 3 i 1 < sN sg 2) (r4 : ∀ i, i < sN sg 4 → sg.2 4 i 0 < sN sg 2) : CT l yX5_addMaker (Cond.code yX5_addMaker cX5_addMaker 2 (some .int)) 9 211 D Y A [.ref (al 0 0), .int t] (WX D Y A sg al []) (fun _ : Nat → Nat → Nat => some (.int (nI (sN sg 2)))) (fun al' : Nat → Nat → Nat => fun H => al' 0 0 = al 0 0 ∧ WX D Y A (c_add (n_maker sg t) 0) al' [] H) noX (2 + (capN sg 0 - sC sg 0)) (125 + 4 * (capN sg 0 - sC sg 0)) := by
  refine CT.of (by decide) (Nat.le_of_ble_eq_true rfl) ?_
  intro p_ e_ s_ m_ below_ meth_ c_ C0 K0 hr hlk htab hnm_
  obtain ⟨w1, w2, w3, w4, w5⟩ := hw; have w1 : sZ sg 0 = sN sg 2 := w1; have w2 : sF sg 0 = sN sg 2 := w2; have w3 : sN sg 2 ≤ sC sg 0 := w3
  refine k_iload_n C0 dX5_addMaker_0 1 rfl ?_
  refine k_iconst C0 0 dX5_addMaker_1 (by decide) ?_
  refine k_ldc C0 (v := 1000000) dX5_addMaker_2 (tA 190 rfl rfl) ?_
  refine k_callS C0 K0 dX5_addMaker_4 (cc_requireRange l D Y A (WX D Y A sg al []) t (0 : Int32) (1000000 : Int32) h1 h2) gkX5_48 hyX5_requireRange rfl (by exact Nat.le_of_ble_eq_true rfl) ⟨Nat.le_of_ble_eq_true rfl, Nat.le_of_ble_eq_true rfl⟩ ⟨Nat.zero_le _, Nat.zero_le _⟩ (fun E => kX_no E) (fun _ => ?_)
  refine k_aload_n C0 dX5_addMaker_7 0 rfl ?_
  refine c_get C0 K0 0 0 rfl rfl inX5 rfl 1 (.ref (al 9 0)) (by decide) dX5_addMaker_8 (tA 82 rfl rfl) (fun _ h => h) rfl ?_
  refine k_callV C0 K0 dX5_addMaker_11 (cl_size l D Y A sg al [] 0 (by decide)) gkX5_60 hyJx4a65c_size_8abf5 (c_recv (sg := sg) (al := al) K0 9 0 (show (0 : Nat) < 4 by decide) rfl rfl) rfl (by exact Nat.le_of_ble_eq_true rfl) ⟨Nat.le_of_ble_eq_true rfl, Nat.le_of_ble_eq_true rfl⟩ ⟨Nat.zero_le _, Nat.zero_le _⟩ (fun E => kX_no E) (fun _ => ?_)
  refine k_bipush C0 6 dX5_addMaker_14 (by decide) ?_
  refine k_callS C0 K0 dX5_addMaker_16 (cc_requireRoom l D Y A (WX D Y A sg al []) (nI (sZ sg 0)) (6 : Int32) ((nI_ltI (b := 6) (Nat.lt_of_le_of_lt (Nat.le_trans (Nat.le_of_eq w1) w3) (Nat.lt_of_le_of_lt w5 (by decide))) (by decide)).mpr (Nat.lt_of_le_of_lt (Nat.le_of_eq w1) hN))) gkX5_64 hyX5_requireRoom rfl (by exact Nat.le_of_ble_eq_true rfl) ⟨Nat.le_of_ble_eq_true rfl, Nat.le_of_ble_eq_true rfl⟩ ⟨Nat.zero_le _, Nat.zero_le _⟩ (fun E => kX_no E) (fun _ => ?_)
  refine k_aload_n C0 dX5_addMaker_19 0 rfl ?_
  refine c_get C0 K0 0 0 rfl rfl inX5 rfl 1 (.ref (al 9 0)) (by decide) dX5_addMaker_20 (tA 82 rfl rfl) (fun _ h => h) rfl ?_
  refine x_new (ci := 2) C0 K0 [.int 0, .null, .int 0, .int 0, .int 0] inX1 rfl tyX1 tyX1_ok (tA 214 rfl rfl) (tA 215 rfl rfl) (tA 14 rfl rfl) (fun j hj => by rcases (show j = 0 ∨ j = 1 ∨ j = 2 ∨ j = 3 ∨ j = 4 by omega) with rfl | rfl | rfl | rfl | rfl <;> rfl) (Nat.le_trans (show 1 ≤ 2 by decide) (Nat.le_add_right 2 _)) (Nat.le_trans (show 5 ≤ 125 by decide) (Nat.le_add_right 125 _)) dX5_addMaker_23 (fun q1 => ?_)
  refine k_dup C0 dX5_addMaker_26 rfl ?_
  refine k_iload_n C0 dX5_addMaker_27 1 rfl ?_
  refine k_callI C0 K0 dX5_addMaker_28 (ci_maker l D Y A sg al q1 t) (tA 218 rfl rfl) (tA 14 rfl rfl) (tA 216 rfl rfl) (tA 217 rfl rfl) rfl hyX1_init rfl (by exact Nat.le_of_ble_eq_true rfl) ⟨Nat.le_of_ble_eq_true rfl, Nat.le_of_ble_eq_true rfl⟩ ⟨Nat.le_add_right 2 _, Nat.le_add_right 125 _⟩ (fun E => kX_no E) (fun q2 => ?_)
  refine k_W (V' := WX D Y A (n_maker sg t) (aU (aU al 2 (sN sg 2) q1) 6 (sN sg 2) q2) []) (fun H h => h.addMaker r3 r4 (Nat.le_of_eq w2)) ?_
  have rq : (aU (aU al 2 (sN sg 2) q1) 6 (sN sg 2) q2) 2 (sN sg 2) = q1 := (aU_ne (al := aU al 2 (sN sg 2) q1) (fun z => absurd z.1 (by decide))).trans aU_at
  rw [show Value.ref q1 = Value.ref ((aU (aU al 2 (sN sg 2) q1) 6 (sN sg 2) q2) (2 + 0) (sF (n_maker sg t) 0)) from congrArg Value.ref (by rw [show sF (n_maker sg t) 0 = sN sg 2 from w2]; exact rq.symm)]
  refine k_callV C0 K0 dX5_addMaker_31 (cl_add l D Y A (n_maker sg t) (aU (aU al 2 (sN sg 2) q1) 6 (sN sg 2) q2) [] 0 (by decide) (w1.trans w2.symm) (Nat.le_trans (Nat.le_of_eq w2) w3) w4 w5 (by show sF sg 0 < sN sg 2 + 1; omega)) gkX5_71 hyJx4a65c_add_9ea2d (c_recv (sg := (n_maker sg t)) (al := (aU (aU al 2 (sN sg 2) q1) 6 (sN sg 2) q2)) K0 9 0 (show (0 : Nat) < 4 by decide) rfl rfl) rfl (by exact Nat.le_of_ble_eq_true rfl) ⟨Nat.le_of_ble_eq_true rfl, Nat.le_of_ble_eq_true rfl⟩ ⟨Nat.le_refl _, Nat.le_refl _⟩ (fun E => kX_no E) (fun q3 => ?_)
  refine k_pop C0 dX5_addMaker_34 rfl ?_
  refine k_aload_n C0 dX5_addMaker_35 0 rfl ?_
  refine c_get (sg := (c_add (n_maker sg t) 0)) (al := (aU (aU (aU al 2 (sN sg 2) q1) 6 (sN sg 2) q2) 10 0 q3)) C0 K0 0 0 rfl rfl inX5 rfl 1 (.ref ((aU (aU (aU al 2 (sN sg 2) q1) 6 (sN sg 2) q2) 10 0 q3) 9 0)) (by decide) dX5_addMaker_36 (tA 82 rfl rfl) (fun _ h => h) rfl ?_
  refine k_callV C0 K0 dX5_addMaker_39 (cl_size l D Y A (c_add (n_maker sg t) 0) (aU (aU (aU al 2 (sN sg 2) q1) 6 (sN sg 2) q2) 10 0 q3) [] 0 (by decide)) gkX5_60 hyJx4a65c_size_8abf5 (c_recv (sg := (c_add (n_maker sg t) 0)) (al := (aU (aU (aU al 2 (sN sg 2) q1) 6 (sN sg 2) q2) 10 0 q3)) K0 9 0 (show (0 : Nat) < 4 by decide) rfl rfl) rfl (by exact Nat.le_of_ble_eq_true rfl) ⟨Nat.le_of_ble_eq_true rfl, Nat.le_of_ble_eq_true rfl⟩ ⟨Nat.le_refl _, Nat.le_refl _⟩ (fun E => kX_no E) (fun _ => ?_)
  refine k_iconst C0 1 dX5_addMaker_42 (by decide) ?_
  refine k_isub C0 dX5_addMaker_43 ?_
  exact k_iret C0 dX5_addMaker_44 hr hlk (Nat.le_refl _) (Nat.le_refl _) (aU (aU (aU al 2 (sN sg 2) q1) 6 (sN sg 2) q2) 10 0 q3) (by show some (Value.int (nI (sN sg 2))) = some (Value.int (nI (sF (n_maker sg t) 0 + 1) - 1)); rw [show sF (n_maker sg t) 0 = sN sg 2 from w2, nI_pred]) (fun H h => ⟨rfl, h⟩)
set_option maxRecDepth 100000 in
set_option maxHeartbeats 4000000 in
theorem cc_addProduct (l : Launch) (D : va_G) (Y : Nat → Nat) (A : Nat → Prop) (sg : Sg) (al : Nat → Nat → Nat) (hw0 : lw sg 0) (i : Nat) (hi : i < sN sg 2) (v : Int32) (h1 : 0 ≤ v) (h2 : v ≤ 100000) (hw : lw sg 1) (hN : sN sg 3 < 20) (r5 : ∀ i, i < sN sg 5 → sg.2 5 i 2 < sN sg 3) : CT l yX5_addProduct (Cond.code yX5_addProduct cX5_addProduct 4 (some .int)) 9 211 D Y A [.ref (al 0 0), .int (nI i), .int v] (WX D Y A sg al []) (fun _ : Nat → Nat → Nat => some (.int (nI (sN sg 3)))) (fun al' : Nat → Nat → Nat => fun H => al' 0 0 = al 0 0 ∧ WX D Y A (c_add (n_prod sg i v) 1) al' [] H) noX (2 + (capN sg 1 - sC sg 1)) (8 + 4 * (capN sg 1 - sC sg 1)) := by
  refine CT.of (by decide) (Nat.le_of_ble_eq_true rfl) ?_
  intro p_ e_ s_ m_ below_ meth_ c_ C0 K0 hr hlk htab hnm_
  obtain ⟨w1, w2, w3, w4, w5⟩ := hw; have w1 : sZ sg 1 = sN sg 3 := w1; have w2 : sF sg 1 = sN sg 3 := w2; have w3 : sN sg 3 ≤ sC sg 1 := w3
  refine k_aload_n C0 dX5_addProduct_0 0 rfl ?_
  refine k_iload_n C0 dX5_addProduct_1 1 rfl ?_
  refine k_callV C0 K0 dX5_addProduct_2 (cc_makerAt l D Y A sg al [] hw0 i hi) gkX5_75 hyX5_makerAt (c_recv (sg := sg) (al := al) K0 0 0 rfl rfl rfl) rfl (by exact Nat.le_of_ble_eq_true rfl) ⟨Nat.le_of_ble_eq_true rfl, Nat.le_of_ble_eq_true rfl⟩ ⟨Nat.zero_le _, Nat.zero_le _⟩ (fun E => kX_no E) (fun _ => ?_)
  refine k_astore_n C0 [(3, _), (0, _), (1, _), (2, _)] dX5_addProduct_5 (by decide) rfl ?_
  refine k_iload_n C0 dX5_addProduct_6 3 rfl ?_
  refine k_iconst C0 0 dX5_addProduct_7 (by decide) ?_
  refine k_ldc C0 (v := 100000) dX5_addProduct_8 (tB 94 rfl rfl) ?_
  refine k_callS C0 K0 dX5_addProduct_10 (cc_requireRange l D Y A (WX D Y A sg al []) v (0 : Int32) (100000 : Int32) h1 h2) gkX5_48 hyX5_requireRange rfl (by exact Nat.le_of_ble_eq_true rfl) ⟨Nat.le_of_ble_eq_true rfl, Nat.le_of_ble_eq_true rfl⟩ ⟨Nat.zero_le _, Nat.zero_le _⟩ (fun E => kX_no E) (fun _ => ?_)
  refine k_aload_n C0 dX5_addProduct_13 1 rfl ?_
  refine c_get C0 K0 0 0 rfl rfl inX5 rfl 2 (.ref (al 9 1)) (by decide) dX5_addProduct_14 (tA 83 rfl rfl) (fun _ h => h) rfl ?_
  refine k_callV C0 K0 dX5_addProduct_17 (cl_size l D Y A sg al [] 1 (by decide)) gkX5_60 hyJx4a65c_size_8abf5 (c_recv (sg := sg) (al := al) K0 9 1 (show (1 : Nat) < 4 by decide) rfl rfl) rfl (by exact Nat.le_of_ble_eq_true rfl) ⟨Nat.le_of_ble_eq_true rfl, Nat.le_of_ble_eq_true rfl⟩ ⟨Nat.zero_le _, Nat.zero_le _⟩ (fun E => kX_no E) (fun _ => ?_)
  refine k_bipush C0 20 dX5_addProduct_20 (by decide) ?_
  refine k_callS C0 K0 dX5_addProduct_22 (cc_requireRoom l D Y A (WX D Y A sg al []) (nI (sZ sg 1)) (20 : Int32) ((nI_ltI (b := 20) (Nat.lt_of_le_of_lt (Nat.le_trans (Nat.le_of_eq w1) w3) (Nat.lt_of_le_of_lt w5 (by decide))) (by decide)).mpr (Nat.lt_of_le_of_lt (Nat.le_of_eq w1) hN))) gkX5_64 hyX5_requireRoom rfl (by exact Nat.le_of_ble_eq_true rfl) ⟨Nat.le_of_ble_eq_true rfl, Nat.le_of_ble_eq_true rfl⟩ ⟨Nat.zero_le _, Nat.zero_le _⟩ (fun E => kX_no E) (fun _ => ?_)
  refine k_aload_n C0 dX5_addProduct_25 1 rfl ?_
  refine c_get C0 K0 0 0 rfl rfl inX5 rfl 2 (.ref (al 9 1)) (by decide) dX5_addProduct_26 (tA 83 rfl rfl) (fun _ h => h) rfl ?_
  refine x_new (ci := 3) C0 K0 [.int 0, .null, .null] inX2 rfl tyX2 tyX2_ok (tB 95 rfl rfl) (tB 96 rfl rfl) (tA 19 rfl rfl) (fun j hj => by rcases (show j = 0 ∨ j = 1 ∨ j = 2 by omega) with rfl | rfl | rfl <;> rfl) (Nat.le_trans (show 1 ≤ 2 by decide) (Nat.le_add_right 2 _)) (Nat.le_trans (show 3 ≤ 8 by decide) (Nat.le_add_right 8 _)) dX5_addProduct_29 (fun q1 => ?_)
  refine k_dup C0 dX5_addProduct_32 rfl ?_
  refine k_aload_n C0 dX5_addProduct_33 1 rfl ?_
  refine c_get C0 K0 0 0 rfl rfl inX5 rfl 2 (.ref (al 9 1)) (by decide) dX5_addProduct_34 (tA 83 rfl rfl) (fun _ h => h) rfl ?_
  refine k_callV C0 K0 dX5_addProduct_37 (cl_size l D Y A sg al [(q1, .inr (3, [.int 0, .null, .null]))] 1 (by decide)) gkX5_60 hyJx4a65c_size_8abf5 (c_recv (sg := sg) (al := al) K0 9 1 (show (1 : Nat) < 4 by decide) rfl rfl) rfl (by exact Nat.le_of_ble_eq_true rfl) ⟨Nat.le_of_ble_eq_true rfl, Nat.le_of_ble_eq_true rfl⟩ ⟨Nat.le_trans (show 1 ≤ 2 by decide) (Nat.le_add_right 2 _), Nat.le_trans (show 3 ≤ 8 by decide) (Nat.le_add_right 8 _)⟩ (fun E => kX_no E) (fun _ => ?_)
  rw [show nI (sg.2 21 1 0) = nI (sN sg 3) from congrArg nI w1]
  refine k_aload_n C0 dX5_addProduct_40 0 rfl ?_
  refine k_iload_n C0 dX5_addProduct_41 3 rfl ?_
  refine k_callI C0 K0 dX5_addProduct_42 (ci_prod l D Y A sg al q1 i (nI (sN sg 3)) v) (tB 99 rfl rfl) (tA 19 rfl rfl) (tB 97 rfl rfl) (tB 98 rfl rfl) rfl hyX2_init rfl (by exact Nat.le_of_ble_eq_true rfl) ⟨Nat.le_of_ble_eq_true rfl, Nat.le_of_ble_eq_true rfl⟩ ⟨Nat.le_add_right 2 _, Nat.le_add_right 8 _⟩ (fun E => kX_no E) (fun q2 => ?_)
  refine k_W (V' := WX D Y A (n_prod sg i v) (aU (aU al 3 (sN sg 3) q1) 7 (sN sg 3) q2) []) (fun H h => h.addProd r5 (Nat.le_of_eq w2)) ?_
  have rq : (aU (aU al 3 (sN sg 3) q1) 7 (sN sg 3) q2) 3 (sN sg 3) = q1 := (aU_ne (al := aU al 3 (sN sg 3) q1) (fun z => absurd z.1 (by decide))).trans aU_at
  rw [show Value.ref q1 = Value.ref ((aU (aU al 3 (sN sg 3) q1) 7 (sN sg 3) q2) (2 + 1) (sF (n_prod sg i v) 1)) from congrArg Value.ref (by rw [show sF (n_prod sg i v) 1 = sN sg 3 from w2]; exact rq.symm)]
  refine k_callV C0 K0 dX5_addProduct_45 (cl_add l D Y A (n_prod sg i v) (aU (aU al 3 (sN sg 3) q1) 7 (sN sg 3) q2) [] 1 (by decide) (w1.trans w2.symm) (Nat.le_trans (Nat.le_of_eq w2) w3) w4 w5 (by show sF sg 1 < sN sg 3 + 1; omega)) gkX5_71 hyJx4a65c_add_9ea2d (c_recv (sg := (n_prod sg i v)) (al := (aU (aU al 3 (sN sg 3) q1) 7 (sN sg 3) q2)) K0 9 1 (show (1 : Nat) < 4 by decide) rfl rfl) rfl (by exact Nat.le_of_ble_eq_true rfl) ⟨Nat.le_of_ble_eq_true rfl, Nat.le_of_ble_eq_true rfl⟩ ⟨Nat.le_refl _, Nat.le_refl _⟩ (fun E => kX_no E) (fun q3 => ?_)
  refine k_pop C0 dX5_addProduct_48 rfl ?_
  refine k_aload_n C0 dX5_addProduct_49 1 rfl ?_
  refine c_get (sg := (c_add (n_prod sg i v) 1)) (al := (aU (aU (aU al 3 (sN sg 3) q1) 7 (sN sg 3) q2) 10 1 q3)) C0 K0 0 0 rfl rfl inX5 rfl 2 (.ref ((aU (aU (aU al 3 (sN sg 3) q1) 7 (sN sg 3) q2) 10 1 q3) 9 1)) (by decide) dX5_addProduct_50 (tA 83 rfl rfl) (fun _ h => h) rfl ?_
  refine k_callV C0 K0 dX5_addProduct_53 (cl_size l D Y A (c_add (n_prod sg i v) 1) (aU (aU (aU al 3 (sN sg 3) q1) 7 (sN sg 3) q2) 10 1 q3) [] 1 (by decide)) gkX5_60 hyJx4a65c_size_8abf5 (c_recv (sg := (c_add (n_prod sg i v) 1)) (al := (aU (aU (aU al 3 (sN sg 3) q1) 7 (sN sg 3) q2) 10 1 q3)) K0 9 1 (show (1 : Nat) < 4 by decide) rfl rfl) rfl (by exact Nat.le_of_ble_eq_true rfl) ⟨Nat.le_of_ble_eq_true rfl, Nat.le_of_ble_eq_true rfl⟩ ⟨Nat.le_refl _, Nat.le_refl _⟩ (fun E => kX_no E) (fun _ => ?_)
  refine k_iconst C0 1 dX5_addProduct_56 (by decide) ?_
  refine k_isub C0 dX5_addProduct_57 ?_
  exact k_iret C0 dX5_addProduct_58 hr hlk (Nat.le_refl _) (Nat.le_refl _) (aU (aU (aU al 3 (sN sg 3) q1) 7 (sN sg 3) q2) 10 1 q3) (by show some (Value.int (nI (sN sg 3))) = some (Value.int (nI (sF (n_prod sg i v) 1 + 1) - 1)); rw [show sF (n_prod sg i v) 1 = sN sg 3 from w2, nI_pred]) (fun H h => ⟨rfl, h⟩)
set_option maxRecDepth 100000 in
set_option maxHeartbeats 4000000 in
theorem cc_subscribe (l : Launch) (D : va_G) (Y : Nat → Nat) (A : Nat → Prop) (sg : Sg) (al : Nat → Nat → Nat) (hw1 : lw sg 1) (i j : Nat) (hi : i < sN sg 3) (hj : j < 5) (dv b : Int32) (hb : b = 0 ∨ b = 1) (h1 : 1 ≤ dv) (h2 : dv ≤ 60) (hw : lw sg 3) (hN : sN sg 5 < 40) : CT l yX5_subscribe (Cond.code yX5_subscribe cX5_subscribe 7 (some .int)) 9 211 D Y A [.ref (al 0 0), .int (nI i), .int (nI j), .int dv, .int b] (WX D Y A sg al []) (fun _ : Nat → Nat → Nat => some (.int (nI (sN sg 5)))) (fun al' : Nat → Nat → Nat => fun H => al' 0 0 = al 0 0 ∧ WX D Y A (c_add (n_sub sg j i (gSub b (sg.1 0 0 5 + dv))) 3) al' [] H) noX (1 + (capN sg 3 - sC sg 3)) (7 + 4 * (capN sg 3 - sC sg 3)) := by
  refine CT.of (by decide) (Nat.le_of_ble_eq_true rfl) ?_
  intro p_ e_ s_ m_ below_ meth_ c_ C0 K0 hr hlk htab hnm_
  obtain ⟨w1, w2, w3, w4, w5⟩ := hw; have w1 : sZ sg 3 = sN sg 5 := w1; have w2 : sF sg 3 = sN sg 5 := w2; have w3 : sN sg 5 ≤ sC sg 3 := w3
  refine k_aload_n C0 dX5_subscribe_0 0 rfl ?_
  refine k_iload_n C0 dX5_subscribe_1 1 rfl ?_
  refine k_callV C0 K0 dX5_subscribe_2 (cc_productAt l D Y A sg al [] hw1 i hi) gkX5_85 hyX5_productAt (c_recv (sg := sg) (al := al) K0 0 0 rfl rfl rfl) rfl (by exact Nat.le_of_ble_eq_true rfl) ⟨Nat.le_of_ble_eq_true rfl, Nat.le_of_ble_eq_true rfl⟩ ⟨Nat.zero_le _, Nat.zero_le _⟩ (fun E => kX_no E) (fun _ => ?_)
  refine k_astore C0 [(5, _), (0, _), (1, _), (2, _), (3, _), (4, _)] dX5_subscribe_5 (by decide) rfl ?_
  refine k_aload_n C0 dX5_subscribe_7 1 rfl ?_
  refine k_iload_n C0 dX5_subscribe_8 3 rfl ?_
  refine k_callV C0 K0 dX5_subscribe_9 (cc_landAt l D Y A sg al [] j hj) gkX5_44 hyX5_landAt (c_recv (sg := sg) (al := al) K0 0 0 rfl rfl rfl) rfl (by exact Nat.le_of_ble_eq_true rfl) ⟨Nat.le_of_ble_eq_true rfl, Nat.le_of_ble_eq_true rfl⟩ ⟨Nat.zero_le _, Nat.zero_le _⟩ (fun E => kX_no E) (fun _ => ?_)
  refine k_astore C0 [(6, _), (5, _), (0, _), (1, _), (2, _), (3, _), (4, _)] dX5_subscribe_12 (by decide) rfl ?_
  refine k_iload_n C0 dX5_subscribe_14 5 rfl ?_
  refine k_iconst C0 1 dX5_subscribe_15 (by decide) ?_
  refine k_bipush C0 60 dX5_subscribe_16 (by decide) ?_
  refine k_callS C0 K0 dX5_subscribe_18 (cc_requireRange l D Y A (WX D Y A sg al []) dv (1 : Int32) (60 : Int32) h1 h2) gkX5_48 hyX5_requireRange rfl (by exact Nat.le_of_ble_eq_true rfl) ⟨Nat.le_of_ble_eq_true rfl, Nat.le_of_ble_eq_true rfl⟩ ⟨Nat.zero_le _, Nat.zero_le _⟩ (fun E => kX_no E) (fun _ => ?_)
  refine k_aload_n C0 dX5_subscribe_21 2 rfl ?_
  refine c_get C0 K0 0 0 rfl rfl inX5 rfl 4 (.ref (al 9 3)) (by decide) dX5_subscribe_22 (tA 85 rfl rfl) (fun _ h => h) rfl ?_
  refine k_callV C0 K0 dX5_subscribe_25 (cl_size l D Y A sg al [] 3 (by decide)) gkX5_60 hyJx4a65c_size_8abf5 (c_recv (sg := sg) (al := al) K0 9 3 (show (3 : Nat) < 4 by decide) rfl rfl) rfl (by exact Nat.le_of_ble_eq_true rfl) ⟨Nat.le_of_ble_eq_true rfl, Nat.le_of_ble_eq_true rfl⟩ ⟨Nat.zero_le _, Nat.zero_le _⟩ (fun E => kX_no E) (fun _ => ?_)
  refine k_bipush C0 40 dX5_subscribe_28 (by decide) ?_
  refine k_callS C0 K0 dX5_subscribe_30 (cc_requireRoom l D Y A (WX D Y A sg al []) (nI (sZ sg 3)) (40 : Int32) ((nI_ltI (b := 40) (Nat.lt_of_le_of_lt (Nat.le_trans (Nat.le_of_eq w1) w3) (Nat.lt_of_le_of_lt w5 (by decide))) (by decide)).mpr (Nat.lt_of_le_of_lt (Nat.le_of_eq w1) hN))) gkX5_64 hyX5_requireRoom rfl (by exact Nat.le_of_ble_eq_true rfl) ⟨Nat.le_of_ble_eq_true rfl, Nat.le_of_ble_eq_true rfl⟩ ⟨Nat.zero_le _, Nat.zero_le _⟩ (fun E => kX_no E) (fun _ => ?_)
  refine k_aload_n C0 dX5_subscribe_33 2 rfl ?_
  refine c_get C0 K0 0 0 rfl rfl inX5 rfl 4 (.ref (al 9 3)) (by decide) dX5_subscribe_34 (tA 85 rfl rfl) (fun _ h => h) rfl ?_
  refine x_new (ci := 5) C0 K0 [.null, .int 0, .null, .int 0, .int 0, .int 0, .int 0] inX4 rfl tyX4 tyX4_ok (tB 210 rfl rfl) (tB 211 rfl rfl) (tA 21 rfl rfl) (fun j hj => by rcases (show j = 0 ∨ j = 1 ∨ j = 2 ∨ j = 3 ∨ j = 4 ∨ j = 5 ∨ j = 6 by omega) with rfl | rfl | rfl | rfl | rfl | rfl | rfl <;> rfl) (Nat.le_trans (show 1 ≤ 1 by decide) (Nat.le_add_right 1 _)) (Nat.le_trans (show 7 ≤ 7 by decide) (Nat.le_add_right 7 _)) dX5_subscribe_37 (fun q1 => ?_)
  refine k_dup C0 dX5_subscribe_40 rfl ?_
  refine k_aload C0 dX5_subscribe_41 1 rfl ?_
  refine k_aload C0 dX5_subscribe_43 0 rfl ?_
  refine k_aload_n C0 dX5_subscribe_45 2 rfl ?_
  refine c_getI C0 K0 0 0 rfl rfl inX5 rfl 5 (sg.1 0 0 5) (by decide) dX5_subscribe_46 (tA 86 rfl rfl) (fun _ h => h) rfl rfl ?_
  refine k_iload_n C0 dX5_subscribe_49 5 rfl ?_
  refine k_iadd C0 dX5_subscribe_50 ?_
  refine k_iload C0 dX5_subscribe_51 6 rfl ?_
  refine k_callI C0 K0 dX5_subscribe_53 (ci_sub l D Y A sg al q1 i j (sg.1 0 0 5 + dv) b hb) (tB 214 rfl rfl) (tA 21 rfl rfl) (tB 212 rfl rfl) (tB 213 rfl rfl) rfl hyX4_init rfl (by exact Nat.le_of_ble_eq_true rfl) ⟨Nat.le_of_ble_eq_true rfl, Nat.le_of_ble_eq_true rfl⟩ ⟨Nat.le_add_right 1 _, Nat.le_add_right 7 _⟩ (fun E => kX_no E) (fun _ => ?_)
  refine k_W (V' := WX D Y A (n_sub sg j i (gSub b (sg.1 0 0 5 + dv))) (aU al 5 (sN sg 5) q1) []) (fun H h => WX.addSub (g := gSub b (sg.1 0 0 5 + dv)) (Nat.le_of_eq w2) h) ?_
  have rq : (aU al 5 (sN sg 5) q1) 5 (sN sg 5) = q1 := aU_at
  rw [show Value.ref q1 = Value.ref ((aU al 5 (sN sg 5) q1) (2 + 3) (sF (n_sub sg j i (gSub b (sg.1 0 0 5 + dv))) 3)) from congrArg Value.ref (by rw [show sF (n_sub sg j i (gSub b (sg.1 0 0 5 + dv))) 3 = sN sg 5 from w2]; exact rq.symm)]
  refine k_callV C0 K0 dX5_subscribe_56 (cl_add l D Y A (n_sub sg j i (gSub b (sg.1 0 0 5 + dv))) (aU al 5 (sN sg 5) q1) [] 3 (by decide) (w1.trans w2.symm) (Nat.le_trans (Nat.le_of_eq w2) w3) w4 w5 (by show sF sg 3 < sN sg 5 + 1; omega)) gkX5_71 hyJx4a65c_add_9ea2d (c_recv (sg := (n_sub sg j i (gSub b (sg.1 0 0 5 + dv)))) (al := (aU al 5 (sN sg 5) q1)) K0 9 3 (show (3 : Nat) < 4 by decide) rfl rfl) rfl (by exact Nat.le_of_ble_eq_true rfl) ⟨Nat.le_of_ble_eq_true rfl, Nat.le_of_ble_eq_true rfl⟩ ⟨Nat.le_refl _, Nat.le_refl _⟩ (fun E => kX_no E) (fun q3 => ?_)
  refine k_pop C0 dX5_subscribe_59 rfl ?_
  refine k_aload_n C0 dX5_subscribe_60 2 rfl ?_
  refine c_get (sg := (c_add (n_sub sg j i (gSub b (sg.1 0 0 5 + dv))) 3)) (al := (aU (aU al 5 (sN sg 5) q1) 10 3 q3)) C0 K0 0 0 rfl rfl inX5 rfl 4 (.ref ((aU (aU al 5 (sN sg 5) q1) 10 3 q3) 9 3)) (by decide) dX5_subscribe_61 (tA 85 rfl rfl) (fun _ h => h) rfl ?_
  refine k_callV C0 K0 dX5_subscribe_64 (cl_size l D Y A (c_add (n_sub sg j i (gSub b (sg.1 0 0 5 + dv))) 3) (aU (aU al 5 (sN sg 5) q1) 10 3 q3) [] 3 (by decide)) gkX5_60 hyJx4a65c_size_8abf5 (c_recv (sg := (c_add (n_sub sg j i (gSub b (sg.1 0 0 5 + dv))) 3)) (al := (aU (aU al 5 (sN sg 5) q1) 10 3 q3)) K0 9 3 (show (3 : Nat) < 4 by decide) rfl rfl) rfl (by exact Nat.le_of_ble_eq_true rfl) ⟨Nat.le_of_ble_eq_true rfl, Nat.le_of_ble_eq_true rfl⟩ ⟨Nat.le_refl _, Nat.le_refl _⟩ (fun E => kX_no E) (fun _ => ?_)
  refine k_iconst C0 1 dX5_subscribe_67 (by decide) ?_
  refine k_isub C0 dX5_subscribe_68 ?_
  exact k_iret C0 dX5_subscribe_69 hr hlk (Nat.le_refl _) (Nat.le_refl _) (aU (aU al 5 (sN sg 5) q1) 10 3 q3) (by show some (Value.int (nI (sN sg 5))) = some (Value.int (nI (sF (n_sub sg j i (gSub b (sg.1 0 0 5 + dv))) 3 + 1) - 1)); rw [show sF (n_sub sg j i (gSub b (sg.1 0 0 5 + dv))) 3 = sN sg 5 from w2, nI_pred]) (fun H h => ⟨rfl, h⟩)
set_option maxRecDepth 100000 in
set_option maxHeartbeats 4000000 in
theorem cx_addMaker_1 (l : Launch) (D : va_G) (Y : Nat → Nat) (A : Nat → Prop) (sg : Sg) (al : Nat → Nat → Nat) (X : va_W) (hlt : l.stackTraces = false) (t : Int32) (h : ¬ (0 ≤ t ∧ t ≤ 1000000)) : CT l yX5_addMaker (Cond.code yX5_addMaker cX5_addMaker 2 (some .int)) 7 104 D Y A [.ref (al 0 0), .int t] (WX D Y A sg al X) (fun _ : Unit => none) (fun (_ : Unit) (_ : Heap) => False) (xE "java/lang/IllegalArgumentException" (WX D Y A sg al X)) 1 6 := by
  refine CT.of (by decide) (Nat.le_of_ble_eq_true rfl) ?_
  intro p_ e_ s_ m_ below_ meth_ c_ C0 K0 hr hlk htab hnm_
  refine k_iload_n C0 dX5_addMaker_0 1 rfl ?_
  refine k_iconst C0 0 dX5_addMaker_1 (by decide) ?_
  refine k_ldc C0 (v := 1000000) dX5_addMaker_2 (tA 190 rfl rfl) ?_
  refine k_callS C0 K0 dX5_addMaker_4 (cx_requireRange l D Y A sg al X hlt t (0 : Int32) (1000000 : Int32) h) gkX5_48 hyX5_requireRange rfl (by exact Nat.le_of_ble_eq_true rfl) ⟨Nat.le_of_ble_eq_true rfl, Nat.le_of_ble_eq_true rfl⟩ ⟨Nat.le_of_ble_eq_true rfl, Nat.le_of_ble_eq_true rfl⟩ (fun E => kX_out htab hlk (Nat.le_of_ble_eq_true rfl) (Nat.le_of_ble_eq_true rfl) (fun H h => h)) (fun _ => kG_no)
set_option maxRecDepth 100000 in
set_option maxHeartbeats 4000000 in
theorem cx_addMaker_2 (l : Launch) (D : va_G) (Y : Nat → Nat) (A : Nat → Prop) (sg : Sg) (al : Nat → Nat → Nat) (X : va_W) (hlt : l.stackTraces = false) (t : Int32) (h1 : 0 ≤ t) (h2 : t ≤ 1000000) (w1 : sZ sg 0 = sN sg 2) (hN : ¬ nI (sN sg 2) < 6) : CT l yX5_addMaker (Cond.code yX5_addMaker cX5_addMaker 2 (some .int)) 7 103 D Y A [.ref (al 0 0), .int t] (WX D Y A sg al X) (fun _ : Unit => none) (fun (_ : Unit) (_ : Heap) => False) (xE "java/lang/IllegalStateException" (WX D Y A sg al X)) 1 6 := by
  refine CT.of (by decide) (Nat.le_of_ble_eq_true rfl) ?_
  intro p_ e_ s_ m_ below_ meth_ c_ C0 K0 hr hlk htab hnm_
  refine k_iload_n C0 dX5_addMaker_0 1 rfl ?_
  refine k_iconst C0 0 dX5_addMaker_1 (by decide) ?_
  refine k_ldc C0 (v := 1000000) dX5_addMaker_2 (tA 190 rfl rfl) ?_
  refine k_callS C0 K0 dX5_addMaker_4 (cc_requireRange l D Y A (WX D Y A sg al X) t (0 : Int32) (1000000 : Int32) h1 h2) gkX5_48 hyX5_requireRange rfl (by exact Nat.le_of_ble_eq_true rfl) ⟨Nat.le_of_ble_eq_true rfl, Nat.le_of_ble_eq_true rfl⟩ ⟨Nat.le_of_ble_eq_true rfl, Nat.le_of_ble_eq_true rfl⟩ (fun E => kX_no E) (fun _ => ?_)
  refine k_aload_n C0 dX5_addMaker_7 0 rfl ?_
  refine c_get C0 K0 0 0 rfl rfl inX5 rfl 1 (.ref (al 9 0)) (by decide) dX5_addMaker_8 (tA 82 rfl rfl) (fun _ h => h) rfl ?_
  refine k_callV C0 K0 dX5_addMaker_11 (cl_size l D Y A sg al X 0 (by decide)) gkX5_60 hyJx4a65c_size_8abf5 (c_recv (sg := sg) (al := al) K0 9 0 (show (0 : Nat) < 4 by decide) rfl rfl) rfl (by exact Nat.le_of_ble_eq_true rfl) ⟨Nat.le_of_ble_eq_true rfl, Nat.le_of_ble_eq_true rfl⟩ ⟨Nat.le_of_ble_eq_true rfl, Nat.le_of_ble_eq_true rfl⟩ (fun E => kX_no E) (fun _ => ?_)
  refine k_bipush C0 6 dX5_addMaker_14 (by decide) ?_
  refine k_callS C0 K0 dX5_addMaker_16 (cx_requireRoom l D Y A sg al X hlt (nI (sZ sg 0)) (6 : Int32) (fun z => hN (by have e := w1; exact (congrArg (fun t => nI t < 6) e).mp z))) gkX5_64 hyX5_requireRoom rfl (by exact Nat.le_of_ble_eq_true rfl) ⟨Nat.le_of_ble_eq_true rfl, Nat.le_of_ble_eq_true rfl⟩ ⟨Nat.le_of_ble_eq_true rfl, Nat.le_of_ble_eq_true rfl⟩ (fun E => kX_out htab hlk (Nat.le_of_ble_eq_true rfl) (Nat.le_of_ble_eq_true rfl) (fun H h => h)) (fun _ => kG_no)
set_option maxRecDepth 100000 in
set_option maxHeartbeats 4000000 in
theorem cx_addProduct_1 (l : Launch) (D : va_G) (Y : Nat → Nat) (A : Nat → Prop) (sg : Sg) (al : Nat → Nat → Nat) (X : va_W) (hlt : l.stackTraces = false) (hw : lw sg 0) (v : Int32) (x : Int32) (h : ¬ (0 ≤ x ∧ x < nI (sN sg 2))) : CT l yX5_addProduct (Cond.code yX5_addProduct cX5_addProduct 4 (some .int)) 7 103 D Y A [.ref (al 0 0), .int x, .int v] (WX D Y A sg al X) (fun _ : Unit => none) (fun (_ : Unit) (_ : Heap) => False) (xE "java/lang/IndexOutOfBoundsException" (WX D Y A sg al X)) 1 6 := by
  refine CT.of (by decide) (Nat.le_of_ble_eq_true rfl) ?_
  intro p_ e_ s_ m_ below_ meth_ c_ C0 K0 hr hlk htab hnm_
  refine k_aload_n C0 dX5_addProduct_0 0 rfl ?_
  refine k_iload_n C0 dX5_addProduct_1 1 rfl ?_
  refine k_callV C0 K0 dX5_addProduct_2 (cx_makerAt l D Y A sg al X hlt hw x h) gkX5_75 hyX5_makerAt (c_recv (sg := sg) (al := al) K0 0 0 rfl rfl rfl) rfl (by exact Nat.le_of_ble_eq_true rfl) ⟨Nat.le_of_ble_eq_true rfl, Nat.le_of_ble_eq_true rfl⟩ ⟨Nat.le_of_ble_eq_true rfl, Nat.le_of_ble_eq_true rfl⟩ (fun E => kX_out htab hlk (Nat.le_of_ble_eq_true rfl) (Nat.le_of_ble_eq_true rfl) (fun H h => h)) (fun _ => kG_no)
set_option maxRecDepth 100000 in
set_option maxHeartbeats 4000000 in
theorem cx_addProduct_2 (l : Launch) (D : va_G) (Y : Nat → Nat) (A : Nat → Prop) (sg : Sg) (al : Nat → Nat → Nat) (X : va_W) (hlt : l.stackTraces = false) (hw : lw sg 0) (i : Nat) (hi : i < sN sg 2) (v : Int32) (h : ¬ (0 ≤ v ∧ v ≤ 100000)) : CT l yX5_addProduct (Cond.code yX5_addProduct cX5_addProduct 4 (some .int)) 7 104 D Y A [.ref (al 0 0), .int (nI i), .int v] (WX D Y A sg al X) (fun _ : Unit => none) (fun (_ : Unit) (_ : Heap) => False) (xE "java/lang/IllegalArgumentException" (WX D Y A sg al X)) 1 6 := by
  refine CT.of (by decide) (Nat.le_of_ble_eq_true rfl) ?_
  intro p_ e_ s_ m_ below_ meth_ c_ C0 K0 hr hlk htab hnm_
  refine k_aload_n C0 dX5_addProduct_0 0 rfl ?_
  refine k_iload_n C0 dX5_addProduct_1 1 rfl ?_
  refine k_callV C0 K0 dX5_addProduct_2 (cc_makerAt l D Y A sg al X hw i hi) gkX5_75 hyX5_makerAt (c_recv (sg := sg) (al := al) K0 0 0 rfl rfl rfl) rfl (by exact Nat.le_of_ble_eq_true rfl) ⟨Nat.le_of_ble_eq_true rfl, Nat.le_of_ble_eq_true rfl⟩ ⟨Nat.le_of_ble_eq_true rfl, Nat.le_of_ble_eq_true rfl⟩ (fun E => kX_no E) (fun _ => ?_)
  refine k_astore_n C0 [(3, _), (0, _), (1, _), (2, _)] dX5_addProduct_5 (by decide) rfl ?_
  refine k_iload_n C0 dX5_addProduct_6 3 rfl ?_
  refine k_iconst C0 0 dX5_addProduct_7 (by decide) ?_
  refine k_ldc C0 (v := 100000) dX5_addProduct_8 (tB 94 rfl rfl) ?_
  refine k_callS C0 K0 dX5_addProduct_10 (cx_requireRange l D Y A sg al X hlt v (0 : Int32) (100000 : Int32) h) gkX5_48 hyX5_requireRange rfl (by exact Nat.le_of_ble_eq_true rfl) ⟨Nat.le_of_ble_eq_true rfl, Nat.le_of_ble_eq_true rfl⟩ ⟨Nat.le_of_ble_eq_true rfl, Nat.le_of_ble_eq_true rfl⟩ (fun E => kX_out htab hlk (Nat.le_of_ble_eq_true rfl) (Nat.le_of_ble_eq_true rfl) (fun H h => h)) (fun _ => kG_no)
set_option maxRecDepth 100000 in
set_option maxHeartbeats 4000000 in
theorem cx_addProduct_3 (l : Launch) (D : va_G) (Y : Nat → Nat) (A : Nat → Prop) (sg : Sg) (al : Nat → Nat → Nat) (X : va_W) (hlt : l.stackTraces = false) (hw : lw sg 0) (i : Nat) (hi : i < sN sg 2) (v : Int32) (h1 : 0 ≤ v) (h2 : v ≤ 100000) (w1 : sZ sg 1 = sN sg 3) (hN : ¬ nI (sN sg 3) < 20) : CT l yX5_addProduct (Cond.code yX5_addProduct cX5_addProduct 4 (some .int)) 7 103 D Y A [.ref (al 0 0), .int (nI i), .int v] (WX D Y A sg al X) (fun _ : Unit => none) (fun (_ : Unit) (_ : Heap) => False) (xE "java/lang/IllegalStateException" (WX D Y A sg al X)) 1 6 := by
  refine CT.of (by decide) (Nat.le_of_ble_eq_true rfl) ?_
  intro p_ e_ s_ m_ below_ meth_ c_ C0 K0 hr hlk htab hnm_
  refine k_aload_n C0 dX5_addProduct_0 0 rfl ?_
  refine k_iload_n C0 dX5_addProduct_1 1 rfl ?_
  refine k_callV C0 K0 dX5_addProduct_2 (cc_makerAt l D Y A sg al X hw i hi) gkX5_75 hyX5_makerAt (c_recv (sg := sg) (al := al) K0 0 0 rfl rfl rfl) rfl (by exact Nat.le_of_ble_eq_true rfl) ⟨Nat.le_of_ble_eq_true rfl, Nat.le_of_ble_eq_true rfl⟩ ⟨Nat.le_of_ble_eq_true rfl, Nat.le_of_ble_eq_true rfl⟩ (fun E => kX_no E) (fun _ => ?_)
  refine k_astore_n C0 [(3, _), (0, _), (1, _), (2, _)] dX5_addProduct_5 (by decide) rfl ?_
  refine k_iload_n C0 dX5_addProduct_6 3 rfl ?_
  refine k_iconst C0 0 dX5_addProduct_7 (by decide) ?_
  refine k_ldc C0 (v := 100000) dX5_addProduct_8 (tB 94 rfl rfl) ?_
  refine k_callS C0 K0 dX5_addProduct_10 (cc_requireRange l D Y A (WX D Y A sg al X) v (0 : Int32) (100000 : Int32) h1 h2) gkX5_48 hyX5_requireRange rfl (by exact Nat.le_of_ble_eq_true rfl) ⟨Nat.le_of_ble_eq_true rfl, Nat.le_of_ble_eq_true rfl⟩ ⟨Nat.le_of_ble_eq_true rfl, Nat.le_of_ble_eq_true rfl⟩ (fun E => kX_no E) (fun _ => ?_)
  refine k_aload_n C0 dX5_addProduct_13 1 rfl ?_
  refine c_get C0 K0 0 0 rfl rfl inX5 rfl 2 (.ref (al 9 1)) (by decide) dX5_addProduct_14 (tA 83 rfl rfl) (fun _ h => h) rfl ?_
  refine k_callV C0 K0 dX5_addProduct_17 (cl_size l D Y A sg al X 1 (by decide)) gkX5_60 hyJx4a65c_size_8abf5 (c_recv (sg := sg) (al := al) K0 9 1 (show (1 : Nat) < 4 by decide) rfl rfl) rfl (by exact Nat.le_of_ble_eq_true rfl) ⟨Nat.le_of_ble_eq_true rfl, Nat.le_of_ble_eq_true rfl⟩ ⟨Nat.le_of_ble_eq_true rfl, Nat.le_of_ble_eq_true rfl⟩ (fun E => kX_no E) (fun _ => ?_)
  refine k_bipush C0 20 dX5_addProduct_20 (by decide) ?_
  refine k_callS C0 K0 dX5_addProduct_22 (cx_requireRoom l D Y A sg al X hlt (nI (sZ sg 1)) (20 : Int32) (fun z => hN (by have e := w1; exact (congrArg (fun t => nI t < 20) e).mp z))) gkX5_64 hyX5_requireRoom rfl (by exact Nat.le_of_ble_eq_true rfl) ⟨Nat.le_of_ble_eq_true rfl, Nat.le_of_ble_eq_true rfl⟩ ⟨Nat.le_of_ble_eq_true rfl, Nat.le_of_ble_eq_true rfl⟩ (fun E => kX_out htab hlk (Nat.le_of_ble_eq_true rfl) (Nat.le_of_ble_eq_true rfl) (fun H h => h)) (fun _ => kG_no)
set_option maxRecDepth 100000 in
set_option maxHeartbeats 4000000 in
theorem cx_subscribe_1 (l : Launch) (D : va_G) (Y : Nat → Nat) (A : Nat → Prop) (sg : Sg) (al : Nat → Nat → Nat) (X : va_W) (hlt : l.stackTraces = false) (hw : lw sg 1) (y dv b : Int32) (x : Int32) (h : ¬ (0 ≤ x ∧ x < nI (sN sg 3))) : CT l yX5_subscribe (Cond.code yX5_subscribe cX5_subscribe 7 (some .int)) 7 103 D Y A [.ref (al 0 0), .int x, .int y, .int dv, .int b] (WX D Y A sg al X) (fun _ : Unit => none) (fun (_ : Unit) (_ : Heap) => False) (xE "java/lang/IndexOutOfBoundsException" (WX D Y A sg al X)) 1 6 := by
  refine CT.of (by decide) (Nat.le_of_ble_eq_true rfl) ?_
  intro p_ e_ s_ m_ below_ meth_ c_ C0 K0 hr hlk htab hnm_
  refine k_aload_n C0 dX5_subscribe_0 0 rfl ?_
  refine k_iload_n C0 dX5_subscribe_1 1 rfl ?_
  refine k_callV C0 K0 dX5_subscribe_2 (cx_productAt l D Y A sg al X hlt hw x h) gkX5_85 hyX5_productAt (c_recv (sg := sg) (al := al) K0 0 0 rfl rfl rfl) rfl (by exact Nat.le_of_ble_eq_true rfl) ⟨Nat.le_of_ble_eq_true rfl, Nat.le_of_ble_eq_true rfl⟩ ⟨Nat.le_of_ble_eq_true rfl, Nat.le_of_ble_eq_true rfl⟩ (fun E => kX_out htab hlk (Nat.le_of_ble_eq_true rfl) (Nat.le_of_ble_eq_true rfl) (fun H h => h)) (fun _ => kG_no)
set_option maxRecDepth 100000 in
set_option maxHeartbeats 4000000 in
theorem cx_subscribe_2 (l : Launch) (D : va_G) (Y : Nat → Nat) (A : Nat → Prop) (sg : Sg) (al : Nat → Nat → Nat) (X : va_W) (hlt : l.stackTraces = false) (hw : lw sg 1) (i : Nat) (hi : i < sN sg 3) (dv b : Int32) (x : Int32) (h : ¬ (0 ≤ x ∧ x ≤ 4)) : CT l yX5_subscribe (Cond.code yX5_subscribe cX5_subscribe 7 (some .int)) 7 103 D Y A [.ref (al 0 0), .int (nI i), .int x, .int dv, .int b] (WX D Y A sg al X) (fun _ : Unit => none) (fun (_ : Unit) (_ : Heap) => False) (xE "java/lang/IllegalArgumentException" (WX D Y A sg al X)) 1 6 := by
  refine CT.of (by decide) (Nat.le_of_ble_eq_true rfl) ?_
  intro p_ e_ s_ m_ below_ meth_ c_ C0 K0 hr hlk htab hnm_
  refine k_aload_n C0 dX5_subscribe_0 0 rfl ?_
  refine k_iload_n C0 dX5_subscribe_1 1 rfl ?_
  refine k_callV C0 K0 dX5_subscribe_2 (cc_productAt l D Y A sg al X hw i hi) gkX5_85 hyX5_productAt (c_recv (sg := sg) (al := al) K0 0 0 rfl rfl rfl) rfl (by exact Nat.le_of_ble_eq_true rfl) ⟨Nat.le_of_ble_eq_true rfl, Nat.le_of_ble_eq_true rfl⟩ ⟨Nat.le_of_ble_eq_true rfl, Nat.le_of_ble_eq_true rfl⟩ (fun E => kX_no E) (fun _ => ?_)
  refine k_astore C0 [(5, _), (0, _), (1, _), (2, _), (3, _), (4, _)] dX5_subscribe_5 (by decide) rfl ?_
  refine k_aload_n C0 dX5_subscribe_7 1 rfl ?_
  refine k_iload_n C0 dX5_subscribe_8 3 rfl ?_
  refine k_callV C0 K0 dX5_subscribe_9 (cx_landAt l D Y A sg al X hlt x h) gkX5_44 hyX5_landAt (c_recv (sg := sg) (al := al) K0 0 0 rfl rfl rfl) rfl (by exact Nat.le_of_ble_eq_true rfl) ⟨Nat.le_of_ble_eq_true rfl, Nat.le_of_ble_eq_true rfl⟩ ⟨Nat.le_of_ble_eq_true rfl, Nat.le_of_ble_eq_true rfl⟩ (fun E => kX_out htab hlk (Nat.le_of_ble_eq_true rfl) (Nat.le_of_ble_eq_true rfl) (fun H h => h)) (fun _ => kG_no)
set_option maxRecDepth 100000 in
set_option maxHeartbeats 4000000 in
theorem cx_subscribe_3 (l : Launch) (D : va_G) (Y : Nat → Nat) (A : Nat → Prop) (sg : Sg) (al : Nat → Nat → Nat) (X : va_W) (hlt : l.stackTraces = false) (hw : lw sg 1) (i : Nat) (hi : i < sN sg 3) (dv b : Int32) (j : Nat) (hj : j < 5) (h : ¬ (1 ≤ dv ∧ dv ≤ 60)) : CT l yX5_subscribe (Cond.code yX5_subscribe cX5_subscribe 7 (some .int)) 7 104 D Y A [.ref (al 0 0), .int (nI i), .int (nI j), .int dv, .int b] (WX D Y A sg al X) (fun _ : Unit => none) (fun (_ : Unit) (_ : Heap) => False) (xE "java/lang/IllegalArgumentException" (WX D Y A sg al X)) 1 6 := by
  refine CT.of (by decide) (Nat.le_of_ble_eq_true rfl) ?_
  intro p_ e_ s_ m_ below_ meth_ c_ C0 K0 hr hlk htab hnm_
  refine k_aload_n C0 dX5_subscribe_0 0 rfl ?_
  refine k_iload_n C0 dX5_subscribe_1 1 rfl ?_
  refine k_callV C0 K0 dX5_subscribe_2 (cc_productAt l D Y A sg al X hw i hi) gkX5_85 hyX5_productAt (c_recv (sg := sg) (al := al) K0 0 0 rfl rfl rfl) rfl (by exact Nat.le_of_ble_eq_true rfl) ⟨Nat.le_of_ble_eq_true rfl, Nat.le_of_ble_eq_true rfl⟩ ⟨Nat.le_of_ble_eq_true rfl, Nat.le_of_ble_eq_true rfl⟩ (fun E => kX_no E) (fun _ => ?_)
  refine k_astore C0 [(5, _), (0, _), (1, _), (2, _), (3, _), (4, _)] dX5_subscribe_5 (by decide) rfl ?_
  refine k_aload_n C0 dX5_subscribe_7 1 rfl ?_
  refine k_iload_n C0 dX5_subscribe_8 3 rfl ?_
  refine k_callV C0 K0 dX5_subscribe_9 (cc_landAt l D Y A sg al X j hj) gkX5_44 hyX5_landAt (c_recv (sg := sg) (al := al) K0 0 0 rfl rfl rfl) rfl (by exact Nat.le_of_ble_eq_true rfl) ⟨Nat.le_of_ble_eq_true rfl, Nat.le_of_ble_eq_true rfl⟩ ⟨Nat.le_of_ble_eq_true rfl, Nat.le_of_ble_eq_true rfl⟩ (fun E => kX_no E) (fun _ => ?_)
  refine k_astore C0 [(6, _), (5, _), (0, _), (1, _), (2, _), (3, _), (4, _)] dX5_subscribe_12 (by decide) rfl ?_
  refine k_iload_n C0 dX5_subscribe_14 5 rfl ?_
  refine k_iconst C0 1 dX5_subscribe_15 (by decide) ?_
  refine k_bipush C0 60 dX5_subscribe_16 (by decide) ?_
  refine k_callS C0 K0 dX5_subscribe_18 (cx_requireRange l D Y A sg al X hlt dv (1 : Int32) (60 : Int32) h) gkX5_48 hyX5_requireRange rfl (by exact Nat.le_of_ble_eq_true rfl) ⟨Nat.le_of_ble_eq_true rfl, Nat.le_of_ble_eq_true rfl⟩ ⟨Nat.le_of_ble_eq_true rfl, Nat.le_of_ble_eq_true rfl⟩ (fun E => kX_out htab hlk (Nat.le_of_ble_eq_true rfl) (Nat.le_of_ble_eq_true rfl) (fun H h => h)) (fun _ => kG_no)
set_option maxRecDepth 100000 in
set_option maxHeartbeats 4000000 in
theorem cx_subscribe_4 (l : Launch) (D : va_G) (Y : Nat → Nat) (A : Nat → Prop) (sg : Sg) (al : Nat → Nat → Nat) (X : va_W) (hlt : l.stackTraces = false) (hw : lw sg 1) (i : Nat) (hi : i < sN sg 3) (dv b : Int32) (j : Nat) (hj : j < 5) (h1 : 1 ≤ dv) (h2 : dv ≤ 60) (w1 : sZ sg 3 = sN sg 5) (hN : ¬ nI (sN sg 5) < 40) : CT l yX5_subscribe (Cond.code yX5_subscribe cX5_subscribe 7 (some .int)) 7 103 D Y A [.ref (al 0 0), .int (nI i), .int (nI j), .int dv, .int b] (WX D Y A sg al X) (fun _ : Unit => none) (fun (_ : Unit) (_ : Heap) => False) (xE "java/lang/IllegalStateException" (WX D Y A sg al X)) 1 6 := by
  refine CT.of (by decide) (Nat.le_of_ble_eq_true rfl) ?_
  intro p_ e_ s_ m_ below_ meth_ c_ C0 K0 hr hlk htab hnm_
  refine k_aload_n C0 dX5_subscribe_0 0 rfl ?_
  refine k_iload_n C0 dX5_subscribe_1 1 rfl ?_
  refine k_callV C0 K0 dX5_subscribe_2 (cc_productAt l D Y A sg al X hw i hi) gkX5_85 hyX5_productAt (c_recv (sg := sg) (al := al) K0 0 0 rfl rfl rfl) rfl (by exact Nat.le_of_ble_eq_true rfl) ⟨Nat.le_of_ble_eq_true rfl, Nat.le_of_ble_eq_true rfl⟩ ⟨Nat.le_of_ble_eq_true rfl, Nat.le_of_ble_eq_true rfl⟩ (fun E => kX_no E) (fun _ => ?_)
  refine k_astore C0 [(5, _), (0, _), (1, _), (2, _), (3, _), (4, _)] dX5_subscribe_5 (by decide) rfl ?_
  refine k_aload_n C0 dX5_subscribe_7 1 rfl ?_
  refine k_iload_n C0 dX5_subscribe_8 3 rfl ?_
  refine k_callV C0 K0 dX5_subscribe_9 (cc_landAt l D Y A sg al X j hj) gkX5_44 hyX5_landAt (c_recv (sg := sg) (al := al) K0 0 0 rfl rfl rfl) rfl (by exact Nat.le_of_ble_eq_true rfl) ⟨Nat.le_of_ble_eq_true rfl, Nat.le_of_ble_eq_true rfl⟩ ⟨Nat.le_of_ble_eq_true rfl, Nat.le_of_ble_eq_true rfl⟩ (fun E => kX_no E) (fun _ => ?_)
  refine k_astore C0 [(6, _), (5, _), (0, _), (1, _), (2, _), (3, _), (4, _)] dX5_subscribe_12 (by decide) rfl ?_
  refine k_iload_n C0 dX5_subscribe_14 5 rfl ?_
  refine k_iconst C0 1 dX5_subscribe_15 (by decide) ?_
  refine k_bipush C0 60 dX5_subscribe_16 (by decide) ?_
  refine k_callS C0 K0 dX5_subscribe_18 (cc_requireRange l D Y A (WX D Y A sg al X) dv (1 : Int32) (60 : Int32) h1 h2) gkX5_48 hyX5_requireRange rfl (by exact Nat.le_of_ble_eq_true rfl) ⟨Nat.le_of_ble_eq_true rfl, Nat.le_of_ble_eq_true rfl⟩ ⟨Nat.le_of_ble_eq_true rfl, Nat.le_of_ble_eq_true rfl⟩ (fun E => kX_no E) (fun _ => ?_)
  refine k_aload_n C0 dX5_subscribe_21 2 rfl ?_
  refine c_get C0 K0 0 0 rfl rfl inX5 rfl 4 (.ref (al 9 3)) (by decide) dX5_subscribe_22 (tA 85 rfl rfl) (fun _ h => h) rfl ?_
  refine k_callV C0 K0 dX5_subscribe_25 (cl_size l D Y A sg al X 3 (by decide)) gkX5_60 hyJx4a65c_size_8abf5 (c_recv (sg := sg) (al := al) K0 9 3 (show (3 : Nat) < 4 by decide) rfl rfl) rfl (by exact Nat.le_of_ble_eq_true rfl) ⟨Nat.le_of_ble_eq_true rfl, Nat.le_of_ble_eq_true rfl⟩ ⟨Nat.le_of_ble_eq_true rfl, Nat.le_of_ble_eq_true rfl⟩ (fun E => kX_no E) (fun _ => ?_)
  refine k_bipush C0 40 dX5_subscribe_28 (by decide) ?_
  refine k_callS C0 K0 dX5_subscribe_30 (cx_requireRoom l D Y A sg al X hlt (nI (sZ sg 3)) (40 : Int32) (fun z => hN (by have e := w1; exact (congrArg (fun t => nI t < 40) e).mp z))) gkX5_64 hyX5_requireRoom rfl (by exact Nat.le_of_ble_eq_true rfl) ⟨Nat.le_of_ble_eq_true rfl, Nat.le_of_ble_eq_true rfl⟩ ⟨Nat.le_of_ble_eq_true rfl, Nat.le_of_ble_eq_true rfl⟩ (fun E => kX_out htab hlk (Nat.le_of_ble_eq_true rfl) (Nat.le_of_ble_eq_true rfl) (fun H h => h)) (fun _ => kG_no)
