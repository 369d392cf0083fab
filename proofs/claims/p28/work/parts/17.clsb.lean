theorem ft01 {h : Int32} (hb : h = 0 ∨ h = 1) : fits .boolean (.int h) = true := by rcases hb with rfl | rfl <;> rfl
def c_tax (sg : Sg) (j : Nat) (v : Int32) : Int32 := v * sg.1 1 j 1 / (100 + sg.1 1 j 1)
def g_sale (sg : Sg) (j : Nat) (mo v pct : Int32) : Nat → Int32 := gSale mo v (c_tax sg j v) ((v - c_tax sg j v) * pct / 100) (v - c_tax sg j v - (v - c_tax sg j v) * pct / 100 + (if sg.1 1 j 2 = 0 then c_tax sg j v else 0)) (sg.1 1 j 2)
theorem gkX5_60 : GoodIn TT (wsV RX5 60 yJx4a65c_size_8abf5.cls yJx4a65c_size_8abf5 (Cond.code yJx4a65c_size_8abf5 cJx4a65c_size_8abf5 1 (some .int) :: TT)) := goodTV (tA 191 rfl rfl) (tA 192 rfl rfl) (tA 193 rfl rfl) (tA 4 rfl rfl) (tA 194 rfl rfl)
theorem hyJx4a65c_size_8abf5 : yJx4a65c_size_8abf5.cls ≠ "java/lang/invoke/MethodHandle" ∧ yJx4a65c_size_8abf5.cls ≠ "java/lang/invoke/VarHandle" ∧ (parseMethodDescriptor yJx4a65c_size_8abf5.desc).map (fun d => d.parameters.length) = some 0 := by decide +kernel
theorem gkX5_209 : GoodIn TT (wsV RX5 209 yJx4a65c_get_915e3.cls yJx4a65c_get_915e3 (Cond.code yJx4a65c_get_915e3 cJx4a65c_get_915e3 2 (some (.object "java/lang/Object")) :: TT)) := goodTV (tB 80 rfl rfl) (tB 81 rfl rfl) (tB 82 rfl rfl) (tA 4 rfl rfl) (tB 83 rfl rfl)
theorem hyJx4a65c_get_915e3 : yJx4a65c_get_915e3.cls ≠ "java/lang/invoke/MethodHandle" ∧ yJx4a65c_get_915e3.cls ≠ "java/lang/invoke/VarHandle" ∧ (parseMethodDescriptor yJx4a65c_get_915e3.desc).map (fun d => d.parameters.length) = some 1 := by decide +kernel
theorem gkX3_28 : GoodIn TT (wsV RX3 28 yX0_taxIn.cls yX0_taxIn (Cond.code yX0_taxIn cX0_taxIn 3 (some .int) :: TT)) := goodTV (tB 148 rfl rfl) (tB 149 rfl rfl) (tB 150 rfl rfl) (tA 5 rfl rfl) (tB 151 rfl rfl)
theorem hyX0_taxIn : yX0_taxIn.cls ≠ "java/lang/invoke/MethodHandle" ∧ yX0_taxIn.cls ≠ "java/lang/invoke/VarHandle" ∧ (parseMethodDescriptor yX0_taxIn.desc).map (fun d => d.parameters.length) = some 1 := by decide +kernel
set_option maxRecDepth 100000 in
set_option maxHeartbeats 4000000 in
theorem cc_makerAt (l : Launch) (D : va_G) (Y : Nat → Nat) (A : Nat → Prop) (sg : Sg) (al : Nat → Nat → Nat) (X : va_W) (hw : lw sg 0) (j : Nat) (hj : j < sN sg 2) : CT l yX5_makerAt (Cond.code yX5_makerAt cX5_makerAt 2 (some (.object "ShopPaymaster$Maker"))) 3 64 D Y A [.ref (al 0 0), .int (nI j)] (WX D Y A sg al X) (fun _ : Unit => some (.ref (al 2 j))) (fun _ : Unit => WX D Y A sg al X) noX 0 0 := by
  refine CT.of (by decide) (Nat.le_of_ble_eq_true rfl) ?_
  intro p_ e_ s_ m_ below_ meth_ c_ C0 K0 hr hlk htab hnm_
  obtain ⟨w1, w2, w3, w4, w5⟩ := hw; have w1 : sZ sg 0 = sN sg 2 := w1; have w2 : sF sg 0 = sN sg 2 := w2; have w3 : sN sg 2 ≤ sC sg 0 := w3
  refine k_iload_n C0 dX5_makerAt_0 1 rfl ?_
  refine k_if_lt C0 15 dX5_makerAt_1 (by decide) (fun zz => absurd zz (nI_pos (by omega))) (fun _ => ?_)
  refine k_iload_n C0 dX5_makerAt_4 1 rfl ?_
  refine k_aload_n C0 dX5_makerAt_5 0 rfl ?_
  refine c_get C0 K0 0 0 rfl rfl inX5 rfl 1 (.ref (al 9 0)) (by decide) dX5_makerAt_6 (tA 82 rfl rfl) (fun _ h => h) rfl ?_
  refine k_callV C0 K0 dX5_makerAt_9 (cl_size l D Y A sg al X 0 (by decide)) gkX5_60 hyJx4a65c_size_8abf5 (c_recv (sg := sg) (al := al) K0 9 0 (show (0 : Nat) < 4 by decide) rfl rfl) rfl (by exact Nat.le_of_ble_eq_true rfl) ⟨Nat.le_of_ble_eq_true rfl, Nat.le_of_ble_eq_true rfl⟩ ⟨Nat.le_of_ble_eq_true rfl, Nat.le_of_ble_eq_true rfl⟩ (fun E => kX_no E) (fun _ => ?_)
  refine k_icmp_lt C0 25 dX5_makerAt_12 (by decide) (fun _ => ?_) (fun zz => absurd ((nI_ltI (by omega) (Nat.lt_of_le_of_lt (Nat.le_trans (Nat.le_of_eq w1) w3) (Nat.lt_of_le_of_lt w5 (by decide)))).mpr (Nat.lt_of_lt_of_eq hj w1.symm)) zz)
  refine k_aload_n C0 dX5_makerAt_25 0 rfl ?_
  refine c_get C0 K0 0 0 rfl rfl inX5 rfl 1 (.ref (al 9 0)) (by decide) dX5_makerAt_26 (tA 82 rfl rfl) (fun _ h => h) rfl ?_
  refine k_iload_n C0 dX5_makerAt_29 1 rfl ?_
  refine k_callV C0 K0 dX5_makerAt_30 (cl_get l D Y A sg al X 0 (by decide) j (Nat.lt_of_lt_of_eq hj w1.symm) (Nat.lt_of_lt_of_eq hj w2.symm) (Nat.le_trans (Nat.le_of_eq w2) w3) (by omega) (Nat.lt_of_le_of_lt (Nat.le_trans (Nat.le_of_eq w1) w3) (Nat.lt_of_le_of_lt w5 (by decide)))) gkX5_209 hyJx4a65c_get_915e3 (c_recv (sg := sg) (al := al) K0 9 0 (show (0 : Nat) < 4 by decide) rfl rfl) rfl (by exact Nat.le_of_ble_eq_true rfl) ⟨Nat.le_of_ble_eq_true rfl, Nat.le_of_ble_eq_true rfl⟩ ⟨Nat.le_of_ble_eq_true rfl, Nat.le_of_ble_eq_true rfl⟩ (fun E => kX_no E) (fun _ => ?_)
  refine c_cast C0 K0 2 j hj rfl rfl (tA 214 rfl rfl) dX5_makerAt_33 ?_
  exact k_aret C0 dX5_makerAt_36 hr (Or.inl ⟨_, rfl⟩) hlk (Nat.le_of_ble_eq_true rfl) (Nat.le_of_ble_eq_true rfl) () rfl (fun H h => h)
set_option maxRecDepth 100000 in
set_option maxHeartbeats 4000000 in
theorem cx_makerAt (l : Launch) (D : va_G) (Y : Nat → Nat) (A : Nat → Prop) (sg : Sg) (al : Nat → Nat → Nat) (X : va_W) (hlt : l.stackTraces = false) (hw : lw sg 0) (x : Int32) (h : ¬ (0 ≤ x ∧ x < nI (sN sg 2))) : CT l yX5_makerAt (Cond.code yX5_makerAt cX5_makerAt 2 (some (.object "ShopPaymaster$Maker"))) 6 82 D Y A [.ref (al 0 0), .int x] (WX D Y A sg al X) (fun _ : Unit => none) (fun (_ : Unit) (_ : Heap) => False) (xE "java/lang/IndexOutOfBoundsException" (WX D Y A sg al X)) 1 6 := by
  refine CT.of (by decide) (Nat.le_of_ble_eq_true rfl) ?_
  intro p_ e_ s_ m_ below_ meth_ c_ C0 K0 hr hlk htab hnm_
  obtain ⟨w1, w2, w3, w4, w5⟩ := hw; have w1 : sZ sg 0 = sN sg 2 := w1; have w2 : sF sg 0 = sN sg 2 := w2; have w3 : sN sg 2 ≤ sC sg 0 := w3
  refine k_iload_n C0 dX5_makerAt_0 1 rfl ?_
  refine k_if_lt C0 15 dX5_makerAt_1 (by decide) (fun h1 => ?_) (fun h1 => ?_)
  ·
    exact k_throwS C0 K0 hlt htab hlk rfl (text := "no such maker") (by decide) (by decide +kernel) (tB 64 rfl rfl) (tA 10 rfl rfl) in_x2 in_y2 in_z2 (by decide) dX5_makerAt_15 dX5_makerAt_18 dX5_makerAt_19 dX5_makerAt_21 dX5_makerAt_24 (Nat.le_of_ble_eq_true rfl) (Nat.le_of_ble_eq_true rfl) (Nat.le_of_ble_eq_true rfl) (Nat.le_of_ble_eq_true rfl) (Nat.le_of_ble_eq_true rfl) (Nat.le_of_ble_eq_true rfl) rfl (fun H H2 hV _ oq => ⟨rfl, hV.keep oq⟩)
  ·
    refine k_iload_n C0 dX5_makerAt_4 1 rfl ?_
    refine k_aload_n C0 dX5_makerAt_5 0 rfl ?_
    refine c_get C0 K0 0 0 rfl rfl inX5 rfl 1 (.ref (al 9 0)) (by decide) dX5_makerAt_6 (tA 82 rfl rfl) (fun _ h => h) rfl ?_
    refine k_callV C0 K0 dX5_makerAt_9 (cl_size l D Y A sg al X 0 (by decide)) gkX5_60 hyJx4a65c_size_8abf5 (c_recv (sg := sg) (al := al) K0 9 0 (show (0 : Nat) < 4 by decide) rfl rfl) rfl (by exact Nat.le_of_ble_eq_true rfl) ⟨Nat.le_of_ble_eq_true rfl, Nat.le_of_ble_eq_true rfl⟩ ⟨Nat.le_of_ble_eq_true rfl, Nat.le_of_ble_eq_true rfl⟩ (fun E => kX_no E) (fun _ => ?_)
    refine k_icmp_lt C0 25 dX5_makerAt_12 (by decide) (fun zz => absurd zz (fun z => h ⟨Int32.not_lt.mp h1, (congrArg (fun t => x < nI t) w1).mp z⟩)) (fun _ => ?_)
    exact k_throwS C0 K0 hlt htab hlk rfl (text := "no such maker") (by decide) (by decide +kernel) (tB 64 rfl rfl) (tA 10 rfl rfl) in_x2 in_y2 in_z2 (by decide) dX5_makerAt_15 dX5_makerAt_18 dX5_makerAt_19 dX5_makerAt_21 dX5_makerAt_24 (Nat.le_of_ble_eq_true rfl) (Nat.le_of_ble_eq_true rfl) (Nat.le_of_ble_eq_true rfl) (Nat.le_of_ble_eq_true rfl) (Nat.le_of_ble_eq_true rfl) (Nat.le_of_ble_eq_true rfl) rfl (fun H H2 hV _ oq => ⟨rfl, hV.keep oq⟩)
set_option maxRecDepth 100000 in
set_option maxHeartbeats 4000000 in
theorem cc_productAt (l : Launch) (D : va_G) (Y : Nat → Nat) (A : Nat → Prop) (sg : Sg) (al : Nat → Nat → Nat) (X : va_W) (hw : lw sg 1) (j : Nat) (hj : j < sN sg 3) : CT l yX5_productAt (Cond.code yX5_productAt cX5_productAt 2 (some (.object "ShopPaymaster$Product"))) 3 64 D Y A [.ref (al 0 0), .int (nI j)] (WX D Y A sg al X) (fun _ : Unit => some (.ref (al 3 j))) (fun _ : Unit => WX D Y A sg al X) noX 0 0 := by
  refine CT.of (by decide) (Nat.le_of_ble_eq_true rfl) ?_
  intro p_ e_ s_ m_ below_ meth_ c_ C0 K0 hr hlk htab hnm_
  obtain ⟨w1, w2, w3, w4, w5⟩ := hw; have w1 : sZ sg 1 = sN sg 3 := w1; have w2 : sF sg 1 = sN sg 3 := w2; have w3 : sN sg 3 ≤ sC sg 1 := w3
  refine k_iload_n C0 dX5_productAt_0 1 rfl ?_
  refine k_if_lt C0 15 dX5_productAt_1 (by decide) (fun zz => absurd zz (nI_pos (by omega))) (fun _ => ?_)
  refine k_iload_n C0 dX5_productAt_4 1 rfl ?_
  refine k_aload_n C0 dX5_productAt_5 0 rfl ?_
  refine c_get C0 K0 0 0 rfl rfl inX5 rfl 2 (.ref (al 9 1)) (by decide) dX5_productAt_6 (tA 83 rfl rfl) (fun _ h => h) rfl ?_
  refine k_callV C0 K0 dX5_productAt_9 (cl_size l D Y A sg al X 1 (by decide)) gkX5_60 hyJx4a65c_size_8abf5 (c_recv (sg := sg) (al := al) K0 9 1 (show (1 : Nat) < 4 by decide) rfl rfl) rfl (by exact Nat.le_of_ble_eq_true rfl) ⟨Nat.le_of_ble_eq_true rfl, Nat.le_of_ble_eq_true rfl⟩ ⟨Nat.le_of_ble_eq_true rfl, Nat.le_of_ble_eq_true rfl⟩ (fun E => kX_no E) (fun _ => ?_)
  refine k_icmp_lt C0 25 dX5_productAt_12 (by decide) (fun _ => ?_) (fun zz => absurd ((nI_ltI (by omega) (Nat.lt_of_le_of_lt (Nat.le_trans (Nat.le_of_eq w1) w3) (Nat.lt_of_le_of_lt w5 (by decide)))).mpr (Nat.lt_of_lt_of_eq hj w1.symm)) zz)
  refine k_aload_n C0 dX5_productAt_25 0 rfl ?_
  refine c_get C0 K0 0 0 rfl rfl inX5 rfl 2 (.ref (al 9 1)) (by decide) dX5_productAt_26 (tA 83 rfl rfl) (fun _ h => h) rfl ?_
  refine k_iload_n C0 dX5_productAt_29 1 rfl ?_
  refine k_callV C0 K0 dX5_productAt_30 (cl_get l D Y A sg al X 1 (by decide) j (Nat.lt_of_lt_of_eq hj w1.symm) (Nat.lt_of_lt_of_eq hj w2.symm) (Nat.le_trans (Nat.le_of_eq w2) w3) (by omega) (Nat.lt_of_le_of_lt (Nat.le_trans (Nat.le_of_eq w1) w3) (Nat.lt_of_le_of_lt w5 (by decide)))) gkX5_209 hyJx4a65c_get_915e3 (c_recv (sg := sg) (al := al) K0 9 1 (show (1 : Nat) < 4 by decide) rfl rfl) rfl (by exact Nat.le_of_ble_eq_true rfl) ⟨Nat.le_of_ble_eq_true rfl, Nat.le_of_ble_eq_true rfl⟩ ⟨Nat.le_of_ble_eq_true rfl, Nat.le_of_ble_eq_true rfl⟩ (fun E => kX_no E) (fun _ => ?_)
  refine c_cast C0 K0 3 j hj rfl rfl (tB 95 rfl rfl) dX5_productAt_33 ?_
  exact k_aret C0 dX5_productAt_36 hr (Or.inl ⟨_, rfl⟩) hlk (Nat.le_of_ble_eq_true rfl) (Nat.le_of_ble_eq_true rfl) () rfl (fun H h => h)
set_option maxRecDepth 100000 in
set_option maxHeartbeats 4000000 in
theorem cx_productAt (l : Launch) (D : va_G) (Y : Nat → Nat) (A : Nat → Prop) (sg : Sg) (al : Nat → Nat → Nat) (X : va_W) (hlt : l.stackTraces = false) (hw : lw sg 1) (x : Int32) (h : ¬ (0 ≤ x ∧ x < nI (sN sg 3))) : CT l yX5_productAt (Cond.code yX5_productAt cX5_productAt 2 (some (.object "ShopPaymaster$Product"))) 6 82 D Y A [.ref (al 0 0), .int x] (WX D Y A sg al X) (fun _ : Unit => none) (fun (_ : Unit) (_ : Heap) => False) (xE "java/lang/IndexOutOfBoundsException" (WX D Y A sg al X)) 1 6 := by
  refine CT.of (by decide) (Nat.le_of_ble_eq_true rfl) ?_
  intro p_ e_ s_ m_ below_ meth_ c_ C0 K0 hr hlk htab hnm_
  obtain ⟨w1, w2, w3, w4, w5⟩ := hw; have w1 : sZ sg 1 = sN sg 3 := w1; have w2 : sF sg 1 = sN sg 3 := w2; have w3 : sN sg 3 ≤ sC sg 1 := w3
  refine k_iload_n C0 dX5_productAt_0 1 rfl ?_
  refine k_if_lt C0 15 dX5_productAt_1 (by decide) (fun h1 => ?_) (fun h1 => ?_)
  ·
    exact k_throwS C0 K0 hlt htab hlk rfl (text := "no such product") (by decide) (by decide +kernel) (tB 64 rfl rfl) (tA 10 rfl rfl) in_x2 in_y2 in_z2 (by decide) dX5_productAt_15 dX5_productAt_18 dX5_productAt_19 dX5_productAt_21 dX5_productAt_24 (Nat.le_of_ble_eq_true rfl) (Nat.le_of_ble_eq_true rfl) (Nat.le_of_ble_eq_true rfl) (Nat.le_of_ble_eq_true rfl) (Nat.le_of_ble_eq_true rfl) (Nat.le_of_ble_eq_true rfl) rfl (fun H H2 hV _ oq => ⟨rfl, hV.keep oq⟩)
  ·
    refine k_iload_n C0 dX5_productAt_4 1 rfl ?_
    refine k_aload_n C0 dX5_productAt_5 0 rfl ?_
    refine c_get C0 K0 0 0 rfl rfl inX5 rfl 2 (.ref (al 9 1)) (by decide) dX5_productAt_6 (tA 83 rfl rfl) (fun _ h => h) rfl ?_
    refine k_callV C0 K0 dX5_productAt_9 (cl_size l D Y A sg al X 1 (by decide)) gkX5_60 hyJx4a65c_size_8abf5 (c_recv (sg := sg) (al := al) K0 9 1 (show (1 : Nat) < 4 by decide) rfl rfl) rfl (by exact Nat.le_of_ble_eq_true rfl) ⟨Nat.le_of_ble_eq_true rfl, Nat.le_of_ble_eq_true rfl⟩ ⟨Nat.le_of_ble_eq_true rfl, Nat.le_of_ble_eq_true rfl⟩ (fun E => kX_no E) (fun _ => ?_)
    refine k_icmp_lt C0 25 dX5_productAt_12 (by decide) (fun zz => absurd zz (fun z => h ⟨Int32.not_lt.mp h1, (congrArg (fun t => x < nI t) w1).mp z⟩)) (fun _ => ?_)
    exact k_throwS C0 K0 hlt htab hlk rfl (text := "no such product") (by decide) (by decide +kernel) (tB 64 rfl rfl) (tA 10 rfl rfl) in_x2 in_y2 in_z2 (by decide) dX5_productAt_15 dX5_productAt_18 dX5_productAt_19 dX5_productAt_21 dX5_productAt_24 (Nat.le_of_ble_eq_true rfl) (Nat.le_of_ble_eq_true rfl) (Nat.le_of_ble_eq_true rfl) (Nat.le_of_ble_eq_true rfl) (Nat.le_of_ble_eq_true rfl) (Nat.le_of_ble_eq_true rfl) rfl (fun H H2 hV _ oq => ⟨rfl, hV.keep oq⟩)
set_option maxRecDepth 100000 in
set_option maxHeartbeats 4000000 in
theorem cc_saleAt (l : Launch) (D : va_G) (Y : Nat → Nat) (A : Nat → Prop) (sg : Sg) (al : Nat → Nat → Nat) (X : va_W) (hw : lw sg 2) (j : Nat) (hj : j < sN sg 4) : CT l yX5_saleAt (Cond.code yX5_saleAt cX5_saleAt 2 (some (.object "ShopPaymaster$Sale"))) 3 64 D Y A [.ref (al 0 0), .int (nI j)] (WX D Y A sg al X) (fun _ : Unit => some (.ref (al 4 j))) (fun _ : Unit => WX D Y A sg al X) noX 0 0 := by
  refine CT.of (by decide) (Nat.le_of_ble_eq_true rfl) ?_
  intro p_ e_ s_ m_ below_ meth_ c_ C0 K0 hr hlk htab hnm_
  obtain ⟨w1, w2, w3, w4, w5⟩ := hw; have w1 : sZ sg 2 = sN sg 4 := w1; have w2 : sF sg 2 = sN sg 4 := w2; have w3 : sN sg 4 ≤ sC sg 2 := w3
  refine k_iload_n C0 dX5_saleAt_0 1 rfl ?_
  refine k_if_lt C0 15 dX5_saleAt_1 (by decide) (fun zz => absurd zz (nI_pos (by omega))) (fun _ => ?_)
  refine k_iload_n C0 dX5_saleAt_4 1 rfl ?_
  refine k_aload_n C0 dX5_saleAt_5 0 rfl ?_
  refine c_get C0 K0 0 0 rfl rfl inX5 rfl 3 (.ref (al 9 2)) (by decide) dX5_saleAt_6 (tA 84 rfl rfl) (fun _ h => h) rfl ?_
  refine k_callV C0 K0 dX5_saleAt_9 (cl_size l D Y A sg al X 2 (by decide)) gkX5_60 hyJx4a65c_size_8abf5 (c_recv (sg := sg) (al := al) K0 9 2 (show (2 : Nat) < 4 by decide) rfl rfl) rfl (by exact Nat.le_of_ble_eq_true rfl) ⟨Nat.le_of_ble_eq_true rfl, Nat.le_of_ble_eq_true rfl⟩ ⟨Nat.le_of_ble_eq_true rfl, Nat.le_of_ble_eq_true rfl⟩ (fun E => kX_no E) (fun _ => ?_)
  refine k_icmp_lt C0 25 dX5_saleAt_12 (by decide) (fun _ => ?_) (fun zz => absurd ((nI_ltI (by omega) (Nat.lt_of_le_of_lt (Nat.le_trans (Nat.le_of_eq w1) w3) (Nat.lt_of_le_of_lt w5 (by decide)))).mpr (Nat.lt_of_lt_of_eq hj w1.symm)) zz)
  refine k_aload_n C0 dX5_saleAt_25 0 rfl ?_
  refine c_get C0 K0 0 0 rfl rfl inX5 rfl 3 (.ref (al 9 2)) (by decide) dX5_saleAt_26 (tA 84 rfl rfl) (fun _ h => h) rfl ?_
  refine k_iload_n C0 dX5_saleAt_29 1 rfl ?_
  refine k_callV C0 K0 dX5_saleAt_30 (cl_get l D Y A sg al X 2 (by decide) j (Nat.lt_of_lt_of_eq hj w1.symm) (Nat.lt_of_lt_of_eq hj w2.symm) (Nat.le_trans (Nat.le_of_eq w2) w3) (by omega) (Nat.lt_of_le_of_lt (Nat.le_trans (Nat.le_of_eq w1) w3) (Nat.lt_of_le_of_lt w5 (by decide)))) gkX5_209 hyJx4a65c_get_915e3 (c_recv (sg := sg) (al := al) K0 9 2 (show (2 : Nat) < 4 by decide) rfl rfl) rfl (by exact Nat.le_of_ble_eq_true rfl) ⟨Nat.le_of_ble_eq_true rfl, Nat.le_of_ble_eq_true rfl⟩ ⟨Nat.le_of_ble_eq_true rfl, Nat.le_of_ble_eq_true rfl⟩ (fun E => kX_no E) (fun _ => ?_)
  refine c_cast C0 K0 4 j hj rfl rfl (tB 138 rfl rfl) dX5_saleAt_33 ?_
  exact k_aret C0 dX5_saleAt_36 hr (Or.inl ⟨_, rfl⟩) hlk (Nat.le_of_ble_eq_true rfl) (Nat.le_of_ble_eq_true rfl) () rfl (fun H h => h)
set_option maxRecDepth 100000 in
set_option maxHeartbeats 4000000 in
theorem cx_saleAt (l : Launch) (D : va_G) (Y : Nat → Nat) (A : Nat → Prop) (sg : Sg) (al : Nat → Nat → Nat) (X : va_W) (hlt : l.stackTraces = false) (hw : lw sg 2) (x : Int32) (h : ¬ (0 ≤ x ∧ x < nI (sN sg 4))) : CT l yX5_saleAt (Cond.code yX5_saleAt cX5_saleAt 2 (some (.object "ShopPaymaster$Sale"))) 6 82 D Y A [.ref (al 0 0), .int x] (WX D Y A sg al X) (fun _ : Unit => none) (fun (_ : Unit) (_ : Heap) => False) (xE "java/lang/IndexOutOfBoundsException" (WX D Y A sg al X)) 1 6 := by
  refine CT.of (by decide) (Nat.le_of_ble_eq_true rfl) ?_
  intro p_ e_ s_ m_ below_ meth_ c_ C0 K0 hr hlk htab hnm_
  obtain ⟨w1, w2, w3, w4, w5⟩ := hw; have w1 : sZ sg 2 = sN sg 4 := w1; have w2 : sF sg 2 = sN sg 4 := w2; have w3 : sN sg 4 ≤ sC sg 2 := w3
  refine k_iload_n C0 dX5_saleAt_0 1 rfl ?_
  refine k_if_lt C0 15 dX5_saleAt_1 (by decide) (fun h1 => ?_) (fun h1 => ?_)
  ·
    exact k_throwS C0 K0 hlt htab hlk rfl (text := "no such sale") (by decide) (by decide +kernel) (tB 64 rfl rfl) (tA 10 rfl rfl) in_x2 in_y2 in_z2 (by decide) dX5_saleAt_15 dX5_saleAt_18 dX5_saleAt_19 dX5_saleAt_21 dX5_saleAt_24 (Nat.le_of_ble_eq_true rfl) (Nat.le_of_ble_eq_true rfl) (Nat.le_of_ble_eq_true rfl) (Nat.le_of_ble_eq_true rfl) (Nat.le_of_ble_eq_true rfl) (Nat.le_of_ble_eq_true rfl) rfl (fun H H2 hV _ oq => ⟨rfl, hV.keep oq⟩)
  ·
    refine k_iload_n C0 dX5_saleAt_4 1 rfl ?_
    refine k_aload_n C0 dX5_saleAt_5 0 rfl ?_
    refine c_get C0 K0 0 0 rfl rfl inX5 rfl 3 (.ref (al 9 2)) (by decide) dX5_saleAt_6 (tA 84 rfl rfl) (fun _ h => h) rfl ?_
    refine k_callV C0 K0 dX5_saleAt_9 (cl_size l D Y A sg al X 2 (by decide)) gkX5_60 hyJx4a65c_size_8abf5 (c_recv (sg := sg) (al := al) K0 9 2 (show (2 : Nat) < 4 by decide) rfl rfl) rfl (by exact Nat.le_of_ble_eq_true rfl) ⟨Nat.le_of_ble_eq_true rfl, Nat.le_of_ble_eq_true rfl⟩ ⟨Nat.le_of_ble_eq_true rfl, Nat.le_of_ble_eq_true rfl⟩ (fun E => kX_no E) (fun _ => ?_)
    refine k_icmp_lt C0 25 dX5_saleAt_12 (by decide) (fun zz => absurd zz (fun z => h ⟨Int32.not_lt.mp h1, (congrArg (fun t => x < nI t) w1).mp z⟩)) (fun _ => ?_)
    exact k_throwS C0 K0 hlt htab hlk rfl (text := "no such sale") (by decide) (by decide +kernel) (tB 64 rfl rfl) (tA 10 rfl rfl) in_x2 in_y2 in_z2 (by decide) dX5_saleAt_15 dX5_saleAt_18 dX5_saleAt_19 dX5_saleAt_21 dX5_saleAt_24 (Nat.le_of_ble_eq_true rfl) (Nat.le_of_ble_eq_true rfl) (Nat.le_of_ble_eq_true rfl) (Nat.le_of_ble_eq_true rfl) (Nat.le_of_ble_eq_true rfl) (Nat.le_of_ble_eq_true rfl) rfl (fun H H2 hV _ oq => ⟨rfl, hV.keep oq⟩)
set_option maxRecDepth 100000 in
set_option maxHeartbeats 4000000 in
theorem cc_subscriptionAt (l : Launch) (D : va_G) (Y : Nat → Nat) (A : Nat → Prop) (sg : Sg) (al : Nat → Nat → Nat) (X : va_W) (hw : lw sg 3) (j : Nat) (hj : j < sN sg 5) : CT l yX5_subscriptionAt (Cond.code yX5_subscriptionAt cX5_subscriptionAt 2 (some (.object "ShopPaymaster$Subscription"))) 3 64 D Y A [.ref (al 0 0), .int (nI j)] (WX D Y A sg al X) (fun _ : Unit => some (.ref (al 5 j))) (fun _ : Unit => WX D Y A sg al X) noX 0 0 := by
  refine CT.of (by decide) (Nat.le_of_ble_eq_true rfl) ?_
  intro p_ e_ s_ m_ below_ meth_ c_ C0 K0 hr hlk htab hnm_
  obtain ⟨w1, w2, w3, w4, w5⟩ := hw; have w1 : sZ sg 3 = sN sg 5 := w1; have w2 : sF sg 3 = sN sg 5 := w2; have w3 : sN sg 5 ≤ sC sg 3 := w3
  refine k_iload_n C0 dX5_subscriptionAt_0 1 rfl ?_
  refine k_if_lt C0 15 dX5_subscriptionAt_1 (by decide) (fun zz => absurd zz (nI_pos (by omega))) (fun _ => ?_)
  refine k_iload_n C0 dX5_subscriptionAt_4 1 rfl ?_
  refine k_aload_n C0 dX5_subscriptionAt_5 0 rfl ?_
  refine c_get C0 K0 0 0 rfl rfl inX5 rfl 4 (.ref (al 9 3)) (by decide) dX5_subscriptionAt_6 (tA 85 rfl rfl) (fun _ h => h) rfl ?_
  refine k_callV C0 K0 dX5_subscriptionAt_9 (cl_size l D Y A sg al X 3 (by decide)) gkX5_60 hyJx4a65c_size_8abf5 (c_recv (sg := sg) (al := al) K0 9 3 (show (3 : Nat) < 4 by decide) rfl rfl) rfl (by exact Nat.le_of_ble_eq_true rfl) ⟨Nat.le_of_ble_eq_true rfl, Nat.le_of_ble_eq_true rfl⟩ ⟨Nat.le_of_ble_eq_true rfl, Nat.le_of_ble_eq_true rfl⟩ (fun E => kX_no E) (fun _ => ?_)
  refine k_icmp_lt C0 25 dX5_subscriptionAt_12 (by decide) (fun _ => ?_) (fun zz => absurd ((nI_ltI (by omega) (Nat.lt_of_le_of_lt (Nat.le_trans (Nat.le_of_eq w1) w3) (Nat.lt_of_le_of_lt w5 (by decide)))).mpr (Nat.lt_of_lt_of_eq hj w1.symm)) zz)
  refine k_aload_n C0 dX5_subscriptionAt_25 0 rfl ?_
  refine c_get C0 K0 0 0 rfl rfl inX5 rfl 4 (.ref (al 9 3)) (by decide) dX5_subscriptionAt_26 (tA 85 rfl rfl) (fun _ h => h) rfl ?_
  refine k_iload_n C0 dX5_subscriptionAt_29 1 rfl ?_
  refine k_callV C0 K0 dX5_subscriptionAt_30 (cl_get l D Y A sg al X 3 (by decide) j (Nat.lt_of_lt_of_eq hj w1.symm) (Nat.lt_of_lt_of_eq hj w2.symm) (Nat.le_trans (Nat.le_of_eq w2) w3) (by omega) (Nat.lt_of_le_of_lt (Nat.le_trans (Nat.le_of_eq w1) w3) (Nat.lt_of_le_of_lt w5 (by decide)))) gkX5_209 hyJx4a65c_get_915e3 (c_recv (sg := sg) (al := al) K0 9 3 (show (3 : Nat) < 4 by decide) rfl rfl) rfl (by exact Nat.le_of_ble_eq_true rfl) ⟨Nat.le_of_ble_eq_true rfl, Nat.le_of_ble_eq_true rfl⟩ ⟨Nat.le_of_ble_eq_true rfl, Nat.le_of_ble_eq_true rfl⟩ (fun E => kX_no E) (fun _ => ?_)
  refine c_cast C0 K0 5 j hj rfl rfl (tB 210 rfl rfl) dX5_subscriptionAt_33 ?_
  exact k_aret C0 dX5_subscriptionAt_36 hr (Or.inl ⟨_, rfl⟩) hlk (Nat.le_of_ble_eq_true rfl) (Nat.le_of_ble_eq_true rfl) () rfl (fun H h => h)
set_option maxRecDepth 100000 in
set_option maxHeartbeats 4000000 in
theorem cx_subscriptionAt (l : Launch) (D : va_G) (Y : Nat → Nat) (A : Nat → Prop) (sg : Sg) (al : Nat → Nat → Nat) (X : va_W) (hlt : l.stackTraces = false) (hw : lw sg 3) (x : Int32) (h : ¬ (0 ≤ x ∧ x < nI (sN sg 5))) : CT l yX5_subscriptionAt (Cond.code yX5_subscriptionAt cX5_subscriptionAt 2 (some (.object "ShopPaymaster$Subscription"))) 6 82 D Y A [.ref (al 0 0), .int x] (WX D Y A sg al X) (fun _ : Unit => none) (fun (_ : Unit) (_ : Heap) => False) (xE "java/lang/IndexOutOfBoundsException" (WX D Y A sg al X)) 1 6 := by
  refine CT.of (by decide) (Nat.le_of_ble_eq_true rfl) ?_
  intro p_ e_ s_ m_ below_ meth_ c_ C0 K0 hr hlk htab hnm_
  obtain ⟨w1, w2, w3, w4, w5⟩ := hw; have w1 : sZ sg 3 = sN sg 5 := w1; have w2 : sF sg 3 = sN sg 5 := w2; have w3 : sN sg 5 ≤ sC sg 3 := w3
  refine k_iload_n C0 dX5_subscriptionAt_0 1 rfl ?_
  refine k_if_lt C0 15 dX5_subscriptionAt_1 (by decide) (fun h1 => ?_) (fun h1 => ?_)
  ·
    exact k_throwS C0 K0 hlt htab hlk rfl (text := "no such subscription") (by decide) (by decide +kernel) (tB 64 rfl rfl) (tA 10 rfl rfl) in_x2 in_y2 in_z2 (by decide) dX5_subscriptionAt_15 dX5_subscriptionAt_18 dX5_subscriptionAt_19 dX5_subscriptionAt_21 dX5_subscriptionAt_24 (Nat.le_of_ble_eq_true rfl) (Nat.le_of_ble_eq_true rfl) (Nat.le_of_ble_eq_true rfl) (Nat.le_of_ble_eq_true rfl) (Nat.le_of_ble_eq_true rfl) (Nat.le_of_ble_eq_true rfl) rfl (fun H H2 hV _ oq => ⟨rfl, hV.keep oq⟩)
  ·
    refine k_iload_n C0 dX5_subscriptionAt_4 1 rfl ?_
    refine k_aload_n C0 dX5_subscriptionAt_5 0 rfl ?_
    refine c_get C0 K0 0 0 rfl rfl inX5 rfl 4 (.ref (al 9 3)) (by decide) dX5_subscriptionAt_6 (tA 85 rfl rfl) (fun _ h => h) rfl ?_
    refine k_callV C0 K0 dX5_subscriptionAt_9 (cl_size l D Y A sg al X 3 (by decide)) gkX5_60 hyJx4a65c_size_8abf5 (c_recv (sg := sg) (al := al) K0 9 3 (show (3 : Nat) < 4 by decide) rfl rfl) rfl (by exact Nat.le_of_ble_eq_true rfl) ⟨Nat.le_of_ble_eq_true rfl, Nat.le_of_ble_eq_true rfl⟩ ⟨Nat.le_of_ble_eq_true rfl, Nat.le_of_ble_eq_true rfl⟩ (fun E => kX_no E) (fun _ => ?_)
    refine k_icmp_lt C0 25 dX5_subscriptionAt_12 (by decide) (fun zz => absurd zz (fun z => h ⟨Int32.not_lt.mp h1, (congrArg (fun t => x < nI t) w1).mp z⟩)) (fun _ => ?_)
    exact k_throwS C0 K0 hlt htab hlk rfl (text := "no such subscription") (by decide) (by decide +kernel) (tB 64 rfl rfl) (tA 10 rfl rfl) in_x2 in_y2 in_z2 (by decide) dX5_subscriptionAt_15 dX5_subscriptionAt_18 dX5_subscriptionAt_19 dX5_subscriptionAt_21 dX5_subscriptionAt_24 (Nat.le_of_ble_eq_true rfl) (Nat.le_of_ble_eq_true rfl) (Nat.le_of_ble_eq_true rfl) (Nat.le_of_ble_eq_true rfl) (Nat.le_of_ble_eq_true rfl) (Nat.le_of_ble_eq_true rfl) rfl (fun H H2 hV _ oq => ⟨rfl, hV.keep oq⟩)
set_option maxRecDepth 100000 in
set_option maxHeartbeats 4000000 in
theorem cc_book (l : Launch) (D : va_G) (Y : Nat → Nat) (A : Nat → Prop) (sg : Sg) (al : Nat → Nat → Nat) (X : va_W) (i : Nat) (hi : i < sN sg 4) (g : Int32) (hm : sg.2 4 i 0 < sN sg 2) (hl_ : sg.2 4 i 1 < 5) : CT l yX5_book (Cond.code yX5_book cX5_book 3 none) 0 0 D Y A [.ref (al 0 0), .ref (al 4 i), .int g] (WX D Y A sg al X) (fun _ : Unit => none) (fun _ : Unit => WX D Y A (c_book sg i g) al X) noX 0 0 := by
  refine CT.of (by decide) (Nat.le_of_ble_eq_true rfl) ?_
  intro p_ e_ s_ m_ below_ meth_ c_ C0 K0 hr hlk htab hnm_
  refine k_aload_n C0 dX5_book_0 0 rfl ?_
  refine k_dup C0 dX5_book_1 rfl ?_
  refine c_getI C0 K0 0 0 rfl rfl inX5 rfl 7 (sg.1 0 0 7) (by decide) dX5_book_2 (tA 88 rfl rfl) (fun _ h => h) rfl rfl ?_
  refine k_iload_n C0 dX5_book_5 2 rfl ?_
  refine k_aload_n C0 dX5_book_6 1 rfl ?_
  refine c_getI C0 K0 4 i hi rfl inX3 rfl 3 (sg.1 4 i 3) (by decide) dX5_book_7 (tB 159 rfl rfl) (fun _ h => h) rfl rfl ?_
  refine k_imul C0 dX5_book_10 ?_
  refine k_iadd C0 dX5_book_11 ?_
  refine c_putI C0 K0 0 0 rfl (ty := .int) rfl inX5 rfl tyX5 tyX5_ok nmX5 7 (by decide) dX5_book_12 (tA 88 rfl rfl) (fun _ h => h) rfl (by decide +kernel) rfl rfl (Nat.le_of_ble_eq_true rfl) rfl ?_
  refine k_aload_n C0 dX5_book_15 0 rfl ?_
  refine k_dup C0 dX5_book_16 rfl ?_
  refine c_getI (sg := sI sg 0 0 7 ((sg.1 0 0 7) + (g * (sg.1 4 i 3)))) C0 K0 0 0 rfl rfl inX5 rfl 6 (sg.1 0 0 6) (by decide) dX5_book_17 (tA 87 rfl rfl) (fun _ h => h) rfl rfl ?_
  refine k_iload_n C0 dX5_book_20 2 rfl ?_
  refine k_aload_n C0 dX5_book_21 1 rfl ?_
  refine c_getI (sg := sI sg 0 0 7 ((sg.1 0 0 7) + (g * (sg.1 4 i 3)))) C0 K0 4 i hi rfl inX3 rfl 5 (sg.1 4 i 5) (by decide) dX5_book_22 (tB 163 rfl rfl) (fun _ h => h) rfl rfl ?_
  refine k_imul C0 dX5_book_25 ?_
  refine k_iadd C0 dX5_book_26 ?_
  refine c_putI (sg := sI sg 0 0 7 ((sg.1 0 0 7) + (g * (sg.1 4 i 3)))) C0 K0 0 0 rfl (ty := .int) rfl inX5 rfl tyX5 tyX5_ok nmX5 6 (by decide) dX5_book_27 (tA 87 rfl rfl) (fun _ h => h) rfl (by decide +kernel) rfl rfl (Nat.le_of_ble_eq_true rfl) rfl ?_
  refine k_aload_n C0 dX5_book_30 1 rfl ?_
  refine c_get (sg := sI (sI sg 0 0 7 ((sg.1 0 0 7) + (g * (sg.1 4 i 3)))) 0 0 6 ((sg.1 0 0 6) + (g * (sg.1 4 i 5)))) C0 K0 4 i hi rfl inX3 rfl 0 (.ref (al 2 (sg.2 4 i 0))) (by decide) dX5_book_31 (tB 153 rfl rfl) (fun _ h => h) rfl ?_
  refine k_dup C0 dX5_book_34 rfl ?_
  refine c_getI (sg := sI (sI sg 0 0 7 ((sg.1 0 0 7) + (g * (sg.1 4 i 3)))) 0 0 6 ((sg.1 0 0 6) + (g * (sg.1 4 i 5)))) C0 K0 2 (sg.2 4 i 0) hm rfl inX1 rfl 3 (sg.1 2 (sg.2 4 i 0) 3) (by decide) dX5_book_35 (tA 224 rfl rfl) (fun _ h => h) rfl rfl ?_
  refine k_iload_n C0 dX5_book_38 2 rfl ?_
  refine k_aload_n C0 dX5_book_39 1 rfl ?_
  refine c_getI (sg := sI (sI sg 0 0 7 ((sg.1 0 0 7) + (g * (sg.1 4 i 3)))) 0 0 6 ((sg.1 0 0 6) + (g * (sg.1 4 i 5)))) C0 K0 4 i hi rfl inX3 rfl 6 (sg.1 4 i 6) (by decide) dX5_book_40 (tB 165 rfl rfl) (fun _ h => h) rfl rfl ?_
  refine k_imul C0 dX5_book_43 ?_
  refine k_iadd C0 dX5_book_44 ?_
  refine c_putI (sg := sI (sI sg 0 0 7 ((sg.1 0 0 7) + (g * (sg.1 4 i 3)))) 0 0 6 ((sg.1 0 0 6) + (g * (sg.1 4 i 5)))) C0 K0 2 (sg.2 4 i 0) hm (ty := .int) rfl inX1 rfl tyX1 tyX1_ok nmX1 3 (by decide) dX5_book_45 (tA 224 rfl rfl) (fun _ h => h) rfl (by decide +kernel) rfl rfl (Nat.le_of_ble_eq_true rfl) rfl ?_
  refine k_aload_n C0 dX5_book_48 1 rfl ?_
  refine c_getI (sg := sI (sI (sI sg 0 0 7 ((sg.1 0 0 7) + (g * (sg.1 4 i 3)))) 0 0 6 ((sg.1 0 0 6) + (g * (sg.1 4 i 5)))) 2 (sg.2 4 i 0) 3 ((sg.1 2 (sg.2 4 i 0) 3) + (g * (sg.1 4 i 6)))) C0 K0 4 i hi rfl inX3 rfl 7 (sg.1 4 i 7) (by decide) dX5_book_49 (tB 167 rfl rfl) (fun _ h => h) rfl rfl ?_
  refine k_if_eq C0 73 dX5_book_52 (by decide) (fun h52 => ?_) (fun h52 => ?_)
  ·
    exact k_vret C0 dX5_book_73 hr hlk (Nat.le_of_ble_eq_true rfl) (Nat.le_of_ble_eq_true rfl) () rfl (by unfold c_book; first | (rw [if_pos h52]; exact fun H h => h) | (rw [if_neg h52]; exact fun H h => h))
  ·
    refine k_aload_n C0 dX5_book_55 1 rfl ?_
    refine c_get (sg := sI (sI (sI sg 0 0 7 ((sg.1 0 0 7) + (g * (sg.1 4 i 3)))) 0 0 6 ((sg.1 0 0 6) + (g * (sg.1 4 i 5)))) 2 (sg.2 4 i 0) 3 ((sg.1 2 (sg.2 4 i 0) 3) + (g * (sg.1 4 i 6)))) C0 K0 4 i hi rfl inX3 rfl 1 (.ref (al 1 (sg.2 4 i 1))) (by decide) dX5_book_56 (tB 155 rfl rfl) (fun _ h => h) rfl ?_
    refine k_dup C0 dX5_book_59 rfl ?_
    refine c_getI (sg := sI (sI (sI sg 0 0 7 ((sg.1 0 0 7) + (g * (sg.1 4 i 3)))) 0 0 6 ((sg.1 0 0 6) + (g * (sg.1 4 i 5)))) 2 (sg.2 4 i 0) 3 ((sg.1 2 (sg.2 4 i 0) 3) + (g * (sg.1 4 i 6)))) C0 K0 1 (sg.2 4 i 1) hl_ rfl inX0 rfl 3 (sg.1 1 (sg.2 4 i 1) 3) (by decide) dX5_book_60 (tA 71 rfl rfl) (fun _ h => h) rfl rfl ?_
    refine k_iload_n C0 dX5_book_63 2 rfl ?_
    refine k_aload_n C0 dX5_book_64 1 rfl ?_
    refine c_getI (sg := sI (sI (sI sg 0 0 7 ((sg.1 0 0 7) + (g * (sg.1 4 i 3)))) 0 0 6 ((sg.1 0 0 6) + (g * (sg.1 4 i 5)))) 2 (sg.2 4 i 0) 3 ((sg.1 2 (sg.2 4 i 0) 3) + (g * (sg.1 4 i 6)))) C0 K0 4 i hi rfl inX3 rfl 4 (sg.1 4 i 4) (by decide) dX5_book_65 (tB 161 rfl rfl) (fun _ h => h) rfl rfl ?_
    refine k_imul C0 dX5_book_68 ?_
    refine k_iadd C0 dX5_book_69 ?_
    refine c_putI (sg := sI (sI (sI sg 0 0 7 ((sg.1 0 0 7) + (g * (sg.1 4 i 3)))) 0 0 6 ((sg.1 0 0 6) + (g * (sg.1 4 i 5)))) 2 (sg.2 4 i 0) 3 ((sg.1 2 (sg.2 4 i 0) 3) + (g * (sg.1 4 i 6)))) C0 K0 1 (sg.2 4 i 1) hl_ (ty := .int) rfl inX0 rfl tyX0 tyX0_ok nmX0 3 (by decide) dX5_book_70 (tA 71 rfl rfl) (fun _ h => h) rfl (by decide +kernel) rfl rfl (Nat.le_of_ble_eq_true rfl) rfl ?_
    exact k_vret C0 dX5_book_73 hr hlk (Nat.le_of_ble_eq_true rfl) (Nat.le_of_ble_eq_true rfl) () rfl (by unfold c_book; first | (rw [if_pos h52]; exact fun H h => h) | (rw [if_neg h52]; exact fun H h => h))
set_option maxRecDepth 100000 in
set_option maxHeartbeats 4000000 in
theorem ci_sale (l : Launch) (D : va_G) (Y : Nat → Nat) (A : Nat → Prop) (sg : Sg) (al : Nat → Nat → Nat) (q mk j : Nat) (hj : j < 5) (mo v pct : Int32) (hd : 0 < 100 + sg.1 1 j 1) (hb : sg.1 1 j 2 = 0 ∨ sg.1 1 j 2 = 1) : CT l yX3_init (Cond.code yX3_init cX3_init 7 none) 1 22 D Y A [.ref q, .ref (al 2 mk), .ref (al 1 j), .int mo, .int v, .int pct] (WX D Y A sg al [(q, .inr (4, [.null, .null, .int 0, .int 0, .int 0, .int 0, .int 0, .int 0, .int 0]))]) (fun _ : Unit => none) (fun _ : Unit => WX D Y A sg al [(q, .inr (4, [.ref (al 2 mk), .ref (al 1 j), .int (g_sale sg j mo v pct 2), .int (g_sale sg j mo v pct 3), .int (g_sale sg j mo v pct 4), .int (g_sale sg j mo v pct 5), .int (g_sale sg j mo v pct 6), .int (g_sale sg j mo v pct 7), .int (g_sale sg j mo v pct 8)]))]) noX 0 0 := by
  refine CT.of (by decide) (Nat.le_of_ble_eq_true rfl) ?_
  intro p_ e_ s_ m_ below_ meth_ c_ C0 K0 hr hlk htab hnm_
  refine k_aload_n C0 dX3_init_0 0 rfl ?_
  refine k_objInit C0 dX3_init_1 (tB 147 rfl rfl) (tA 28 rfl rfl) (tA 29 rfl rfl) (Nat.le_of_ble_eq_true rfl) (Nat.le_of_ble_eq_true rfl) ?_
  refine k_aload_n C0 dX3_init_4 0 rfl ?_
  refine k_iconst C0 0 dX3_init_5 (by decide) ?_
  refine x_put C0 K0 0 (ty := .boolean) rfl inX3 rfl tyX3 tyX3_ok nmX3 8 (by decide) dX3_init_6 (tB 168 rfl rfl) (fun _ h => h) rfl (by decide +kernel) rfl rfl (Nat.le_of_ble_eq_true rfl) [(q, .inr (4, [.null, .null, .int 0, .int 0, .int 0, .int 0, .int 0, .int 0, .int 0]))] rfl ?_
  refine k_aload_n C0 dX3_init_9 0 rfl ?_
  refine k_aload_n C0 dX3_init_10 1 rfl ?_
  refine x_putF C0 K0 hnm_ 0 (ty := .object "ShopPaymaster$Maker") rfl inX3 rfl tyX3 tyX3_ok nmX3 0 (by decide) dX3_init_11 (tB 152 rfl rfl) (fun _ h => h) rfl rfl (by decide +kernel) rfl rfl (Nat.le_of_ble_eq_true rfl) [(q, .inr (4, [.ref (al 2 mk), .null, .int 0, .int 0, .int 0, .int 0, .int 0, .int 0, .int 0]))] rfl ?_
  refine k_aload_n C0 dX3_init_14 0 rfl ?_
  refine k_aload_n C0 dX3_init_15 2 rfl ?_
  refine x_putF C0 K0 hnm_ 0 (ty := .object "ShopPaymaster$Land") rfl inX3 rfl tyX3 tyX3_ok nmX3 1 (by decide) dX3_init_16 (tB 154 rfl rfl) (fun _ h => h) rfl rfl (by decide +kernel) rfl rfl (Nat.le_of_ble_eq_true rfl) [(q, .inr (4, [.ref (al 2 mk), .ref (al 1 j), .int 0, .int 0, .int 0, .int 0, .int 0, .int 0, .int 0]))] rfl ?_
  refine k_aload_n C0 dX3_init_19 0 rfl ?_
  refine k_iload_n C0 dX3_init_20 3 rfl ?_
  refine x_putF C0 K0 hnm_ 0 (ty := .int) rfl inX3 rfl tyX3 tyX3_ok nmX3 2 (by decide) dX3_init_21 (tB 156 rfl rfl) (fun _ h => h) rfl rfl (by decide +kernel) rfl rfl (Nat.le_of_ble_eq_true rfl) [(q, .inr (4, [.ref (al 2 mk), .ref (al 1 j), .int mo, .int 0, .int 0, .int 0, .int 0, .int 0, .int 0]))] rfl ?_
  refine k_aload_n C0 dX3_init_24 0 rfl ?_
  refine k_iload C0 dX3_init_25 4 rfl ?_
  refine x_putF C0 K0 hnm_ 0 (ty := .int) rfl inX3 rfl tyX3 tyX3_ok nmX3 3 (by decide) dX3_init_27 (tB 158 rfl rfl) (fun _ h => h) rfl rfl (by decide +kernel) rfl rfl (Nat.le_of_ble_eq_true rfl) [(q, .inr (4, [.ref (al 2 mk), .ref (al 1 j), .int mo, .int v, .int 0, .int 0, .int 0, .int 0, .int 0]))] rfl ?_
  refine k_aload_n C0 dX3_init_30 0 rfl ?_
  refine k_aload_n C0 dX3_init_31 2 rfl ?_
  refine k_iload C0 dX3_init_32 4 rfl ?_
  refine k_callV C0 K0 dX3_init_34 (cc_taxIn l D Y A sg al [(q, .inr (4, [.ref (al 2 mk), .ref (al 1 j), .int mo, .int v, .int 0, .int 0, .int 0, .int 0, .int 0]))] j hj v hd) gkX3_28 hyX0_taxIn (c_recv (sg := sg) (al := al) K0 1 j hj rfl rfl) rfl (by exact Nat.le_of_ble_eq_true rfl) ⟨Nat.le_of_ble_eq_true rfl, Nat.le_of_ble_eq_true rfl⟩ ⟨Nat.le_of_ble_eq_true rfl, Nat.le_of_ble_eq_true rfl⟩ (fun E => kX_no E) (fun _ => ?_)
  refine x_putF C0 K0 hnm_ 0 (ty := .int) rfl inX3 rfl tyX3 tyX3_ok nmX3 4 (by decide) dX3_init_37 (tB 160 rfl rfl) (fun _ h => h) rfl rfl (by decide +kernel) rfl rfl (Nat.le_of_ble_eq_true rfl) [(q, .inr (4, [.ref (al 2 mk), .ref (al 1 j), .int mo, .int v, .int (c_tax sg j v), .int 0, .int 0, .int 0, .int 0]))] rfl ?_
  refine k_aload_n C0 dX3_init_40 0 rfl ?_
  refine k_aload_n C0 dX3_init_41 2 rfl ?_
  refine c_getI C0 K0 1 j hj rfl inX0 rfl 2 (sg.1 1 j 2) (by decide) dX3_init_42 (tA 68 rfl rfl) (fun _ h => h) rfl rfl ?_
  refine x_putF C0 K0 hnm_ 0 (ty := .boolean) rfl inX3 rfl tyX3 tyX3_ok nmX3 7 (by decide) dX3_init_45 (tB 166 rfl rfl) (fun _ h => h) rfl rfl (by decide +kernel) (nz01 hb) (ft01 hb) (Nat.le_of_ble_eq_true rfl) [(q, .inr (4, [.ref (al 2 mk), .ref (al 1 j), .int mo, .int v, .int (c_tax sg j v), .int 0, .int 0, .int (sg.1 1 j 2), .int 0]))] rfl ?_
  refine k_iload C0 dX3_init_48 4 rfl ?_
  refine k_aload_n C0 dX3_init_50 0 rfl ?_
  refine x_get C0 K0 0 rfl inX3 rfl 4 (.int (c_tax sg j v)) (by decide) dX3_init_51 (tB 160 rfl rfl) (fun _ h => h) rfl ?_
  refine k_isub C0 dX3_init_54 ?_
  refine k_istore C0 [(6, _), (0, _), (1, _), (2, _), (3, _), (4, _), (5, _)] dX3_init_55 (by decide) rfl ?_
  refine k_aload_n C0 dX3_init_57 1 rfl ?_
  refine k_iload C0 dX3_init_58 0 rfl ?_
  refine k_iload C0 dX3_init_60 6 rfl ?_
  refine k_imul C0 dX3_init_62 ?_
  refine k_bipush C0 100 dX3_init_63 (by decide) ?_
  refine k_idiv C0 dX3_init_65 (by decide) ?_
  refine x_putF C0 K0 hnm_ 0 (ty := .int) rfl inX3 rfl tyX3 tyX3_ok nmX3 5 (by decide) dX3_init_66 (tB 162 rfl rfl) (fun _ h => h) rfl rfl (by decide +kernel) rfl rfl (Nat.le_of_ble_eq_true rfl) [(q, .inr (4, [.ref (al 2 mk), .ref (al 1 j), .int mo, .int v, .int (c_tax sg j v), .int (((v - (c_tax sg j v)) * pct) / 100), .int 0, .int (sg.1 1 j 2), .int 0]))] rfl ?_
  refine k_aload_n C0 dX3_init_69 1 rfl ?_
  refine k_iload C0 dX3_init_70 0 rfl ?_
  refine k_aload_n C0 dX3_init_72 1 rfl ?_
  refine x_get C0 K0 0 rfl inX3 rfl 5 (.int (((v - (c_tax sg j v)) * pct) / 100)) (by decide) dX3_init_73 (tB 162 rfl rfl) (fun _ h => h) rfl ?_
  refine k_isub C0 dX3_init_76 ?_
  refine k_aload_n C0 dX3_init_77 1 rfl ?_
  refine x_get C0 K0 0 rfl inX3 rfl 7 (.int (sg.1 1 j 2)) (by decide) dX3_init_78 (tB 166 rfl rfl) (fun _ h => h) rfl ?_
  refine k_join (fun x => x = (if sg.1 1 j 2 = 0 then c_tax sg j v else 0)) 92 1 (fun J1 => ?_) (fun x1 ex1 => ?_)
  ·
    refine k_if_eq C0 88 dX3_init_81 (by decide) (fun h81 => ?_) (fun h81 => ?_)
    ·
      refine k_aload_n C0 dX3_init_88 1 rfl ?_
      refine x_get C0 K0 0 rfl inX3 rfl 4 (.int (c_tax sg j v)) (by decide) dX3_init_89 (tB 160 rfl rfl) (fun _ h => h) rfl ?_
      exact J1 _ (by first | exact (if_pos h81).symm | exact (if_neg h81).symm)
    ·
      refine k_iconst C0 0 dX3_init_84 (by decide) ?_
      refine k_goto C0 92 dX3_init_85 (by decide) ?_
      exact J1 _ (by first | exact (if_pos h81).symm | exact (if_neg h81).symm)
  ·
    subst ex1
    refine k_iadd C0 dX3_init_92 ?_
    refine x_putF C0 K0 hnm_ 0 (ty := .int) rfl inX3 rfl tyX3 tyX3_ok nmX3 6 (by decide) dX3_init_93 (tB 164 rfl rfl) (fun _ h => h) rfl rfl (by decide +kernel) rfl rfl (Nat.le_of_ble_eq_true rfl) [(q, .inr (4, [.ref (al 2 mk), .ref (al 1 j), .int mo, .int v, .int (c_tax sg j v), .int (((v - (c_tax sg j v)) * pct) / 100), .int (((v - (c_tax sg j v)) - (((v - (c_tax sg j v)) * pct) / 100)) + (if sg.1 1 j 2 = 0 then c_tax sg j v else 0)), .int (sg.1 1 j 2), .int 0]))] rfl ?_
    exact k_vret C0 dX3_init_96 hr hlk (Nat.le_of_ble_eq_true rfl) (Nat.le_of_ble_eq_true rfl) () rfl (fun H h => h)
set_option maxRecDepth 100000 in
set_option maxHeartbeats 4000000 in
theorem ci_sub (l : Launch) (D : va_G) (Y : Nat → Nat) (A : Nat → Prop) (sg : Sg) (al : Nat → Nat → Nat) (q p j : Nat) (d b : Int32) (hb : b = 0 ∨ b = 1) : CT l yX4_init (Cond.code yX4_init cX4_init 5 none) 1 12 D Y A [.ref q, .ref (al 3 p), .ref (al 1 j), .int d, .int b] (WX D Y A sg al [(q, .inr (5, [.null, .int 0, .null, .int 0, .int 0, .int 0, .int 0]))]) (fun _ : Unit => none) (fun _ : Unit => WX D Y A sg al [(q, .inr (5, [.ref (al 1 j), .int (gSub b d 1), .ref (al 3 p), .int (gSub b d 3), .int (gSub b d 4), .int (gSub b d 5), .int (gSub b d 6)]))]) noX 0 0 := by
  refine CT.of (by decide) (Nat.le_of_ble_eq_true rfl) ?_
  intro p_ e_ s_ m_ below_ meth_ c_ C0 K0 hr hlk htab hnm_
  refine k_aload_n C0 dX4_init_0 0 rfl ?_
  refine k_objInit C0 dX4_init_1 (tB 215 rfl rfl) (tA 28 rfl rfl) (tA 29 rfl rfl) (Nat.le_of_ble_eq_true rfl) (Nat.le_of_ble_eq_true rfl) ?_
  refine k_aload_n C0 dX4_init_4 0 rfl ?_
  refine k_iconst C0 0 dX4_init_5 (by decide) ?_
  refine x_put C0 K0 0 (ty := .boolean) rfl inX4 rfl tyX4 tyX4_ok nmX4 3 (by decide) dX4_init_6 (tB 221 rfl rfl) (fun _ h => h) rfl (by decide +kernel) rfl rfl (Nat.le_of_ble_eq_true rfl) [(q, .inr (5, [.null, .int 0, .null, .int 0, .int 0, .int 0, .int 0]))] rfl ?_
  refine k_aload_n C0 dX4_init_9 0 rfl ?_
  refine k_iconst C0 0 dX4_init_10 (by decide) ?_
  refine x_put C0 K0 0 (ty := .int) rfl inX4 rfl tyX4 tyX4_ok nmX4 4 (by decide) dX4_init_11 (tB 223 rfl rfl) (fun _ h => h) rfl (by decide +kernel) rfl rfl (Nat.le_of_ble_eq_true rfl) [(q, .inr (5, [.null, .int 0, .null, .int 0, .int 0, .int 0, .int 0]))] rfl ?_
  refine k_aload_n C0 dX4_init_14 0 rfl ?_
  refine k_iconst C0 0 dX4_init_15 (by decide) ?_
  refine x_put C0 K0 0 (ty := .int) rfl inX4 rfl tyX4 tyX4_ok nmX4 5 (by decide) dX4_init_16 (tB 224 rfl rfl) (fun _ h => h) rfl (by decide +kernel) rfl rfl (Nat.le_of_ble_eq_true rfl) [(q, .inr (5, [.null, .int 0, .null, .int 0, .int 0, .int 0, .int 0]))] rfl ?_
  refine k_aload_n C0 dX4_init_19 0 rfl ?_
  refine k_aload_n C0 dX4_init_20 1 rfl ?_
  refine x_put C0 K0 0 (ty := .object "ShopPaymaster$Product") rfl inX4 rfl tyX4 tyX4_ok nmX4 2 (by decide) dX4_init_21 (tB 219 rfl rfl) (fun _ h => h) rfl (by decide +kernel) rfl rfl (Nat.le_of_ble_eq_true rfl) [(q, .inr (5, [.null, .int 0, .ref (al 3 p), .int 0, .int 0, .int 0, .int 0]))] rfl ?_
  refine k_aload_n C0 dX4_init_24 0 rfl ?_
  refine k_aload_n C0 dX4_init_25 2 rfl ?_
  refine x_putF C0 K0 hnm_ 0 (ty := .object "ShopPaymaster$Land") rfl inX4 rfl tyX4 tyX4_ok nmX4 0 (by decide) dX4_init_26 (tB 216 rfl rfl) (fun _ h => h) rfl rfl (by decide +kernel) rfl rfl (Nat.le_of_ble_eq_true rfl) [(q, .inr (5, [.ref (al 1 j), .int 0, .ref (al 3 p), .int 0, .int 0, .int 0, .int 0]))] rfl ?_
  refine k_aload_n C0 dX4_init_29 0 rfl ?_
  refine k_iload C0 dX4_init_30 4 rfl ?_
  refine x_putF C0 K0 hnm_ 0 (ty := .boolean) rfl inX4 rfl tyX4 tyX4_ok nmX4 1 (by decide) dX4_init_32 (tB 218 rfl rfl) (fun _ h => h) rfl rfl (by decide +kernel) (nz01 hb) (ft01 hb) (Nat.le_of_ble_eq_true rfl) [(q, .inr (5, [.ref (al 1 j), .int b, .ref (al 3 p), .int 0, .int 0, .int 0, .int 0]))] rfl ?_
  refine k_aload_n C0 dX4_init_35 0 rfl ?_
  refine k_iload_n C0 dX4_init_36 3 rfl ?_
  refine x_put C0 K0 0 (ty := .int) rfl inX4 rfl tyX4 tyX4_ok nmX4 6 (by decide) dX4_init_37 (tB 226 rfl rfl) (fun _ h => h) rfl (by decide +kernel) rfl rfl (Nat.le_of_ble_eq_true rfl) [(q, .inr (5, [.ref (al 1 j), .int b, .ref (al 3 p), .int 0, .int 0, .int 0, .int d]))] rfl ?_
  exact k_vret C0 dX4_init_40 hr hlk (Nat.le_of_ble_eq_true rfl) (Nat.le_of_ble_eq_true rfl) () rfl (fun H h => h)
set_option maxRecDepth 100000 in
set_option maxHeartbeats 4000000 in
theorem ci_maker (l : Launch) (D : va_G) (Y : Nat → Nat) (A : Nat → Prop) (sg : Sg) (al : Nat → Nat → Nat) (q : Nat) (t : Int32) : CT l yX1_init (Cond.code yX1_init cX1_init 2 none) 1 12 D Y A [.ref q, .int t] (WX D Y A sg al [(q, .inr (2, [.int 0, .null, .int 0, .int 0, .int 0]))]) (fun _ : Nat => none) (fun q2 : Nat => WX D Y A sg al [(q, .inr (2, [.int t, .ref q2, .int 0, .int 0, .int 0])), (q2, .inl (Y 0, 120, .inl (fun _ => 0)))]) noX 1 120 := by
  refine CT.of (by decide) (Nat.le_of_ble_eq_true rfl) ?_
  intro p_ e_ s_ m_ below_ meth_ c_ C0 K0 hr hlk htab hnm_
  refine k_aload_n C0 dX1_init_0 0 rfl ?_
  refine k_objInit C0 dX1_init_1 (tA 219 rfl rfl) (tA 28 rfl rfl) (tA 29 rfl rfl) (Nat.le_of_ble_eq_true rfl) (Nat.le_of_ble_eq_true rfl) ?_
  refine k_aload_n C0 dX1_init_4 0 rfl ?_
  refine k_bipush C0 120 dX1_init_5 (by decide) ?_
  refine x_newai C0 K0 120 (tA 238 rfl rfl) (by decide) (by decide) (by decide) (Nat.le_of_ble_eq_true rfl) (Nat.le_of_ble_eq_true rfl) dX1_init_7 (fun q1 => ?_)
  refine x_putF C0 K0 hnm_ 0 (ty := .array .int) rfl inX1 rfl tyX1 tyX1_ok nmX1 1 (by decide) dX1_init_9 (tA 221 rfl rfl) (fun _ h => h) rfl rfl (by decide +kernel) rfl rfl (Nat.le_of_ble_eq_true rfl) [(q, .inr (2, [.int 0, .ref q1, .int 0, .int 0, .int 0])), (q1, .inl (Y 0, 120, .inl (fun _ => 0)))] rfl ?_
  refine k_aload_n C0 dX1_init_12 0 rfl ?_
  refine k_iconst C0 0 dX1_init_13 (by decide) ?_
  refine x_put C0 K0 0 (ty := .int) rfl inX1 rfl tyX1 tyX1_ok nmX1 2 (by decide) dX1_init_14 (tA 222 rfl rfl) (fun _ h => h) rfl (by decide +kernel) rfl rfl (Nat.le_of_ble_eq_true rfl) [(q, .inr (2, [.int 0, .ref q1, .int 0, .int 0, .int 0])), (q1, .inl (Y 0, 120, .inl (fun _ => 0)))] rfl ?_
  refine k_aload_n C0 dX1_init_17 0 rfl ?_
  refine k_iconst C0 0 dX1_init_18 (by decide) ?_
  refine x_put C0 K0 0 (ty := .int) rfl inX1 rfl tyX1 tyX1_ok nmX1 3 (by decide) dX1_init_19 (tA 223 rfl rfl) (fun _ h => h) rfl (by decide +kernel) rfl rfl (Nat.le_of_ble_eq_true rfl) [(q, .inr (2, [.int 0, .ref q1, .int 0, .int 0, .int 0])), (q1, .inl (Y 0, 120, .inl (fun _ => 0)))] rfl ?_
  refine k_aload_n C0 dX1_init_22 0 rfl ?_
  refine k_iconst C0 0 dX1_init_23 (by decide) ?_
  refine x_put C0 K0 0 (ty := .int) rfl inX1 rfl tyX1 tyX1_ok nmX1 4 (by decide) dX1_init_24 (tA 225 rfl rfl) (fun _ h => h) rfl (by decide +kernel) rfl rfl (Nat.le_of_ble_eq_true rfl) [(q, .inr (2, [.int 0, .ref q1, .int 0, .int 0, .int 0])), (q1, .inl (Y 0, 120, .inl (fun _ => 0)))] rfl ?_
  refine k_aload_n C0 dX1_init_27 0 rfl ?_
  refine k_iload_n C0 dX1_init_28 1 rfl ?_
  refine x_putF C0 K0 hnm_ 0 (ty := .int) rfl inX1 rfl tyX1 tyX1_ok nmX1 0 (by decide) dX1_init_29 (tA 220 rfl rfl) (fun _ h => h) rfl rfl (by decide +kernel) rfl rfl (Nat.le_of_ble_eq_true rfl) [(q, .inr (2, [.int t, .ref q1, .int 0, .int 0, .int 0])), (q1, .inl (Y 0, 120, .inl (fun _ => 0)))] rfl ?_
  exact k_vret C0 dX1_init_32 hr hlk (Nat.le_of_ble_eq_true rfl) (Nat.le_of_ble_eq_true rfl) q1 rfl (fun H h => h)
set_option maxRecDepth 100000 in
set_option maxHeartbeats 4000000 in
theorem ci_prod (l : Launch) (D : va_G) (Y : Nat → Nat) (A : Nat → Prop) (sg : Sg) (al : Nat → Nat → Nat) (q mk : Nat) (nb v : Int32) : CT l yX2_init (Cond.code yX2_init cX2_init 5 none) 1 12 D Y A [.ref q, .int nb, .ref (al 2 mk), .int v] (WX D Y A sg al [(q, .inr (3, [.int 0, .null, .null]))]) (fun _ : Nat => none) (fun q2 : Nat => WX D Y A sg al [(q, .inr (3, [.int nb, .ref (al 2 mk), .ref q2])), (q2, .inl (Y 0, 5, .inl (gPrice v)))]) noX 1 5 := by
  refine CT.of (by decide) (Nat.le_of_ble_eq_true rfl) ?_
  intro p_ e_ s_ m_ below_ meth_ c_ C0 K0 hr hlk htab hnm_
  refine k_aload_n C0 dX2_init_0 0 rfl ?_
  refine k_objInit C0 dX2_init_1 (tB 100 rfl rfl) (tA 28 rfl rfl) (tA 29 rfl rfl) (Nat.le_of_ble_eq_true rfl) (Nat.le_of_ble_eq_true rfl) ?_
  refine k_aload_n C0 dX2_init_4 0 rfl ?_
  refine k_iconst C0 5 dX2_init_5 (by decide) ?_
  refine x_newai C0 K0 5 (tA 238 rfl rfl) (by decide) (by decide) (by decide) (Nat.le_of_ble_eq_true rfl) (Nat.le_of_ble_eq_true rfl) dX2_init_6 (fun q1 => ?_)
  refine x_putF C0 K0 hnm_ 0 (ty := .array .int) rfl inX2 rfl tyX2 tyX2_ok nmX2 2 (by decide) dX2_init_8 (tB 104 rfl rfl) (fun _ h => h) rfl rfl (by decide +kernel) rfl rfl (Nat.le_of_ble_eq_true rfl) [(q, .inr (3, [.int 0, .null, .ref q1])), (q1, .inl (Y 0, 5, .inl (fun _ => 0)))] rfl ?_
  refine k_aload_n C0 dX2_init_11 0 rfl ?_
  refine k_iload_n C0 dX2_init_12 1 rfl ?_
  refine x_putF C0 K0 hnm_ 0 (ty := .int) rfl inX2 rfl tyX2 tyX2_ok nmX2 0 (by decide) dX2_init_13 (tB 101 rfl rfl) (fun _ h => h) rfl rfl (by decide +kernel) rfl rfl (Nat.le_of_ble_eq_true rfl) [(q, .inr (3, [.int nb, .null, .ref q1])), (q1, .inl (Y 0, 5, .inl (fun _ => 0)))] rfl ?_
  refine k_aload_n C0 dX2_init_16 0 rfl ?_
  refine k_aload_n C0 dX2_init_17 2 rfl ?_
  refine x_putF C0 K0 hnm_ 0 (ty := .object "ShopPaymaster$Maker") rfl inX2 rfl tyX2 tyX2_ok nmX2 1 (by decide) dX2_init_18 (tB 102 rfl rfl) (fun _ h => h) rfl rfl (by decide +kernel) rfl rfl (Nat.le_of_ble_eq_true rfl) [(q, .inr (3, [.int nb, .ref (al 2 mk), .ref q1])), (q1, .inl (Y 0, 5, .inl (fun _ => 0)))] rfl ?_
  refine k_iconst C0 0 dX2_init_21 (by decide) ?_
  refine k_istore C0 [(4, _), (0, _), (1, _), (2, _), (3, _)] dX2_init_22 (by decide) rfl ?_
  refine k_iload C0 dX2_init_24 0 rfl ?_
  refine k_aload_n C0 dX2_init_26 1 rfl ?_
  refine x_get C0 K0 0 rfl inX2 rfl 2 (.ref q1) (by decide) dX2_init_27 (tB 104 rfl rfl) (fun _ h => h) rfl ?_
  refine x_alen C0 K0 1 rfl 0 rfl 5 rfl dX2_init_30 ?_
  refine k_icmp_ge C0 48 dX2_init_31 (by decide) (fun zz => absurd zz (by decide)) (fun _ => ?_)
  refine k_aload_n C0 dX2_init_34 1 rfl ?_
  refine x_get C0 K0 0 rfl inX2 rfl 2 (.ref q1) (by decide) dX2_init_35 (tB 104 rfl rfl) (fun _ h => h) rfl ?_
  refine k_iload C0 dX2_init_38 0 rfl ?_
  refine k_iload_n C0 dX2_init_40 4 rfl ?_
  refine x_iast C0 K0 1 (N := 5) (f := (fun _ => 0)) (x := 0) rfl (show vp_in (nI 0) 5 from vp_in_nI (by decide) (by decide)) dX2_init_41 [(q, .inr (3, [.int nb, .ref (al 2 mk), .ref q1])), (q1, .inl (Y 0, 5, .inl (upd (fun _ => 0) 0 v)))] rfl ?_
  refine k_iinc C0 (0 + 1) [(4, _), (0, _), (1, _), (2, _), (3, _)] dX2_init_42 0 rfl rfl (by decide) rfl ?_
  refine k_goto C0 24 dX2_init_45 (by decide) ?_
  refine k_iload C0 dX2_init_24 0 rfl ?_
  refine k_aload_n C0 dX2_init_26 1 rfl ?_
  refine x_get C0 K0 0 rfl inX2 rfl 2 (.ref q1) (by decide) dX2_init_27 (tB 104 rfl rfl) (fun _ h => h) rfl ?_
  refine x_alen C0 K0 1 rfl 0 rfl 5 rfl dX2_init_30 ?_
  refine k_icmp_ge C0 48 dX2_init_31 (by decide) (fun zz => absurd zz (by decide)) (fun _ => ?_)
  refine k_aload_n C0 dX2_init_34 1 rfl ?_
  refine x_get C0 K0 0 rfl inX2 rfl 2 (.ref q1) (by decide) dX2_init_35 (tB 104 rfl rfl) (fun _ h => h) rfl ?_
  refine k_iload C0 dX2_init_38 0 rfl ?_
  refine k_iload_n C0 dX2_init_40 4 rfl ?_
  refine x_iast C0 K0 1 (N := 5) (f := (upd (fun _ => 0) 0 v)) (x := 1) rfl (show vp_in (nI 1) 5 from vp_in_nI (by decide) (by decide)) dX2_init_41 [(q, .inr (3, [.int nb, .ref (al 2 mk), .ref q1])), (q1, .inl (Y 0, 5, .inl (upd (upd (fun _ => 0) 0 v) 1 v)))] rfl ?_
  refine k_iinc C0 (0 + 1 + 1) [(4, _), (0, _), (1, _), (2, _), (3, _)] dX2_init_42 0 rfl rfl (by decide) rfl ?_
  refine k_goto C0 24 dX2_init_45 (by decide) ?_
  refine k_iload C0 dX2_init_24 0 rfl ?_
  refine k_aload_n C0 dX2_init_26 1 rfl ?_
  refine x_get C0 K0 0 rfl inX2 rfl 2 (.ref q1) (by decide) dX2_init_27 (tB 104 rfl rfl) (fun _ h => h) rfl ?_
  refine x_alen C0 K0 1 rfl 0 rfl 5 rfl dX2_init_30 ?_
  refine k_icmp_ge C0 48 dX2_init_31 (by decide) (fun zz => absurd zz (by decide)) (fun _ => ?_)
  refine k_aload_n C0 dX2_init_34 1 rfl ?_
  refine x_get C0 K0 0 rfl inX2 rfl 2 (.ref q1) (by decide) dX2_init_35 (tB 104 rfl rfl) (fun _ h => h) rfl ?_
  refine k_iload C0 dX2_init_38 0 rfl ?_
  refine k_iload_n C0 dX2_init_40 4 rfl ?_
  refine x_iast C0 K0 1 (N := 5) (f := (upd (upd (fun _ => 0) 0 v) 1 v)) (x := 2) rfl (show vp_in (nI 2) 5 from vp_in_nI (by decide) (by decide)) dX2_init_41 [(q, .inr (3, [.int nb, .ref (al 2 mk), .ref q1])), (q1, .inl (Y 0, 5, .inl (upd (upd (upd (fun _ => 0) 0 v) 1 v) 2 v)))] rfl ?_
  refine k_iinc C0 (0 + 1 + 1 + 1) [(4, _), (0, _), (1, _), (2, _), (3, _)] dX2_init_42 0 rfl rfl (by decide) rfl ?_
  refine k_goto C0 24 dX2_init_45 (by decide) ?_
  refine k_iload C0 dX2_init_24 0 rfl ?_
  refine k_aload_n C0 dX2_init_26 1 rfl ?_
  refine x_get C0 K0 0 rfl inX2 rfl 2 (.ref q1) (by decide) dX2_init_27 (tB 104 rfl rfl) (fun _ h => h) rfl ?_
  refine x_alen C0 K0 1 rfl 0 rfl 5 rfl dX2_init_30 ?_
  refine k_icmp_ge C0 48 dX2_init_31 (by decide) (fun zz => absurd zz (by decide)) (fun _ => ?_)
  refine k_aload_n C0 dX2_init_34 1 rfl ?_
  refine x_get C0 K0 0 rfl inX2 rfl 2 (.ref q1) (by decide) dX2_init_35 (tB 104 rfl rfl) (fun _ h => h) rfl ?_
  refine k_iload C0 dX2_init_38 0 rfl ?_
  refine k_iload_n C0 dX2_init_40 4 rfl ?_
  refine x_iast C0 K0 1 (N := 5) (f := (upd (upd (upd (fun _ => 0) 0 v) 1 v) 2 v)) (x := 3) rfl (show vp_in (nI 3) 5 from vp_in_nI (by decide) (by decide)) dX2_init_41 [(q, .inr (3, [.int nb, .ref (al 2 mk), .ref q1])), (q1, .inl (Y 0, 5, .inl (upd (upd (upd (upd (fun _ => 0) 0 v) 1 v) 2 v) 3 v)))] rfl ?_
  refine k_iinc C0 (0 + 1 + 1 + 1 + 1) [(4, _), (0, _), (1, _), (2, _), (3, _)] dX2_init_42 0 rfl rfl (by decide) rfl ?_
  refine k_goto C0 24 dX2_init_45 (by decide) ?_
  refine k_iload C0 dX2_init_24 0 rfl ?_
  refine k_aload_n C0 dX2_init_26 1 rfl ?_
  refine x_get C0 K0 0 rfl inX2 rfl 2 (.ref q1) (by decide) dX2_init_27 (tB 104 rfl rfl) (fun _ h => h) rfl ?_
  refine x_alen C0 K0 1 rfl 0 rfl 5 rfl dX2_init_30 ?_
  refine k_icmp_ge C0 48 dX2_init_31 (by decide) (fun zz => absurd zz (by decide)) (fun _ => ?_)
  refine k_aload_n C0 dX2_init_34 1 rfl ?_
  refine x_get C0 K0 0 rfl inX2 rfl 2 (.ref q1) (by decide) dX2_init_35 (tB 104 rfl rfl) (fun _ h => h) rfl ?_
  refine k_iload C0 dX2_init_38 0 rfl ?_
  refine k_iload_n C0 dX2_init_40 4 rfl ?_
  refine x_iast C0 K0 1 (N := 5) (f := (upd (upd (upd (upd (fun _ => 0) 0 v) 1 v) 2 v) 3 v)) (x := 4) rfl (show vp_in (nI 4) 5 from vp_in_nI (by decide) (by decide)) dX2_init_41 [(q, .inr (3, [.int nb, .ref (al 2 mk), .ref q1])), (q1, .inl (Y 0, 5, .inl (upd (upd (upd (upd (upd (fun _ => 0) 0 v) 1 v) 2 v) 3 v) 4 v)))] rfl ?_
  refine k_iinc C0 (0 + 1 + 1 + 1 + 1 + 1) [(4, _), (0, _), (1, _), (2, _), (3, _)] dX2_init_42 0 rfl rfl (by decide) rfl ?_
  refine k_goto C0 24 dX2_init_45 (by decide) ?_
  refine k_iload C0 dX2_init_24 0 rfl ?_
  refine k_aload_n C0 dX2_init_26 1 rfl ?_
  refine x_get C0 K0 0 rfl inX2 rfl 2 (.ref q1) (by decide) dX2_init_27 (tB 104 rfl rfl) (fun _ h => h) rfl ?_
  refine x_alen C0 K0 1 rfl 0 rfl 5 rfl dX2_init_30 ?_
  refine k_icmp_ge C0 48 dX2_init_31 (by decide) (fun _ => ?_) (fun zz => absurd (by decide) zz)
  exact k_vret C0 dX2_init_48 hr hlk (Nat.le_of_ble_eq_true rfl) (Nat.le_of_ble_eq_true rfl) q1 rfl (fun H h => h)
set_option maxRecDepth 100000 in
set_option maxHeartbeats 4000000 in
theorem ci_land (l : Launch) (D : va_G) (Y : Nat → Nat) (A : Nat → Prop) (sg : Sg) (al : Nat → Nat → Nat) (q : Nat) (nb : Int32) : CT l yX0_init (Cond.code yX0_init cX0_init 2 none) 1 12 D Y A [.ref q, .int nb] (WX D Y A sg al [(q, .inr (1, [.int 0, .int 0, .int 0, .int 0]))]) (fun _ : Unit => none) (fun _ : Unit => WX D Y A sg al [(q, .inr (1, [.int nb, .int 0, .int 1, .int 0]))]) noX 0 0 := by
  refine CT.of (by decide) (Nat.le_of_ble_eq_true rfl) ?_
  intro p_ e_ s_ m_ below_ meth_ c_ C0 K0 hr hlk htab hnm_
  refine k_aload_n C0 dX0_init_0 0 rfl ?_
  refine k_objInit C0 dX0_init_1 (tA 62 rfl rfl) (tA 28 rfl rfl) (tA 29 rfl rfl) (Nat.le_of_ble_eq_true rfl) (Nat.le_of_ble_eq_true rfl) ?_
  refine k_aload_n C0 dX0_init_4 0 rfl ?_
  refine k_iconst C0 0 dX0_init_5 (by decide) ?_
  refine x_put C0 K0 0 (ty := .int) rfl inX0 rfl tyX0 tyX0_ok nmX0 1 (by decide) dX0_init_6 (tA 65 rfl rfl) (fun _ h => h) rfl (by decide +kernel) rfl rfl (Nat.le_of_ble_eq_true rfl) [(q, .inr (1, [.int 0, .int 0, .int 0, .int 0]))] rfl ?_
  refine k_aload_n C0 dX0_init_9 0 rfl ?_
  refine k_iconst C0 1 dX0_init_10 (by decide) ?_
  refine x_put C0 K0 0 (ty := .boolean) rfl inX0 rfl tyX0 tyX0_ok nmX0 2 (by decide) dX0_init_11 (tA 67 rfl rfl) (fun _ h => h) rfl (by decide +kernel) rfl rfl (Nat.le_of_ble_eq_true rfl) [(q, .inr (1, [.int 0, .int 0, .int 1, .int 0]))] rfl ?_
  refine k_aload_n C0 dX0_init_14 0 rfl ?_
  refine k_iconst C0 0 dX0_init_15 (by decide) ?_
  refine x_put C0 K0 0 (ty := .int) rfl inX0 rfl tyX0 tyX0_ok nmX0 3 (by decide) dX0_init_16 (tA 70 rfl rfl) (fun _ h => h) rfl (by decide +kernel) rfl rfl (Nat.le_of_ble_eq_true rfl) [(q, .inr (1, [.int 0, .int 0, .int 1, .int 0]))] rfl ?_
  refine k_aload_n C0 dX0_init_19 0 rfl ?_
  refine k_iload_n C0 dX0_init_20 1 rfl ?_
  refine x_putF C0 K0 hnm_ 0 (ty := .int) rfl inX0 rfl tyX0 tyX0_ok nmX0 0 (by decide) dX0_init_21 (tA 63 rfl rfl) (fun _ h => h) rfl rfl (by decide +kernel) rfl rfl (Nat.le_of_ble_eq_true rfl) [(q, .inr (1, [.int nb, .int 0, .int 1, .int 0]))] rfl ?_
  exact k_vret C0 dX0_init_24 hr hlk (Nat.le_of_ble_eq_true rfl) (Nat.le_of_ble_eq_true rfl) () rfl (fun H h => h)
