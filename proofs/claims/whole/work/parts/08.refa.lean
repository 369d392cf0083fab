def r_part (s : Int64) (f b : Int32) : Int32 := ((s >>> (f.toInt64 &&& 63)) &&& (((1 : Int64) <<< (b.toInt64 &&& 63)) - 1)).toInt32
def r_price (s : Int64) : Int32 := r_part s 0 17
def r_tax (s : Int64) : Int32 := r_part s 17 15
def r_share (s : Int64) : Int32 := r_part s 32 15
def r_pof (s : Int64) : Int32 := r_price s - r_tax s - r_share s + (if r_part s 60 1 = 1 then r_tax s else 0)
def r_counts (mu : Rm) (s : Int64) (g : Int32) : Rm :=
  rI (rI (rI (rI mu 7 (r_part s 54 3).toNatClampNeg (mu.1 7 (r_part s 54 3).toNatClampNeg + g * r_pof s)) 23 0 (mu.1 23 0 + g * r_share s)) 24 0 (mu.1 24 0 + g * r_price s)) 3 (r_part s 57 3).toNatClampNeg (mu.1 3 (r_part s 57 3).toNatClampNeg + (if r_part s 60 1 = 1 then 0 else g * r_tax s))
theorem gkX6_81 : GoodIn TT (va_wsS RX6 81 yX6_part (Cond.code yX6_part cX6_part 4 (some .int) :: TT)) := goodTS (tD 93 rfl rfl) (tD 94 rfl rfl) (tA 6 rfl rfl) (goodTT (tD 95 rfl rfl))
theorem hyX6_part : yX6_part.cls ≠ "java/lang/invoke/MethodHandle" ∧ yX6_part.cls ≠ "java/lang/invoke/VarHandle" ∧ (parseMethodDescriptor yX6_part.desc).map (fun d => d.parameters.length) = some 3 := by decide +kernel
theorem gkX6_85 : GoodIn TT (va_wsS RX6 85 yX6_priceOf (Cond.code yX6_priceOf cX6_priceOf 2 (some .int) :: TT)) := goodTS (tD 99 rfl rfl) (tD 100 rfl rfl) (tA 6 rfl rfl) (goodTT (tD 101 rfl rfl))
theorem hyX6_priceOf : yX6_priceOf.cls ≠ "java/lang/invoke/MethodHandle" ∧ yX6_priceOf.cls ≠ "java/lang/invoke/VarHandle" ∧ (parseMethodDescriptor yX6_priceOf.desc).map (fun d => d.parameters.length) = some 1 := by decide +kernel
theorem gkX6_89 : GoodIn TT (va_wsS RX6 89 yX6_taxOf (Cond.code yX6_taxOf cX6_taxOf 2 (some .int) :: TT)) := goodTS (tD 102 rfl rfl) (tD 103 rfl rfl) (tA 6 rfl rfl) (goodTT (tD 104 rfl rfl))
theorem hyX6_taxOf : yX6_taxOf.cls ≠ "java/lang/invoke/MethodHandle" ∧ yX6_taxOf.cls ≠ "java/lang/invoke/VarHandle" ∧ (parseMethodDescriptor yX6_taxOf.desc).map (fun d => d.parameters.length) = some 1 := by decide +kernel
theorem gkX6_92 : GoodIn TT (va_wsS RX6 92 yX6_shareOf (Cond.code yX6_shareOf cX6_shareOf 2 (some .int) :: TT)) := goodTS (tD 105 rfl rfl) (tD 106 rfl rfl) (tA 6 rfl rfl) (goodTT (tD 107 rfl rfl))
theorem hyX6_shareOf : yX6_shareOf.cls ≠ "java/lang/invoke/MethodHandle" ∧ yX6_shareOf.cls ≠ "java/lang/invoke/VarHandle" ∧ (parseMethodDescriptor yX6_shareOf.desc).map (fun d => d.parameters.length) = some 1 := by decide +kernel
theorem gkX6_95 : GoodIn TT (va_wsS RX6 95 yX6_partOf (Cond.code yX6_partOf cX6_partOf 2 (some .int) :: TT)) := goodTS (tD 96 rfl rfl) (tD 97 rfl rfl) (tA 6 rfl rfl) (goodTT (tD 98 rfl rfl))
theorem hyX6_partOf : yX6_partOf.cls ≠ "java/lang/invoke/MethodHandle" ∧ yX6_partOf.cls ≠ "java/lang/invoke/VarHandle" ∧ (parseMethodDescriptor yX6_partOf.desc).map (fun d => d.parameters.length) = some 1 := by decide +kernel
theorem gkX6_69 : GoodIn TT (va_wsS RX6 69 yX6_in (Cond.code yX6_in cX6_in 3 (some .boolean) :: TT)) := goodTS (tD 64 rfl rfl) (tD 65 rfl rfl) (tA 6 rfl rfl) (goodTT (tD 66 rfl rfl))
theorem hyX6_in : yX6_in.cls ≠ "java/lang/invoke/MethodHandle" ∧ yX6_in.cls ≠ "java/lang/invoke/VarHandle" ∧ (parseMethodDescriptor yX6_in.desc).map (fun d => d.parameters.length) = some 3 := by decide +kernel
theorem gkX6_118 : GoodIn TT (wsV RX6 118 yX6_isSale.cls yX6_isSale (Cond.code yX6_isSale cX6_isSale 2 (some .boolean) :: TT)) := goodTV (tD 112 rfl rfl) (tD 114 rfl rfl) (tP 19 rfl) (tA 6 rfl rfl) (tD 115 rfl rfl)
theorem hyX6_isSale : yX6_isSale.cls ≠ "java/lang/invoke/MethodHandle" ∧ yX6_isSale.cls ≠ "java/lang/invoke/VarHandle" ∧ (parseMethodDescriptor yX6_isSale.desc).map (fun d => d.parameters.length) = some 1 := by decide +kernel
theorem gkX6_131 : GoodIn TT (wsV RX6 131 yX6_isPlan.cls yX6_isPlan (Cond.code yX6_isPlan cX6_isPlan 2 (some .boolean) :: TT)) := goodTV (tD 153 rfl rfl) (tD 155 rfl rfl) (tP 21 rfl) (tA 6 rfl rfl) (tD 156 rfl rfl)
theorem hyX6_isPlan : yX6_isPlan.cls ≠ "java/lang/invoke/MethodHandle" ∧ yX6_isPlan.cls ≠ "java/lang/invoke/VarHandle" ∧ (parseMethodDescriptor yX6_isPlan.desc).map (fun d => d.parameters.length) = some 1 := by decide +kernel
theorem gkX6_134 : GoodIn TT (wsV RX6 134 yX6_isMaker.cls yX6_isMaker (Cond.code yX6_isMaker cX6_isMaker 2 (some .boolean) :: TT)) := goodTV (tD 177 rfl rfl) (tD 179 rfl rfl) (tP 22 rfl) (tA 6 rfl rfl) (tD 180 rfl rfl)
theorem hyX6_isMaker : yX6_isMaker.cls ≠ "java/lang/invoke/MethodHandle" ∧ yX6_isMaker.cls ≠ "java/lang/invoke/VarHandle" ∧ (parseMethodDescriptor yX6_isMaker.desc).map (fun d => d.parameters.length) = some 1 := by decide +kernel
set_option maxRecDepth 100000 in
set_option maxHeartbeats 4000000 in
theorem ct_in1 (l : Launch) (D : va_G) (Y : Nat → Nat) (A : Nat → Prop) (V : Heap → Prop) (x lo hi : Int32) (h1 : lo ≤ x) (h2 : x ≤ hi) : CT l yX6_in (Cond.code yX6_in cX6_in 3 (some .boolean)) 0 0 D Y A [.int x, .int lo, .int hi] V (fun _ : Unit => some (.int 1)) (fun _ : Unit => V) noX 0 0 := by
  refine CT.of (by decide) (Nat.le_of_ble_eq_true rfl) ?_
  intro p_ e_ s_ m_ below_ meth_ c_ C0 K0 hr hlk htab hnm_
  refine k_iload_n C0 dX6_in_0 0 rfl ?_
  refine k_iload_n C0 dX6_in_1 1 rfl ?_
  refine k_icmp_lt C0 14 dX6_in_2 (by decide) (fun zz => absurd zz (Int32.not_lt.mpr h1)) (fun _ => ?_)
  refine k_iload_n C0 dX6_in_5 0 rfl ?_
  refine k_iload_n C0 dX6_in_6 2 rfl ?_
  refine k_icmp_gt C0 14 dX6_in_7 (by decide) (fun zz => absurd zz (Int32.not_lt.mpr h2)) (fun _ => ?_)
  refine k_iconst C0 1 dX6_in_10 (by decide) ?_
  refine k_goto C0 15 dX6_in_11 (by decide) ?_
  exact k_zret C0 dX6_in_15 hr rfl hlk (Nat.le_of_ble_eq_true rfl) (Nat.le_of_ble_eq_true rfl) () rfl (fun H h => h)
set_option maxRecDepth 100000 in
set_option maxHeartbeats 4000000 in
theorem ct_in0 (l : Launch) (D : va_G) (Y : Nat → Nat) (A : Nat → Prop) (V : Heap → Prop) (x lo hi : Int32) (h : ¬ (lo ≤ x ∧ x ≤ hi)) : CT l yX6_in (Cond.code yX6_in cX6_in 3 (some .boolean)) 0 0 D Y A [.int x, .int lo, .int hi] V (fun _ : Unit => some (.int 0)) (fun _ : Unit => V) noX 0 0 := by
  refine CT.of (by decide) (Nat.le_of_ble_eq_true rfl) ?_
  intro p_ e_ s_ m_ below_ meth_ c_ C0 K0 hr hlk htab hnm_
  refine k_iload_n C0 dX6_in_0 0 rfl ?_
  refine k_iload_n C0 dX6_in_1 1 rfl ?_
  refine k_icmp_lt C0 14 dX6_in_2 (by decide) (fun h2 => ?_) (fun h2 => ?_)
  ·
    refine k_iconst C0 0 dX6_in_14 (by decide) ?_
    exact k_zret C0 dX6_in_15 hr rfl hlk (Nat.le_of_ble_eq_true rfl) (Nat.le_of_ble_eq_true rfl) () rfl (fun H h => h)
  ·
    refine k_iload_n C0 dX6_in_5 0 rfl ?_
    refine k_iload_n C0 dX6_in_6 2 rfl ?_
    refine k_icmp_gt C0 14 dX6_in_7 (by decide) (fun _ => ?_) (fun zz => absurd (Int32.not_le.mp (fun q => h ⟨Int32.not_lt.mp h2, q⟩)) zz)
    refine k_iconst C0 0 dX6_in_14 (by decide) ?_
    exact k_zret C0 dX6_in_15 hr rfl hlk (Nat.le_of_ble_eq_true rfl) (Nat.le_of_ble_eq_true rfl) () rfl (fun H h => h)
set_option maxRecDepth 100000 in
set_option maxHeartbeats 4000000 in
theorem ct_fails (l : Launch) (D : va_G) (Y : Nat → Nat) (A : Nat → Prop) (o : Nat) (al : Nat → Nat) (mu : Rm) (x : Int32) : CT l yX6_fails (Cond.code yX6_fails cX6_fails 2 (some .int)) 0 0 D Y A [.ref o, .int x] (WR D Y A o al mu) (fun _ : Unit => some (.int 0)) (fun _ : Unit => WR D Y A o al (rI mu 25 0 x)) noX 0 0 := by
  refine CT.of (by decide) (Nat.le_of_ble_eq_true rfl) ?_
  intro p_ e_ s_ m_ below_ meth_ c_ C0 K0 hr hlk htab hnm_
  refine k_aload_n C0 dX6_fails_0 0 rfl ?_
  refine k_iload_n C0 dX6_fails_1 1 rfl ?_
  refine r_putS C0 K0 25 dX6_fails_2 (tD 1 rfl rfl) (by decide) rfl rfl (by decide +kernel) (rs_25 al _ _) (by decide) ?_
  refine k_iconst C0 0 dX6_fails_5 (by decide) ?_
  exact k_iret C0 dX6_fails_6 hr hlk (Nat.le_of_ble_eq_true rfl) (Nat.le_of_ble_eq_true rfl) () rfl (fun H h => h)
set_option maxRecDepth 100000 in
set_option maxHeartbeats 4000000 in
theorem ct_thrown (l : Launch) (D : va_G) (Y : Nat → Nat) (A : Nat → Prop) (o : Nat) (al : Nat → Nat) (mu : Rm)  : CT l yX6_thrown (Cond.code yX6_thrown cX6_thrown 1 (some .int)) 0 0 D Y A [.ref o] (WR D Y A o al mu) (fun _ : Unit => some (.int (mu.1 25 0))) (fun _ : Unit => WR D Y A o al mu) noX 0 0 := by
  refine CT.of (by decide) (Nat.le_of_ble_eq_true rfl) ?_
  intro p_ e_ s_ m_ below_ meth_ c_ C0 K0 hr hlk htab hnm_
  refine k_aload_n C0 dX6_thrown_0 0 rfl ?_
  refine r_getI C0 K0 25 (mu.1 25 0) dX6_thrown_1 (tD 1 rfl rfl) (by decide) rfl (rg_25 al _) rfl ?_
  exact k_iret C0 dX6_thrown_4 hr hlk (Nat.le_of_ble_eq_true rfl) (Nat.le_of_ble_eq_true rfl) () rfl (fun H h => h)
set_option maxRecDepth 100000 in
set_option maxHeartbeats 4000000 in
theorem ct_part (l : Launch) (D : va_G) (Y : Nat → Nat) (A : Nat → Prop) (V : Heap → Prop) (s : Int64) (f b : Int32) : CT l yX6_part (Cond.code yX6_part cX6_part 4 (some .int)) 0 0 D Y A [.long s, .int f, .int b] V (fun _ : Unit => some (.int (r_part s f b))) (fun _ : Unit => V) noX 0 0 := by
  refine CT.of (by decide) (Nat.le_of_ble_eq_true rfl) ?_
  intro p_ e_ s_ m_ below_ meth_ c_ C0 K0 hr hlk htab hnm_
  refine k_lload_n C0 dX6_part_0 0 rfl ?_
  refine k_iload_n C0 dX6_part_1 1 rfl ?_
  refine k_lshr C0 dX6_part_2 ?_
  refine k_lconst C0 1 dX6_part_3 (by decide) ?_
  refine k_iload_n C0 dX6_part_4 2 rfl ?_
  refine k_lshl C0 dX6_part_5 ?_
  refine k_lconst C0 1 dX6_part_6 (by decide) ?_
  refine k_lsub C0 dX6_part_7 ?_
  refine k_land C0 dX6_part_8 ?_
  refine k_l2i C0 dX6_part_9 ?_
  exact k_iret C0 dX6_part_10 hr hlk (Nat.le_of_ble_eq_true rfl) (Nat.le_of_ble_eq_true rfl) () rfl (fun H h => h)
set_option maxRecDepth 100000 in
set_option maxHeartbeats 4000000 in
theorem ct_priceOf (l : Launch) (D : va_G) (Y : Nat → Nat) (A : Nat → Prop) (V : Heap → Prop) (s : Int64) : CT l yX6_priceOf (Cond.code yX6_priceOf cX6_priceOf 2 (some .int)) 1 23 D Y A [.long s] V (fun _ : Unit => some (.int (r_price s))) (fun _ : Unit => V) noX 0 0 := by
  refine CT.of (by decide) (Nat.le_of_ble_eq_true rfl) ?_
  intro p_ e_ s_ m_ below_ meth_ c_ C0 K0 hr hlk htab hnm_
  refine k_lload_n C0 dX6_priceOf_0 0 rfl ?_
  refine k_iconst C0 0 dX6_priceOf_1 (by decide) ?_
  refine k_bipush C0 17 dX6_priceOf_2 (by decide) ?_
  refine k_callS C0 K0 dX6_priceOf_4 (ct_part l D Y A _ s (0 : Int32) (17 : Int32)) gkX6_81 hyX6_part rfl (by exact Nat.le_of_ble_eq_true rfl) ⟨Nat.le_of_ble_eq_true rfl, Nat.le_of_ble_eq_true rfl⟩ ⟨Nat.le_of_ble_eq_true rfl, Nat.le_of_ble_eq_true rfl⟩ (fun E => kX_no E) (fun u => ?_)
  exact k_iret C0 dX6_priceOf_7 hr hlk (Nat.le_of_ble_eq_true rfl) (Nat.le_of_ble_eq_true rfl) () rfl (fun H h => h)
set_option maxRecDepth 100000 in
set_option maxHeartbeats 4000000 in
theorem ct_taxOf (l : Launch) (D : va_G) (Y : Nat → Nat) (A : Nat → Prop) (V : Heap → Prop) (s : Int64) : CT l yX6_taxOf (Cond.code yX6_taxOf cX6_taxOf 2 (some .int)) 1 23 D Y A [.long s] V (fun _ : Unit => some (.int (r_tax s))) (fun _ : Unit => V) noX 0 0 := by
  refine CT.of (by decide) (Nat.le_of_ble_eq_true rfl) ?_
  intro p_ e_ s_ m_ below_ meth_ c_ C0 K0 hr hlk htab hnm_
  refine k_lload_n C0 dX6_taxOf_0 0 rfl ?_
  refine k_bipush C0 17 dX6_taxOf_1 (by decide) ?_
  refine k_bipush C0 15 dX6_taxOf_3 (by decide) ?_
  refine k_callS C0 K0 dX6_taxOf_5 (ct_part l D Y A _ s (17 : Int32) (15 : Int32)) gkX6_81 hyX6_part rfl (by exact Nat.le_of_ble_eq_true rfl) ⟨Nat.le_of_ble_eq_true rfl, Nat.le_of_ble_eq_true rfl⟩ ⟨Nat.le_of_ble_eq_true rfl, Nat.le_of_ble_eq_true rfl⟩ (fun E => kX_no E) (fun u => ?_)
  exact k_iret C0 dX6_taxOf_8 hr hlk (Nat.le_of_ble_eq_true rfl) (Nat.le_of_ble_eq_true rfl) () rfl (fun H h => h)
set_option maxRecDepth 100000 in
set_option maxHeartbeats 4000000 in
theorem ct_shareOf (l : Launch) (D : va_G) (Y : Nat → Nat) (A : Nat → Prop) (V : Heap → Prop) (s : Int64) : CT l yX6_shareOf (Cond.code yX6_shareOf cX6_shareOf 2 (some .int)) 1 23 D Y A [.long s] V (fun _ : Unit => some (.int (r_share s))) (fun _ : Unit => V) noX 0 0 := by
  refine CT.of (by decide) (Nat.le_of_ble_eq_true rfl) ?_
  intro p_ e_ s_ m_ below_ meth_ c_ C0 K0 hr hlk htab hnm_
  refine k_lload_n C0 dX6_shareOf_0 0 rfl ?_
  refine k_bipush C0 32 dX6_shareOf_1 (by decide) ?_
  refine k_bipush C0 15 dX6_shareOf_3 (by decide) ?_
  refine k_callS C0 K0 dX6_shareOf_5 (ct_part l D Y A _ s (32 : Int32) (15 : Int32)) gkX6_81 hyX6_part rfl (by exact Nat.le_of_ble_eq_true rfl) ⟨Nat.le_of_ble_eq_true rfl, Nat.le_of_ble_eq_true rfl⟩ ⟨Nat.le_of_ble_eq_true rfl, Nat.le_of_ble_eq_true rfl⟩ (fun E => kX_no E) (fun u => ?_)
  exact k_iret C0 dX6_shareOf_8 hr hlk (Nat.le_of_ble_eq_true rfl) (Nat.le_of_ble_eq_true rfl) () rfl (fun H h => h)
set_option maxRecDepth 100000 in
set_option maxHeartbeats 4000000 in
theorem ct_partOf (l : Launch) (D : va_G) (Y : Nat → Nat) (A : Nat → Prop) (V : Heap → Prop) (s : Int64) : CT l yX6_partOf (Cond.code yX6_partOf cX6_partOf 2 (some .int)) 2 44 D Y A [.long s] V (fun _ : Unit => some (.int (r_pof s))) (fun _ : Unit => V) noX 0 0 := by
  refine CT.of (by decide) (Nat.le_of_ble_eq_true rfl) ?_
  intro p_ e_ s_ m_ below_ meth_ c_ C0 K0 hr hlk htab hnm_
  refine k_lload_n C0 dX6_partOf_0 0 rfl ?_
  refine k_callS C0 K0 dX6_partOf_1 (ct_priceOf l D Y A _ s) gkX6_85 hyX6_priceOf rfl (by exact Nat.le_of_ble_eq_true rfl) ⟨Nat.le_of_ble_eq_true rfl, Nat.le_of_ble_eq_true rfl⟩ ⟨Nat.le_of_ble_eq_true rfl, Nat.le_of_ble_eq_true rfl⟩ (fun E => kX_no E) (fun u => ?_)
  refine k_lload_n C0 dX6_partOf_4 0 rfl ?_
  refine k_callS C0 K0 dX6_partOf_5 (ct_taxOf l D Y A _ s) gkX6_89 hyX6_taxOf rfl (by exact Nat.le_of_ble_eq_true rfl) ⟨Nat.le_of_ble_eq_true rfl, Nat.le_of_ble_eq_true rfl⟩ ⟨Nat.le_of_ble_eq_true rfl, Nat.le_of_ble_eq_true rfl⟩ (fun E => kX_no E) (fun u => ?_)
  refine k_isub C0 dX6_partOf_8 ?_
  refine k_lload_n C0 dX6_partOf_9 0 rfl ?_
  refine k_callS C0 K0 dX6_partOf_10 (ct_shareOf l D Y A _ s) gkX6_92 hyX6_shareOf rfl (by exact Nat.le_of_ble_eq_true rfl) ⟨Nat.le_of_ble_eq_true rfl, Nat.le_of_ble_eq_true rfl⟩ ⟨Nat.le_of_ble_eq_true rfl, Nat.le_of_ble_eq_true rfl⟩ (fun E => kX_no E) (fun u => ?_)
  refine k_isub C0 dX6_partOf_13 ?_
  refine k_lload_n C0 dX6_partOf_14 0 rfl ?_
  refine k_bipush C0 60 dX6_partOf_15 (by decide) ?_
  refine k_iconst C0 1 dX6_partOf_17 (by decide) ?_
  refine k_callS C0 K0 dX6_partOf_18 (ct_part l D Y A _ s (60 : Int32) (1 : Int32)) gkX6_81 hyX6_part rfl (by exact Nat.le_of_ble_eq_true rfl) ⟨Nat.le_of_ble_eq_true rfl, Nat.le_of_ble_eq_true rfl⟩ ⟨Nat.le_of_ble_eq_true rfl, Nat.le_of_ble_eq_true rfl⟩ (fun E => kX_no E) (fun u => ?_)
  refine k_iconst C0 1 dX6_partOf_21 (by decide) ?_
  refine k_icmp_ne C0 32 dX6_partOf_22 (by decide) (fun h22 => ?_) (fun h22 => ?_)
  ·
    refine k_iconst C0 0 dX6_partOf_32 (by decide) ?_
    refine k_iadd C0 dX6_partOf_33 ?_
    exact k_iret C0 dX6_partOf_34 hr hlk (Nat.le_of_ble_eq_true rfl) (Nat.le_of_ble_eq_true rfl) () (by first | (simp only [r_pof, if_pos h22]; done) | (simp only [r_pof, if_neg h22]; done)) (fun H h => h)
  ·
    refine k_lload_n C0 dX6_partOf_25 0 rfl ?_
    refine k_callS C0 K0 dX6_partOf_26 (ct_taxOf l D Y A _ s) gkX6_89 hyX6_taxOf rfl (by exact Nat.le_of_ble_eq_true rfl) ⟨Nat.le_of_ble_eq_true rfl, Nat.le_of_ble_eq_true rfl⟩ ⟨Nat.le_of_ble_eq_true rfl, Nat.le_of_ble_eq_true rfl⟩ (fun E => kX_no E) (fun u => ?_)
    refine k_goto C0 33 dX6_partOf_29 (by decide) ?_
    refine k_iadd C0 dX6_partOf_33 ?_
    exact k_iret C0 dX6_partOf_34 hr hlk (Nat.le_of_ble_eq_true rfl) (Nat.le_of_ble_eq_true rfl) () (by first | (simp only [r_pof, if_pos h22]; done) | (simp only [r_pof, if_neg h22]; done)) (fun H h => h)
set_option maxRecDepth 100000 in
set_option maxHeartbeats 4000000 in
theorem ct_counts (l : Launch) (D : va_G) (Y : Nat → Nat) (A : Nat → Prop) (o : Nat) (al : Nat → Nat) (mu : Rm) (s : Int64) (g : Int32) (hm : vp_in (r_part s 54 3) 6) (hl : vp_in (r_part s 57 3) 5) : CT l yX6_counts (Cond.code yX6_counts cX6_counts 4 none) 3 65 D Y A [.ref o, .long s, .int g] (WR D Y A o al mu) (fun _ : Unit => none) (fun _ : Unit => WR D Y A o al (r_counts mu s g)) noX 0 0 := by
  refine CT.of (by decide) (Nat.le_of_ble_eq_true rfl) ?_
  intro p_ e_ s_ m_ below_ meth_ c_ C0 K0 hr hlk htab hnm_
  refine k_aload_n C0 dX6_counts_0 0 rfl ?_
  refine r_get C0 K0 7 dX6_counts_1 (tC 223 rfl rfl) (by decide) rfl rfl ?_
  refine k_lload_n C0 dX6_counts_4 1 rfl ?_
  refine k_bipush C0 54 dX6_counts_5 (by decide) ?_
  refine k_iconst C0 3 dX6_counts_7 (by decide) ?_
  refine k_callS C0 K0 dX6_counts_8 (ct_part l D Y A _ s (54 : Int32) (3 : Int32)) gkX6_81 hyX6_part rfl (by exact Nat.le_of_ble_eq_true rfl) ⟨Nat.le_of_ble_eq_true rfl, Nat.le_of_ble_eq_true rfl⟩ ⟨Nat.le_of_ble_eq_true rfl, Nat.le_of_ble_eq_true rfl⟩ (fun E => kX_no E) (fun u => ?_)
  refine k_dup2 C0 dX6_counts_11 rfl rfl ?_
  refine r_iald C0 K0 7 dX6_counts_12 (by decide) hm (v := mu.1 7 ((r_part s (54 : Int32) (3 : Int32)).toNatClampNeg)) rfl ?_
  refine k_iload_n C0 dX6_counts_13 2 rfl ?_
  refine k_lload_n C0 dX6_counts_14 1 rfl ?_
  refine k_callS C0 K0 dX6_counts_15 (ct_partOf l D Y A _ s) gkX6_95 hyX6_partOf rfl (by exact Nat.le_of_ble_eq_true rfl) ⟨Nat.le_of_ble_eq_true rfl, Nat.le_of_ble_eq_true rfl⟩ ⟨Nat.le_of_ble_eq_true rfl, Nat.le_of_ble_eq_true rfl⟩ (fun E => kX_no E) (fun u => ?_)
  refine k_imul C0 dX6_counts_18 ?_
  refine k_iadd C0 dX6_counts_19 ?_
  refine r_iast C0 K0 7 dX6_counts_20 (by decide) hm ?_
  refine k_aload_n C0 dX6_counts_21 0 rfl ?_
  refine k_dup C0 dX6_counts_22 rfl ?_
  refine r_getI C0 K0 23 (mu.1 23 0) dX6_counts_23 (tC 239 rfl rfl) (by decide) rfl (rg_23 al _) (rI_tr (by decide) rfl) ?_
  refine k_iload_n C0 dX6_counts_26 2 rfl ?_
  refine k_lload_n C0 dX6_counts_27 1 rfl ?_
  refine k_callS C0 K0 dX6_counts_28 (ct_shareOf l D Y A _ s) gkX6_92 hyX6_shareOf rfl (by exact Nat.le_of_ble_eq_true rfl) ⟨Nat.le_of_ble_eq_true rfl, Nat.le_of_ble_eq_true rfl⟩ ⟨Nat.le_of_ble_eq_true rfl, Nat.le_of_ble_eq_true rfl⟩ (fun E => kX_no E) (fun u => ?_)
  refine k_imul C0 dX6_counts_31 ?_
  refine k_iadd C0 dX6_counts_32 ?_
  refine r_putS C0 K0 23 dX6_counts_33 (tC 239 rfl rfl) (by decide) rfl rfl (by decide +kernel) (rs_23 al _ _) (by decide) ?_
  refine k_aload_n C0 dX6_counts_36 0 rfl ?_
  refine k_dup C0 dX6_counts_37 rfl ?_
  refine r_getI C0 K0 24 (mu.1 24 0) dX6_counts_38 (tD 0 rfl rfl) (by decide) rfl (rg_24 al _) (rI_tr (by decide) (rI_tr (by decide) rfl)) ?_
  refine k_iload_n C0 dX6_counts_41 2 rfl ?_
  refine k_lload_n C0 dX6_counts_42 1 rfl ?_
  refine k_callS C0 K0 dX6_counts_43 (ct_priceOf l D Y A _ s) gkX6_85 hyX6_priceOf rfl (by exact Nat.le_of_ble_eq_true rfl) ⟨Nat.le_of_ble_eq_true rfl, Nat.le_of_ble_eq_true rfl⟩ ⟨Nat.le_of_ble_eq_true rfl, Nat.le_of_ble_eq_true rfl⟩ (fun E => kX_no E) (fun u => ?_)
  refine k_imul C0 dX6_counts_46 ?_
  refine k_iadd C0 dX6_counts_47 ?_
  refine r_putS C0 K0 24 dX6_counts_48 (tD 0 rfl rfl) (by decide) rfl rfl (by decide +kernel) (rs_24 al _ _) (by decide) ?_
  refine k_aload_n C0 dX6_counts_51 0 rfl ?_
  refine r_get C0 K0 3 dX6_counts_52 (tC 219 rfl rfl) (by decide) rfl rfl ?_
  refine k_lload_n C0 dX6_counts_55 1 rfl ?_
  refine k_bipush C0 57 dX6_counts_56 (by decide) ?_
  refine k_iconst C0 3 dX6_counts_58 (by decide) ?_
  refine k_callS C0 K0 dX6_counts_59 (ct_part l D Y A _ s (57 : Int32) (3 : Int32)) gkX6_81 hyX6_part rfl (by exact Nat.le_of_ble_eq_true rfl) ⟨Nat.le_of_ble_eq_true rfl, Nat.le_of_ble_eq_true rfl⟩ ⟨Nat.le_of_ble_eq_true rfl, Nat.le_of_ble_eq_true rfl⟩ (fun E => kX_no E) (fun u => ?_)
  refine k_dup2 C0 dX6_counts_62 rfl rfl ?_
  refine r_iald C0 K0 3 dX6_counts_63 (by decide) hl (v := mu.1 3 ((r_part s (57 : Int32) (3 : Int32)).toNatClampNeg)) (rI_tr (by decide) (rI_tr (by decide) (rI_tr (by decide) rfl))) ?_
  refine k_lload_n C0 dX6_counts_64 1 rfl ?_
  refine k_bipush C0 60 dX6_counts_65 (by decide) ?_
  refine k_iconst C0 1 dX6_counts_67 (by decide) ?_
  refine k_callS C0 K0 dX6_counts_68 (ct_part l D Y A _ s (60 : Int32) (1 : Int32)) gkX6_81 hyX6_part rfl (by exact Nat.le_of_ble_eq_true rfl) ⟨Nat.le_of_ble_eq_true rfl, Nat.le_of_ble_eq_true rfl⟩ ⟨Nat.le_of_ble_eq_true rfl, Nat.le_of_ble_eq_true rfl⟩ (fun E => kX_no E) (fun u => ?_)
  refine k_iconst C0 1 dX6_counts_71 (by decide) ?_
  refine k_icmp_ne C0 79 dX6_counts_72 (by decide) (fun h72 => ?_) (fun h72 => ?_)
  ·
    refine k_iload_n C0 dX6_counts_79 2 rfl ?_
    refine k_lload_n C0 dX6_counts_80 1 rfl ?_
    refine k_callS C0 K0 dX6_counts_81 (ct_taxOf l D Y A _ s) gkX6_89 hyX6_taxOf rfl (by exact Nat.le_of_ble_eq_true rfl) ⟨Nat.le_of_ble_eq_true rfl, Nat.le_of_ble_eq_true rfl⟩ ⟨Nat.le_of_ble_eq_true rfl, Nat.le_of_ble_eq_true rfl⟩ (fun E => kX_no E) (fun u => ?_)
    refine k_imul C0 dX6_counts_84 ?_
    refine k_iadd C0 dX6_counts_85 ?_
    refine r_iast C0 K0 3 dX6_counts_86 (by decide) hl ?_
    exact k_vret C0 dX6_counts_87 hr hlk (Nat.le_of_ble_eq_true rfl) (Nat.le_of_ble_eq_true rfl) () rfl (by first | (unfold r_counts; rw [if_pos h72]; exact fun H h => h) | (unfold r_counts; rw [if_neg h72]; exact fun H h => h))
  ·
    refine k_iconst C0 0 dX6_counts_75 (by decide) ?_
    refine k_goto C0 85 dX6_counts_76 (by decide) ?_
    refine k_iadd C0 dX6_counts_85 ?_
    refine r_iast C0 K0 3 dX6_counts_86 (by decide) hl ?_
    exact k_vret C0 dX6_counts_87 hr hlk (Nat.le_of_ble_eq_true rfl) (Nat.le_of_ble_eq_true rfl) () rfl (by first | (unfold r_counts; rw [if_pos h72]; exact fun H h => h) | (unfold r_counts; rw [if_neg h72]; exact fun H h => h))
set_option maxRecDepth 100000 in
set_option maxHeartbeats 4000000 in
theorem ct_isSale1 (l : Launch) (D : va_G) (Y : Nat → Nat) (A : Nat → Prop) (o : Nat) (al : Nat → Nat) (mu : Rm) (x : Int32) (h1 : 0 ≤ x) (h2 : x ≤ mu.1 13 0 - 1) : CT l yX6_isSale (Cond.code yX6_isSale cX6_isSale 2 (some .boolean)) 1 22 D Y A [.ref o, .int x] (WR D Y A o al mu) (fun _ : Unit => some (.int 1)) (fun _ : Unit => WR D Y A o al (rI mu 25 0 0)) noX 0 0 := by
  refine CT.of (by decide) (Nat.le_of_ble_eq_true rfl) ?_
  intro p_ e_ s_ m_ below_ meth_ c_ C0 K0 hr hlk htab hnm_
  refine k_aload_n C0 dX6_isSale_0 0 rfl ?_
  refine k_iload_n C0 dX6_isSale_1 1 rfl ?_
  refine k_iconst C0 0 dX6_isSale_2 (by decide) ?_
  refine k_aload_n C0 dX6_isSale_3 0 rfl ?_
  refine r_getI C0 K0 13 (mu.1 13 0) dX6_isSale_4 (tC 229 rfl rfl) (by decide) rfl (rg_13 al _) rfl ?_
  refine k_iconst C0 1 dX6_isSale_7 (by decide) ?_
  refine k_isub C0 dX6_isSale_8 ?_
  refine k_callS C0 K0 dX6_isSale_9 (ct_in1 l D Y A _ x (0 : Int32) ((mu.1 13 0) - 1) h1 h2) gkX6_69 hyX6_in rfl (by exact Nat.le_of_ble_eq_true rfl) ⟨Nat.le_of_ble_eq_true rfl, Nat.le_of_ble_eq_true rfl⟩ ⟨Nat.le_of_ble_eq_true rfl, Nat.le_of_ble_eq_true rfl⟩ (fun E => kX_no E) (fun u => ?_)
  refine k_if_eq C0 19 dX6_isSale_12 (by decide) (fun zz => absurd zz (by decide)) (fun _ => ?_)
  refine k_iconst C0 0 dX6_isSale_15 (by decide) ?_
  refine k_goto C0 20 dX6_isSale_16 (by decide) ?_
  refine r_putS C0 K0 25 dX6_isSale_20 (tD 1 rfl rfl) (by decide) rfl rfl (by decide +kernel) (rs_25 al _ _) (by decide) ?_
  refine k_aload_n C0 dX6_isSale_23 0 rfl ?_
  refine r_getI C0 K0 25 0 dX6_isSale_24 (tD 1 rfl rfl) (by decide) rfl (rg_25 al _) rI_at ?_
  refine k_if_ne C0 34 dX6_isSale_27 (by decide) (fun zz => absurd (by decide) zz) (fun _ => ?_)
  refine k_iconst C0 1 dX6_isSale_30 (by decide) ?_
  refine k_goto C0 35 dX6_isSale_31 (by decide) ?_
  exact k_zret C0 dX6_isSale_35 hr rfl hlk (Nat.le_of_ble_eq_true rfl) (Nat.le_of_ble_eq_true rfl) () rfl (fun H h => h)
set_option maxRecDepth 100000 in
set_option maxHeartbeats 4000000 in
theorem ct_isSale0 (l : Launch) (D : va_G) (Y : Nat → Nat) (A : Nat → Prop) (o : Nat) (al : Nat → Nat) (mu : Rm) (x : Int32) (h : ¬ (0 ≤ x ∧ x ≤ mu.1 13 0 - 1)) : CT l yX6_isSale (Cond.code yX6_isSale cX6_isSale 2 (some .boolean)) 1 22 D Y A [.ref o, .int x] (WR D Y A o al mu) (fun _ : Unit => some (.int 0)) (fun _ : Unit => WR D Y A o al (rI mu 25 0 1)) noX 0 0 := by
  refine CT.of (by decide) (Nat.le_of_ble_eq_true rfl) ?_
  intro p_ e_ s_ m_ below_ meth_ c_ C0 K0 hr hlk htab hnm_
  refine k_aload_n C0 dX6_isSale_0 0 rfl ?_
  refine k_iload_n C0 dX6_isSale_1 1 rfl ?_
  refine k_iconst C0 0 dX6_isSale_2 (by decide) ?_
  refine k_aload_n C0 dX6_isSale_3 0 rfl ?_
  refine r_getI C0 K0 13 (mu.1 13 0) dX6_isSale_4 (tC 229 rfl rfl) (by decide) rfl (rg_13 al _) rfl ?_
  refine k_iconst C0 1 dX6_isSale_7 (by decide) ?_
  refine k_isub C0 dX6_isSale_8 ?_
  refine k_callS C0 K0 dX6_isSale_9 (ct_in0 l D Y A _ x (0 : Int32) ((mu.1 13 0) - 1) h) gkX6_69 hyX6_in rfl (by exact Nat.le_of_ble_eq_true rfl) ⟨Nat.le_of_ble_eq_true rfl, Nat.le_of_ble_eq_true rfl⟩ ⟨Nat.le_of_ble_eq_true rfl, Nat.le_of_ble_eq_true rfl⟩ (fun E => kX_no E) (fun u => ?_)
  refine k_if_eq C0 19 dX6_isSale_12 (by decide) (fun _ => ?_) (fun zz => absurd (by decide) zz)
  refine k_iconst C0 1 dX6_isSale_19 (by decide) ?_
  refine r_putS C0 K0 25 dX6_isSale_20 (tD 1 rfl rfl) (by decide) rfl rfl (by decide +kernel) (rs_25 al _ _) (by decide) ?_
  refine k_aload_n C0 dX6_isSale_23 0 rfl ?_
  refine r_getI C0 K0 25 1 dX6_isSale_24 (tD 1 rfl rfl) (by decide) rfl (rg_25 al _) rI_at ?_
  refine k_if_ne C0 34 dX6_isSale_27 (by decide) (fun _ => ?_) (fun zz => absurd zz (by decide))
  refine k_iconst C0 0 dX6_isSale_34 (by decide) ?_
  exact k_zret C0 dX6_isSale_35 hr rfl hlk (Nat.le_of_ble_eq_true rfl) (Nat.le_of_ble_eq_true rfl) () rfl (fun H h => h)
set_option maxRecDepth 100000 in
set_option maxHeartbeats 4000000 in
theorem ct_isPlan1 (l : Launch) (D : va_G) (Y : Nat → Nat) (A : Nat → Prop) (o : Nat) (al : Nat → Nat) (mu : Rm) (x : Int32) (h1 : 0 ≤ x) (h2 : x ≤ mu.1 15 0 - 1) : CT l yX6_isPlan (Cond.code yX6_isPlan cX6_isPlan 2 (some .boolean)) 1 22 D Y A [.ref o, .int x] (WR D Y A o al mu) (fun _ : Unit => some (.int 1)) (fun _ : Unit => WR D Y A o al (rI mu 25 0 0)) noX 0 0 := by
  refine CT.of (by decide) (Nat.le_of_ble_eq_true rfl) ?_
  intro p_ e_ s_ m_ below_ meth_ c_ C0 K0 hr hlk htab hnm_
  refine k_aload_n C0 dX6_isPlan_0 0 rfl ?_
  refine k_iload_n C0 dX6_isPlan_1 1 rfl ?_
  refine k_iconst C0 0 dX6_isPlan_2 (by decide) ?_
  refine k_aload_n C0 dX6_isPlan_3 0 rfl ?_
  refine r_getI C0 K0 15 (mu.1 15 0) dX6_isPlan_4 (tC 231 rfl rfl) (by decide) rfl (rg_15 al _) rfl ?_
  refine k_iconst C0 1 dX6_isPlan_7 (by decide) ?_
  refine k_isub C0 dX6_isPlan_8 ?_
  refine k_callS C0 K0 dX6_isPlan_9 (ct_in1 l D Y A _ x (0 : Int32) ((mu.1 15 0) - 1) h1 h2) gkX6_69 hyX6_in rfl (by exact Nat.le_of_ble_eq_true rfl) ⟨Nat.le_of_ble_eq_true rfl, Nat.le_of_ble_eq_true rfl⟩ ⟨Nat.le_of_ble_eq_true rfl, Nat.le_of_ble_eq_true rfl⟩ (fun E => kX_no E) (fun u => ?_)
  refine k_if_eq C0 19 dX6_isPlan_12 (by decide) (fun zz => absurd zz (by decide)) (fun _ => ?_)
  refine k_iconst C0 0 dX6_isPlan_15 (by decide) ?_
  refine k_goto C0 20 dX6_isPlan_16 (by decide) ?_
  refine r_putS C0 K0 25 dX6_isPlan_20 (tD 1 rfl rfl) (by decide) rfl rfl (by decide +kernel) (rs_25 al _ _) (by decide) ?_
  refine k_aload_n C0 dX6_isPlan_23 0 rfl ?_
  refine r_getI C0 K0 25 0 dX6_isPlan_24 (tD 1 rfl rfl) (by decide) rfl (rg_25 al _) rI_at ?_
  refine k_if_ne C0 34 dX6_isPlan_27 (by decide) (fun zz => absurd (by decide) zz) (fun _ => ?_)
  refine k_iconst C0 1 dX6_isPlan_30 (by decide) ?_
  refine k_goto C0 35 dX6_isPlan_31 (by decide) ?_
  exact k_zret C0 dX6_isPlan_35 hr rfl hlk (Nat.le_of_ble_eq_true rfl) (Nat.le_of_ble_eq_true rfl) () rfl (fun H h => h)
set_option maxRecDepth 100000 in
set_option maxHeartbeats 4000000 in
theorem ct_isPlan0 (l : Launch) (D : va_G) (Y : Nat → Nat) (A : Nat → Prop) (o : Nat) (al : Nat → Nat) (mu : Rm) (x : Int32) (h : ¬ (0 ≤ x ∧ x ≤ mu.1 15 0 - 1)) : CT l yX6_isPlan (Cond.code yX6_isPlan cX6_isPlan 2 (some .boolean)) 1 22 D Y A [.ref o, .int x] (WR D Y A o al mu) (fun _ : Unit => some (.int 0)) (fun _ : Unit => WR D Y A o al (rI mu 25 0 1)) noX 0 0 := by
  refine CT.of (by decide) (Nat.le_of_ble_eq_true rfl) ?_
  intro p_ e_ s_ m_ below_ meth_ c_ C0 K0 hr hlk htab hnm_
  refine k_aload_n C0 dX6_isPlan_0 0 rfl ?_
  refine k_iload_n C0 dX6_isPlan_1 1 rfl ?_
  refine k_iconst C0 0 dX6_isPlan_2 (by decide) ?_
  refine k_aload_n C0 dX6_isPlan_3 0 rfl ?_
  refine r_getI C0 K0 15 (mu.1 15 0) dX6_isPlan_4 (tC 231 rfl rfl) (by decide) rfl (rg_15 al _) rfl ?_
  refine k_iconst C0 1 dX6_isPlan_7 (by decide) ?_
  refine k_isub C0 dX6_isPlan_8 ?_
  refine k_callS C0 K0 dX6_isPlan_9 (ct_in0 l D Y A _ x (0 : Int32) ((mu.1 15 0) - 1) h) gkX6_69 hyX6_in rfl (by exact Nat.le_of_ble_eq_true rfl) ⟨Nat.le_of_ble_eq_true rfl, Nat.le_of_ble_eq_true rfl⟩ ⟨Nat.le_of_ble_eq_true rfl, Nat.le_of_ble_eq_true rfl⟩ (fun E => kX_no E) (fun u => ?_)
  refine k_if_eq C0 19 dX6_isPlan_12 (by decide) (fun _ => ?_) (fun zz => absurd (by decide) zz)
  refine k_iconst C0 1 dX6_isPlan_19 (by decide) ?_
  refine r_putS C0 K0 25 dX6_isPlan_20 (tD 1 rfl rfl) (by decide) rfl rfl (by decide +kernel) (rs_25 al _ _) (by decide) ?_
  refine k_aload_n C0 dX6_isPlan_23 0 rfl ?_
  refine r_getI C0 K0 25 1 dX6_isPlan_24 (tD 1 rfl rfl) (by decide) rfl (rg_25 al _) rI_at ?_
  refine k_if_ne C0 34 dX6_isPlan_27 (by decide) (fun _ => ?_) (fun zz => absurd zz (by decide))
  refine k_iconst C0 0 dX6_isPlan_34 (by decide) ?_
  exact k_zret C0 dX6_isPlan_35 hr rfl hlk (Nat.le_of_ble_eq_true rfl) (Nat.le_of_ble_eq_true rfl) () rfl (fun H h => h)
set_option maxRecDepth 100000 in
set_option maxHeartbeats 4000000 in
theorem ct_isMaker1 (l : Launch) (D : va_G) (Y : Nat → Nat) (A : Nat → Prop) (o : Nat) (al : Nat → Nat) (mu : Rm) (x : Int32) (h1 : 0 ≤ x) (h2 : x ≤ mu.1 4 0 - 1) : CT l yX6_isMaker (Cond.code yX6_isMaker cX6_isMaker 2 (some .boolean)) 1 22 D Y A [.ref o, .int x] (WR D Y A o al mu) (fun _ : Unit => some (.int 1)) (fun _ : Unit => WR D Y A o al (rI mu 25 0 0)) noX 0 0 := by
  refine CT.of (by decide) (Nat.le_of_ble_eq_true rfl) ?_
  intro p_ e_ s_ m_ below_ meth_ c_ C0 K0 hr hlk htab hnm_
  refine k_aload_n C0 dX6_isMaker_0 0 rfl ?_
  refine k_iload_n C0 dX6_isMaker_1 1 rfl ?_
  refine k_iconst C0 0 dX6_isMaker_2 (by decide) ?_
  refine k_aload_n C0 dX6_isMaker_3 0 rfl ?_
  refine r_getI C0 K0 4 (mu.1 4 0) dX6_isMaker_4 (tC 220 rfl rfl) (by decide) rfl (rg_4 al _) rfl ?_
  refine k_iconst C0 1 dX6_isMaker_7 (by decide) ?_
  refine k_isub C0 dX6_isMaker_8 ?_
  refine k_callS C0 K0 dX6_isMaker_9 (ct_in1 l D Y A _ x (0 : Int32) ((mu.1 4 0) - 1) h1 h2) gkX6_69 hyX6_in rfl (by exact Nat.le_of_ble_eq_true rfl) ⟨Nat.le_of_ble_eq_true rfl, Nat.le_of_ble_eq_true rfl⟩ ⟨Nat.le_of_ble_eq_true rfl, Nat.le_of_ble_eq_true rfl⟩ (fun E => kX_no E) (fun u => ?_)
  refine k_if_eq C0 19 dX6_isMaker_12 (by decide) (fun zz => absurd zz (by decide)) (fun _ => ?_)
  refine k_iconst C0 0 dX6_isMaker_15 (by decide) ?_
  refine k_goto C0 20 dX6_isMaker_16 (by decide) ?_
  refine r_putS C0 K0 25 dX6_isMaker_20 (tD 1 rfl rfl) (by decide) rfl rfl (by decide +kernel) (rs_25 al _ _) (by decide) ?_
  refine k_aload_n C0 dX6_isMaker_23 0 rfl ?_
  refine r_getI C0 K0 25 0 dX6_isMaker_24 (tD 1 rfl rfl) (by decide) rfl (rg_25 al _) rI_at ?_
  refine k_if_ne C0 34 dX6_isMaker_27 (by decide) (fun zz => absurd (by decide) zz) (fun _ => ?_)
  refine k_iconst C0 1 dX6_isMaker_30 (by decide) ?_
  refine k_goto C0 35 dX6_isMaker_31 (by decide) ?_
  exact k_zret C0 dX6_isMaker_35 hr rfl hlk (Nat.le_of_ble_eq_true rfl) (Nat.le_of_ble_eq_true rfl) () rfl (fun H h => h)
set_option maxRecDepth 100000 in
set_option maxHeartbeats 4000000 in
theorem ct_isMaker0 (l : Launch) (D : va_G) (Y : Nat → Nat) (A : Nat → Prop) (o : Nat) (al : Nat → Nat) (mu : Rm) (x : Int32) (h : ¬ (0 ≤ x ∧ x ≤ mu.1 4 0 - 1)) : CT l yX6_isMaker (Cond.code yX6_isMaker cX6_isMaker 2 (some .boolean)) 1 22 D Y A [.ref o, .int x] (WR D Y A o al mu) (fun _ : Unit => some (.int 0)) (fun _ : Unit => WR D Y A o al (rI mu 25 0 1)) noX 0 0 := by
  refine CT.of (by decide) (Nat.le_of_ble_eq_true rfl) ?_
  intro p_ e_ s_ m_ below_ meth_ c_ C0 K0 hr hlk htab hnm_
  refine k_aload_n C0 dX6_isMaker_0 0 rfl ?_
  refine k_iload_n C0 dX6_isMaker_1 1 rfl ?_
  refine k_iconst C0 0 dX6_isMaker_2 (by decide) ?_
  refine k_aload_n C0 dX6_isMaker_3 0 rfl ?_
  refine r_getI C0 K0 4 (mu.1 4 0) dX6_isMaker_4 (tC 220 rfl rfl) (by decide) rfl (rg_4 al _) rfl ?_
  refine k_iconst C0 1 dX6_isMaker_7 (by decide) ?_
  refine k_isub C0 dX6_isMaker_8 ?_
  refine k_callS C0 K0 dX6_isMaker_9 (ct_in0 l D Y A _ x (0 : Int32) ((mu.1 4 0) - 1) h) gkX6_69 hyX6_in rfl (by exact Nat.le_of_ble_eq_true rfl) ⟨Nat.le_of_ble_eq_true rfl, Nat.le_of_ble_eq_true rfl⟩ ⟨Nat.le_of_ble_eq_true rfl, Nat.le_of_ble_eq_true rfl⟩ (fun E => kX_no E) (fun u => ?_)
  refine k_if_eq C0 19 dX6_isMaker_12 (by decide) (fun _ => ?_) (fun zz => absurd (by decide) zz)
  refine k_iconst C0 1 dX6_isMaker_19 (by decide) ?_
  refine r_putS C0 K0 25 dX6_isMaker_20 (tD 1 rfl rfl) (by decide) rfl rfl (by decide +kernel) (rs_25 al _ _) (by decide) ?_
  refine k_aload_n C0 dX6_isMaker_23 0 rfl ?_
  refine r_getI C0 K0 25 1 dX6_isMaker_24 (tD 1 rfl rfl) (by decide) rfl (rg_25 al _) rI_at ?_
  refine k_if_ne C0 34 dX6_isMaker_27 (by decide) (fun _ => ?_) (fun zz => absurd zz (by decide))
  refine k_iconst C0 0 dX6_isMaker_34 (by decide) ?_
  exact k_zret C0 dX6_isMaker_35 hr rfl hlk (Nat.le_of_ble_eq_true rfl) (Nat.le_of_ble_eq_true rfl) () rfl (fun H h => h)
set_option maxRecDepth 100000 in
set_option maxHeartbeats 4000000 in
theorem ct_sales (l : Launch) (D : va_G) (Y : Nat → Nat) (A : Nat → Prop) (o : Nat) (al : Nat → Nat) (mu : Rm)  : CT l yX6_sales (Cond.code yX6_sales cX6_sales 1 (some .int)) 0 0 D Y A [.ref o] (WR D Y A o al mu) (fun _ : Unit => some (.int (mu.1 13 0))) (fun _ : Unit => WR D Y A o al (rI mu 25 0 0)) noX 0 0 := by
  refine CT.of (by decide) (Nat.le_of_ble_eq_true rfl) ?_
  intro p_ e_ s_ m_ below_ meth_ c_ C0 K0 hr hlk htab hnm_
  refine k_aload_n C0 dX6_sales_0 0 rfl ?_
  refine k_iconst C0 0 dX6_sales_1 (by decide) ?_
  refine r_putS C0 K0 25 dX6_sales_2 (tD 1 rfl rfl) (by decide) rfl rfl (by decide +kernel) (rs_25 al _ _) (by decide) ?_
  refine k_aload_n C0 dX6_sales_5 0 rfl ?_
  refine r_getI C0 K0 13 (mu.1 13 0) dX6_sales_6 (tC 229 rfl rfl) (by decide) rfl (rg_13 al _) (rI_tr (by decide) rfl) ?_
  exact k_iret C0 dX6_sales_9 hr hlk (Nat.le_of_ble_eq_true rfl) (Nat.le_of_ble_eq_true rfl) () rfl (fun H h => h)
set_option maxRecDepth 100000 in
set_option maxHeartbeats 4000000 in
theorem ct_shop (l : Launch) (D : va_G) (Y : Nat → Nat) (A : Nat → Prop) (o : Nat) (al : Nat → Nat) (mu : Rm)  : CT l yX6_shop (Cond.code yX6_shop cX6_shop 1 (some .int)) 0 0 D Y A [.ref o] (WR D Y A o al mu) (fun _ : Unit => some (.int (mu.1 23 0))) (fun _ : Unit => WR D Y A o al (rI mu 25 0 0)) noX 0 0 := by
  refine CT.of (by decide) (Nat.le_of_ble_eq_true rfl) ?_
  intro p_ e_ s_ m_ below_ meth_ c_ C0 K0 hr hlk htab hnm_
  refine k_aload_n C0 dX6_shop_0 0 rfl ?_
  refine k_iconst C0 0 dX6_shop_1 (by decide) ?_
  refine r_putS C0 K0 25 dX6_shop_2 (tD 1 rfl rfl) (by decide) rfl rfl (by decide +kernel) (rs_25 al _ _) (by decide) ?_
  refine k_aload_n C0 dX6_shop_5 0 rfl ?_
  refine r_getI C0 K0 23 (mu.1 23 0) dX6_shop_6 (tC 239 rfl rfl) (by decide) rfl (rg_23 al _) (rI_tr (by decide) rfl) ?_
  exact k_iret C0 dX6_shop_9 hr hlk (Nat.le_of_ble_eq_true rfl) (Nat.le_of_ble_eq_true rfl) () rfl (fun H h => h)
set_option maxRecDepth 100000 in
set_option maxHeartbeats 4000000 in
theorem ct_takings (l : Launch) (D : va_G) (Y : Nat → Nat) (A : Nat → Prop) (o : Nat) (al : Nat → Nat) (mu : Rm)  : CT l yX6_takings (Cond.code yX6_takings cX6_takings 1 (some .int)) 0 0 D Y A [.ref o] (WR D Y A o al mu) (fun _ : Unit => some (.int (mu.1 24 0))) (fun _ : Unit => WR D Y A o al (rI mu 25 0 0)) noX 0 0 := by
  refine CT.of (by decide) (Nat.le_of_ble_eq_true rfl) ?_
  intro p_ e_ s_ m_ below_ meth_ c_ C0 K0 hr hlk htab hnm_
  refine k_aload_n C0 dX6_takings_0 0 rfl ?_
  refine k_iconst C0 0 dX6_takings_1 (by decide) ?_
  refine r_putS C0 K0 25 dX6_takings_2 (tD 1 rfl rfl) (by decide) rfl rfl (by decide +kernel) (rs_25 al _ _) (by decide) ?_
  refine k_aload_n C0 dX6_takings_5 0 rfl ?_
  refine r_getI C0 K0 24 (mu.1 24 0) dX6_takings_6 (tD 0 rfl rfl) (by decide) rfl (rg_24 al _) (rI_tr (by decide) rfl) ?_
  exact k_iret C0 dX6_takings_9 hr hlk (Nat.le_of_ble_eq_true rfl) (Nat.le_of_ble_eq_true rfl) () rfl (fun H h => h)
set_option maxRecDepth 100000 in
set_option maxHeartbeats 4000000 in
theorem ct_day (l : Launch) (D : va_G) (Y : Nat → Nat) (A : Nat → Prop) (o : Nat) (al : Nat → Nat) (mu : Rm)  : CT l yX6_day (Cond.code yX6_day cX6_day 1 (some .int)) 0 0 D Y A [.ref o] (WR D Y A o al mu) (fun _ : Unit => some (.int (mu.1 0 0))) (fun _ : Unit => WR D Y A o al (rI mu 25 0 0)) noX 0 0 := by
  refine CT.of (by decide) (Nat.le_of_ble_eq_true rfl) ?_
  intro p_ e_ s_ m_ below_ meth_ c_ C0 K0 hr hlk htab hnm_
  refine k_aload_n C0 dX6_day_0 0 rfl ?_
  refine k_iconst C0 0 dX6_day_1 (by decide) ?_
  refine r_putS C0 K0 25 dX6_day_2 (tD 1 rfl rfl) (by decide) rfl rfl (by decide +kernel) (rs_25 al _ _) (by decide) ?_
  refine k_aload_n C0 dX6_day_5 0 rfl ?_
  refine r_getI C0 K0 0 (mu.1 0 0) dX6_day_6 (tC 216 rfl rfl) (by decide) rfl (rg_0 al _) (rI_tr (by decide) rfl) ?_
  exact k_iret C0 dX6_day_9 hr hlk (Nat.le_of_ble_eq_true rfl) (Nat.le_of_ble_eq_true rfl) () rfl (fun H h => h)
set_option maxRecDepth 100000 in
set_option maxHeartbeats 4000000 in
theorem ct_paid1 (l : Launch) (D : va_G) (Y : Nat → Nat) (A : Nat → Prop) (o : Nat) (al : Nat → Nat) (mu : Rm) (x : Int32) (h1 : 0 ≤ x) (h2 : x ≤ mu.1 13 0 - 1) (hi : vp_in x 5400) : CT l yX6_paid (Cond.code yX6_paid cX6_paid 2 (some .int)) 2 44 D Y A [.ref o, .int x] (WR D Y A o al mu) (fun _ : Unit => some (.int (r_price (mu.2 x.toNatClampNeg)))) (fun _ : Unit => WR D Y A o al (rI mu 25 0 0)) noX 0 0 := by
  refine CT.of (by decide) (Nat.le_of_ble_eq_true rfl) ?_
  intro p_ e_ s_ m_ below_ meth_ c_ C0 K0 hr hlk htab hnm_
  refine k_aload_n C0 dX6_paid_0 0 rfl ?_
  refine k_iload_n C0 dX6_paid_1 1 rfl ?_
  refine k_callV C0 K0 dX6_paid_2 (ct_isSale1 l D Y A o al mu x h1 h2) gkX6_118 hyX6_isSale (fun H hV => r_recv K0 hV) rfl (by exact Nat.le_of_ble_eq_true rfl) ⟨Nat.le_of_ble_eq_true rfl, Nat.le_of_ble_eq_true rfl⟩ ⟨Nat.le_of_ble_eq_true rfl, Nat.le_of_ble_eq_true rfl⟩ (fun E => kX_no E) (fun u => ?_)
  refine k_if_eq C0 20 dX6_paid_5 (by decide) (fun zz => absurd zz (by decide)) (fun _ => ?_)
  refine k_aload_n C0 dX6_paid_8 0 rfl ?_
  refine r_get C0 K0 14 dX6_paid_9 (tC 230 rfl rfl) (by decide) rfl rfl ?_
  refine k_iload_n C0 dX6_paid_12 1 rfl ?_
  refine r_lald C0 K0 dX6_paid_13 hi (v := mu.2 x.toNatClampNeg) rfl ?_
  refine k_callS C0 K0 dX6_paid_14 (ct_priceOf l D Y A _ (mu.2 x.toNatClampNeg)) gkX6_85 hyX6_priceOf rfl (by exact Nat.le_of_ble_eq_true rfl) ⟨Nat.le_of_ble_eq_true rfl, Nat.le_of_ble_eq_true rfl⟩ ⟨Nat.le_of_ble_eq_true rfl, Nat.le_of_ble_eq_true rfl⟩ (fun E => kX_no E) (fun u => ?_)
  refine k_goto C0 21 dX6_paid_17 (by decide) ?_
  exact k_iret C0 dX6_paid_21 hr hlk (Nat.le_of_ble_eq_true rfl) (Nat.le_of_ble_eq_true rfl) () rfl (fun H h => h)
set_option maxRecDepth 100000 in
set_option maxHeartbeats 4000000 in
theorem ct_paid0 (l : Launch) (D : va_G) (Y : Nat → Nat) (A : Nat → Prop) (o : Nat) (al : Nat → Nat) (mu : Rm) (x : Int32) (h : ¬ (0 ≤ x ∧ x ≤ mu.1 13 0 - 1)) : CT l yX6_paid (Cond.code yX6_paid cX6_paid 2 (some .int)) 2 43 D Y A [.ref o, .int x] (WR D Y A o al mu) (fun _ : Unit => some (.int 0)) (fun _ : Unit => WR D Y A o al (rI mu 25 0 1)) noX 0 0 := by
  refine CT.of (by decide) (Nat.le_of_ble_eq_true rfl) ?_
  intro p_ e_ s_ m_ below_ meth_ c_ C0 K0 hr hlk htab hnm_
  refine k_aload_n C0 dX6_paid_0 0 rfl ?_
  refine k_iload_n C0 dX6_paid_1 1 rfl ?_
  refine k_callV C0 K0 dX6_paid_2 (ct_isSale0 l D Y A o al mu x h) gkX6_118 hyX6_isSale (fun H hV => r_recv K0 hV) rfl (by exact Nat.le_of_ble_eq_true rfl) ⟨Nat.le_of_ble_eq_true rfl, Nat.le_of_ble_eq_true rfl⟩ ⟨Nat.le_of_ble_eq_true rfl, Nat.le_of_ble_eq_true rfl⟩ (fun E => kX_no E) (fun u => ?_)
  refine k_if_eq C0 20 dX6_paid_5 (by decide) (fun _ => ?_) (fun zz => absurd (by decide) zz)
  refine k_iconst C0 0 dX6_paid_20 (by decide) ?_
  exact k_iret C0 dX6_paid_21 hr hlk (Nat.le_of_ble_eq_true rfl) (Nat.le_of_ble_eq_true rfl) () rfl (fun H h => h)
set_option maxRecDepth 100000 in
set_option maxHeartbeats 4000000 in
theorem ct_tax1 (l : Launch) (D : va_G) (Y : Nat → Nat) (A : Nat → Prop) (o : Nat) (al : Nat → Nat) (mu : Rm) (x : Int32) (h1 : 0 ≤ x) (h2 : x ≤ mu.1 13 0 - 1) (hi : vp_in x 5400) : CT l yX6_tax (Cond.code yX6_tax cX6_tax 2 (some .int)) 2 44 D Y A [.ref o, .int x] (WR D Y A o al mu) (fun _ : Unit => some (.int (r_tax (mu.2 x.toNatClampNeg)))) (fun _ : Unit => WR D Y A o al (rI mu 25 0 0)) noX 0 0 := by
  refine CT.of (by decide) (Nat.le_of_ble_eq_true rfl) ?_
  intro p_ e_ s_ m_ below_ meth_ c_ C0 K0 hr hlk htab hnm_
  refine k_aload_n C0 dX6_tax_0 0 rfl ?_
  refine k_iload_n C0 dX6_tax_1 1 rfl ?_
  refine k_callV C0 K0 dX6_tax_2 (ct_isSale1 l D Y A o al mu x h1 h2) gkX6_118 hyX6_isSale (fun H hV => r_recv K0 hV) rfl (by exact Nat.le_of_ble_eq_true rfl) ⟨Nat.le_of_ble_eq_true rfl, Nat.le_of_ble_eq_true rfl⟩ ⟨Nat.le_of_ble_eq_true rfl, Nat.le_of_ble_eq_true rfl⟩ (fun E => kX_no E) (fun u => ?_)
  refine k_if_eq C0 20 dX6_tax_5 (by decide) (fun zz => absurd zz (by decide)) (fun _ => ?_)
  refine k_aload_n C0 dX6_tax_8 0 rfl ?_
  refine r_get C0 K0 14 dX6_tax_9 (tC 230 rfl rfl) (by decide) rfl rfl ?_
  refine k_iload_n C0 dX6_tax_12 1 rfl ?_
  refine r_lald C0 K0 dX6_tax_13 hi (v := mu.2 x.toNatClampNeg) rfl ?_
  refine k_callS C0 K0 dX6_tax_14 (ct_taxOf l D Y A _ (mu.2 x.toNatClampNeg)) gkX6_89 hyX6_taxOf rfl (by exact Nat.le_of_ble_eq_true rfl) ⟨Nat.le_of_ble_eq_true rfl, Nat.le_of_ble_eq_true rfl⟩ ⟨Nat.le_of_ble_eq_true rfl, Nat.le_of_ble_eq_true rfl⟩ (fun E => kX_no E) (fun u => ?_)
  refine k_goto C0 21 dX6_tax_17 (by decide) ?_
  exact k_iret C0 dX6_tax_21 hr hlk (Nat.le_of_ble_eq_true rfl) (Nat.le_of_ble_eq_true rfl) () rfl (fun H h => h)
set_option maxRecDepth 100000 in
set_option maxHeartbeats 4000000 in
theorem ct_tax0 (l : Launch) (D : va_G) (Y : Nat → Nat) (A : Nat → Prop) (o : Nat) (al : Nat → Nat) (mu : Rm) (x : Int32) (h : ¬ (0 ≤ x ∧ x ≤ mu.1 13 0 - 1)) : CT l yX6_tax (Cond.code yX6_tax cX6_tax 2 (some .int)) 2 43 D Y A [.ref o, .int x] (WR D Y A o al mu) (fun _ : Unit => some (.int 0)) (fun _ : Unit => WR D Y A o al (rI mu 25 0 1)) noX 0 0 := by
  refine CT.of (by decide) (Nat.le_of_ble_eq_true rfl) ?_
  intro p_ e_ s_ m_ below_ meth_ c_ C0 K0 hr hlk htab hnm_
  refine k_aload_n C0 dX6_tax_0 0 rfl ?_
  refine k_iload_n C0 dX6_tax_1 1 rfl ?_
  refine k_callV C0 K0 dX6_tax_2 (ct_isSale0 l D Y A o al mu x h) gkX6_118 hyX6_isSale (fun H hV => r_recv K0 hV) rfl (by exact Nat.le_of_ble_eq_true rfl) ⟨Nat.le_of_ble_eq_true rfl, Nat.le_of_ble_eq_true rfl⟩ ⟨Nat.le_of_ble_eq_true rfl, Nat.le_of_ble_eq_true rfl⟩ (fun E => kX_no E) (fun u => ?_)
  refine k_if_eq C0 20 dX6_tax_5 (by decide) (fun _ => ?_) (fun zz => absurd (by decide) zz)
  refine k_iconst C0 0 dX6_tax_20 (by decide) ?_
  exact k_iret C0 dX6_tax_21 hr hlk (Nat.le_of_ble_eq_true rfl) (Nat.le_of_ble_eq_true rfl) () rfl (fun H h => h)
set_option maxRecDepth 100000 in
set_option maxHeartbeats 4000000 in
theorem ct_shopShare1 (l : Launch) (D : va_G) (Y : Nat → Nat) (A : Nat → Prop) (o : Nat) (al : Nat → Nat) (mu : Rm) (x : Int32) (h1 : 0 ≤ x) (h2 : x ≤ mu.1 13 0 - 1) (hi : vp_in x 5400) : CT l yX6_shopShare (Cond.code yX6_shopShare cX6_shopShare 2 (some .int)) 2 44 D Y A [.ref o, .int x] (WR D Y A o al mu) (fun _ : Unit => some (.int (r_share (mu.2 x.toNatClampNeg)))) (fun _ : Unit => WR D Y A o al (rI mu 25 0 0)) noX 0 0 := by
  refine CT.of (by decide) (Nat.le_of_ble_eq_true rfl) ?_
  intro p_ e_ s_ m_ below_ meth_ c_ C0 K0 hr hlk htab hnm_
  refine k_aload_n C0 dX6_shopShare_0 0 rfl ?_
  refine k_iload_n C0 dX6_shopShare_1 1 rfl ?_
  refine k_callV C0 K0 dX6_shopShare_2 (ct_isSale1 l D Y A o al mu x h1 h2) gkX6_118 hyX6_isSale (fun H hV => r_recv K0 hV) rfl (by exact Nat.le_of_ble_eq_true rfl) ⟨Nat.le_of_ble_eq_true rfl, Nat.le_of_ble_eq_true rfl⟩ ⟨Nat.le_of_ble_eq_true rfl, Nat.le_of_ble_eq_true rfl⟩ (fun E => kX_no E) (fun u => ?_)
  refine k_if_eq C0 20 dX6_shopShare_5 (by decide) (fun zz => absurd zz (by decide)) (fun _ => ?_)
  refine k_aload_n C0 dX6_shopShare_8 0 rfl ?_
  refine r_get C0 K0 14 dX6_shopShare_9 (tC 230 rfl rfl) (by decide) rfl rfl ?_
  refine k_iload_n C0 dX6_shopShare_12 1 rfl ?_
  refine r_lald C0 K0 dX6_shopShare_13 hi (v := mu.2 x.toNatClampNeg) rfl ?_
  refine k_callS C0 K0 dX6_shopShare_14 (ct_shareOf l D Y A _ (mu.2 x.toNatClampNeg)) gkX6_92 hyX6_shareOf rfl (by exact Nat.le_of_ble_eq_true rfl) ⟨Nat.le_of_ble_eq_true rfl, Nat.le_of_ble_eq_true rfl⟩ ⟨Nat.le_of_ble_eq_true rfl, Nat.le_of_ble_eq_true rfl⟩ (fun E => kX_no E) (fun u => ?_)
  refine k_goto C0 21 dX6_shopShare_17 (by decide) ?_
  exact k_iret C0 dX6_shopShare_21 hr hlk (Nat.le_of_ble_eq_true rfl) (Nat.le_of_ble_eq_true rfl) () rfl (fun H h => h)
set_option maxRecDepth 100000 in
set_option maxHeartbeats 4000000 in
theorem ct_shopShare0 (l : Launch) (D : va_G) (Y : Nat → Nat) (A : Nat → Prop) (o : Nat) (al : Nat → Nat) (mu : Rm) (x : Int32) (h : ¬ (0 ≤ x ∧ x ≤ mu.1 13 0 - 1)) : CT l yX6_shopShare (Cond.code yX6_shopShare cX6_shopShare 2 (some .int)) 2 43 D Y A [.ref o, .int x] (WR D Y A o al mu) (fun _ : Unit => some (.int 0)) (fun _ : Unit => WR D Y A o al (rI mu 25 0 1)) noX 0 0 := by
  refine CT.of (by decide) (Nat.le_of_ble_eq_true rfl) ?_
  intro p_ e_ s_ m_ below_ meth_ c_ C0 K0 hr hlk htab hnm_
  refine k_aload_n C0 dX6_shopShare_0 0 rfl ?_
  refine k_iload_n C0 dX6_shopShare_1 1 rfl ?_
  refine k_callV C0 K0 dX6_shopShare_2 (ct_isSale0 l D Y A o al mu x h) gkX6_118 hyX6_isSale (fun H hV => r_recv K0 hV) rfl (by exact Nat.le_of_ble_eq_true rfl) ⟨Nat.le_of_ble_eq_true rfl, Nat.le_of_ble_eq_true rfl⟩ ⟨Nat.le_of_ble_eq_true rfl, Nat.le_of_ble_eq_true rfl⟩ (fun E => kX_no E) (fun u => ?_)
  refine k_if_eq C0 20 dX6_shopShare_5 (by decide) (fun _ => ?_) (fun zz => absurd (by decide) zz)
  refine k_iconst C0 0 dX6_shopShare_20 (by decide) ?_
  exact k_iret C0 dX6_shopShare_21 hr hlk (Nat.le_of_ble_eq_true rfl) (Nat.le_of_ble_eq_true rfl) () rfl (fun H h => h)
set_option maxRecDepth 100000 in
set_option maxHeartbeats 4000000 in
theorem ct_makerPart1 (l : Launch) (D : va_G) (Y : Nat → Nat) (A : Nat → Prop) (o : Nat) (al : Nat → Nat) (mu : Rm) (x : Int32) (h1 : 0 ≤ x) (h2 : x ≤ mu.1 13 0 - 1) (hi : vp_in x 5400) : CT l yX6_makerPart (Cond.code yX6_makerPart cX6_makerPart 2 (some .int)) 3 65 D Y A [.ref o, .int x] (WR D Y A o al mu) (fun _ : Unit => some (.int (r_pof (mu.2 x.toNatClampNeg)))) (fun _ : Unit => WR D Y A o al (rI mu 25 0 0)) noX 0 0 := by
  refine CT.of (by decide) (Nat.le_of_ble_eq_true rfl) ?_
  intro p_ e_ s_ m_ below_ meth_ c_ C0 K0 hr hlk htab hnm_
  refine k_aload_n C0 dX6_makerPart_0 0 rfl ?_
  refine k_iload_n C0 dX6_makerPart_1 1 rfl ?_
  refine k_callV C0 K0 dX6_makerPart_2 (ct_isSale1 l D Y A o al mu x h1 h2) gkX6_118 hyX6_isSale (fun H hV => r_recv K0 hV) rfl (by exact Nat.le_of_ble_eq_true rfl) ⟨Nat.le_of_ble_eq_true rfl, Nat.le_of_ble_eq_true rfl⟩ ⟨Nat.le_of_ble_eq_true rfl, Nat.le_of_ble_eq_true rfl⟩ (fun E => kX_no E) (fun u => ?_)
  refine k_if_eq C0 20 dX6_makerPart_5 (by decide) (fun zz => absurd zz (by decide)) (fun _ => ?_)
  refine k_aload_n C0 dX6_makerPart_8 0 rfl ?_
  refine r_get C0 K0 14 dX6_makerPart_9 (tC 230 rfl rfl) (by decide) rfl rfl ?_
  refine k_iload_n C0 dX6_makerPart_12 1 rfl ?_
  refine r_lald C0 K0 dX6_makerPart_13 hi (v := mu.2 x.toNatClampNeg) rfl ?_
  refine k_callS C0 K0 dX6_makerPart_14 (ct_partOf l D Y A _ (mu.2 x.toNatClampNeg)) gkX6_95 hyX6_partOf rfl (by exact Nat.le_of_ble_eq_true rfl) ⟨Nat.le_of_ble_eq_true rfl, Nat.le_of_ble_eq_true rfl⟩ ⟨Nat.le_of_ble_eq_true rfl, Nat.le_of_ble_eq_true rfl⟩ (fun E => kX_no E) (fun u => ?_)
  refine k_goto C0 21 dX6_makerPart_17 (by decide) ?_
  exact k_iret C0 dX6_makerPart_21 hr hlk (Nat.le_of_ble_eq_true rfl) (Nat.le_of_ble_eq_true rfl) () rfl (fun H h => h)
set_option maxRecDepth 100000 in
set_option maxHeartbeats 4000000 in
theorem ct_makerPart0 (l : Launch) (D : va_G) (Y : Nat → Nat) (A : Nat → Prop) (o : Nat) (al : Nat → Nat) (mu : Rm) (x : Int32) (h : ¬ (0 ≤ x ∧ x ≤ mu.1 13 0 - 1)) : CT l yX6_makerPart (Cond.code yX6_makerPart cX6_makerPart 2 (some .int)) 2 43 D Y A [.ref o, .int x] (WR D Y A o al mu) (fun _ : Unit => some (.int 0)) (fun _ : Unit => WR D Y A o al (rI mu 25 0 1)) noX 0 0 := by
  refine CT.of (by decide) (Nat.le_of_ble_eq_true rfl) ?_
  intro p_ e_ s_ m_ below_ meth_ c_ C0 K0 hr hlk htab hnm_
  refine k_aload_n C0 dX6_makerPart_0 0 rfl ?_
  refine k_iload_n C0 dX6_makerPart_1 1 rfl ?_
  refine k_callV C0 K0 dX6_makerPart_2 (ct_isSale0 l D Y A o al mu x h) gkX6_118 hyX6_isSale (fun H hV => r_recv K0 hV) rfl (by exact Nat.le_of_ble_eq_true rfl) ⟨Nat.le_of_ble_eq_true rfl, Nat.le_of_ble_eq_true rfl⟩ ⟨Nat.le_of_ble_eq_true rfl, Nat.le_of_ble_eq_true rfl⟩ (fun E => kX_no E) (fun u => ?_)
  refine k_if_eq C0 20 dX6_makerPart_5 (by decide) (fun _ => ?_) (fun zz => absurd (by decide) zz)
  refine k_iconst C0 0 dX6_makerPart_20 (by decide) ?_
  exact k_iret C0 dX6_makerPart_21 hr hlk (Nat.le_of_ble_eq_true rfl) (Nat.le_of_ble_eq_true rfl) () rfl (fun H h => h)
set_option maxRecDepth 100000 in
set_option maxHeartbeats 4000000 in
theorem ct_payments1 (l : Launch) (D : va_G) (Y : Nat → Nat) (A : Nat → Prop) (o : Nat) (al : Nat → Nat) (mu : Rm) (x : Int32) (h1 : 0 ≤ x) (h2 : x ≤ mu.1 15 0 - 1) (hi : vp_in x (rLen 20)) : CT l yX6_payments (Cond.code yX6_payments cX6_payments 2 (some .int)) 2 43 D Y A [.ref o, .int x] (WR D Y A o al mu) (fun _ : Unit => some (.int (mu.1 20 x.toNatClampNeg))) (fun _ : Unit => WR D Y A o al (rI mu 25 0 0)) noX 0 0 := by
  refine CT.of (by decide) (Nat.le_of_ble_eq_true rfl) ?_
  intro p_ e_ s_ m_ below_ meth_ c_ C0 K0 hr hlk htab hnm_
  refine k_aload_n C0 dX6_payments_0 0 rfl ?_
  refine k_iload_n C0 dX6_payments_1 1 rfl ?_
  refine k_callV C0 K0 dX6_payments_2 (ct_isPlan1 l D Y A o al mu x h1 h2) gkX6_131 hyX6_isPlan (fun H hV => r_recv K0 hV) rfl (by exact Nat.le_of_ble_eq_true rfl) ⟨Nat.le_of_ble_eq_true rfl, Nat.le_of_ble_eq_true rfl⟩ ⟨Nat.le_of_ble_eq_true rfl, Nat.le_of_ble_eq_true rfl⟩ (fun E => kX_no E) (fun u => ?_)
  refine k_if_eq C0 17 dX6_payments_5 (by decide) (fun zz => absurd zz (by decide)) (fun _ => ?_)
  refine k_aload_n C0 dX6_payments_8 0 rfl ?_
  refine r_get C0 K0 20 dX6_payments_9 (tC 236 rfl rfl) (by decide) rfl rfl ?_
  refine k_iload_n C0 dX6_payments_12 1 rfl ?_
  refine r_iald C0 K0 20 dX6_payments_13 (by decide) hi (v := mu.1 20 x.toNatClampNeg) (rI_tr (by decide) rfl) ?_
  refine k_goto C0 18 dX6_payments_14 (by decide) ?_
  exact k_iret C0 dX6_payments_18 hr hlk (Nat.le_of_ble_eq_true rfl) (Nat.le_of_ble_eq_true rfl) () rfl (fun H h => h)
set_option maxRecDepth 100000 in
set_option maxHeartbeats 4000000 in
theorem ct_payments0 (l : Launch) (D : va_G) (Y : Nat → Nat) (A : Nat → Prop) (o : Nat) (al : Nat → Nat) (mu : Rm) (x : Int32) (h : ¬ (0 ≤ x ∧ x ≤ mu.1 15 0 - 1)) : CT l yX6_payments (Cond.code yX6_payments cX6_payments 2 (some .int)) 2 43 D Y A [.ref o, .int x] (WR D Y A o al mu) (fun _ : Unit => some (.int 0)) (fun _ : Unit => WR D Y A o al (rI mu 25 0 1)) noX 0 0 := by
  refine CT.of (by decide) (Nat.le_of_ble_eq_true rfl) ?_
  intro p_ e_ s_ m_ below_ meth_ c_ C0 K0 hr hlk htab hnm_
  refine k_aload_n C0 dX6_payments_0 0 rfl ?_
  refine k_iload_n C0 dX6_payments_1 1 rfl ?_
  refine k_callV C0 K0 dX6_payments_2 (ct_isPlan0 l D Y A o al mu x h) gkX6_131 hyX6_isPlan (fun H hV => r_recv K0 hV) rfl (by exact Nat.le_of_ble_eq_true rfl) ⟨Nat.le_of_ble_eq_true rfl, Nat.le_of_ble_eq_true rfl⟩ ⟨Nat.le_of_ble_eq_true rfl, Nat.le_of_ble_eq_true rfl⟩ (fun E => kX_no E) (fun u => ?_)
  refine k_if_eq C0 17 dX6_payments_5 (by decide) (fun _ => ?_) (fun zz => absurd (by decide) zz)
  refine k_iconst C0 0 dX6_payments_17 (by decide) ?_
  exact k_iret C0 dX6_payments_18 hr hlk (Nat.le_of_ble_eq_true rfl) (Nat.le_of_ble_eq_true rfl) () rfl (fun H h => h)
set_option maxRecDepth 100000 in
set_option maxHeartbeats 4000000 in
theorem ct_next1 (l : Launch) (D : va_G) (Y : Nat → Nat) (A : Nat → Prop) (o : Nat) (al : Nat → Nat) (mu : Rm) (x : Int32) (h1 : 0 ≤ x) (h2 : x ≤ mu.1 15 0 - 1) (hi : vp_in x (rLen 18)) : CT l yX6_next (Cond.code yX6_next cX6_next 2 (some .int)) 2 43 D Y A [.ref o, .int x] (WR D Y A o al mu) (fun _ : Unit => some (.int (mu.1 18 x.toNatClampNeg))) (fun _ : Unit => WR D Y A o al (rI mu 25 0 0)) noX 0 0 := by
  refine CT.of (by decide) (Nat.le_of_ble_eq_true rfl) ?_
  intro p_ e_ s_ m_ below_ meth_ c_ C0 K0 hr hlk htab hnm_
  refine k_aload_n C0 dX6_next_0 0 rfl ?_
  refine k_iload_n C0 dX6_next_1 1 rfl ?_
  refine k_callV C0 K0 dX6_next_2 (ct_isPlan1 l D Y A o al mu x h1 h2) gkX6_131 hyX6_isPlan (fun H hV => r_recv K0 hV) rfl (by exact Nat.le_of_ble_eq_true rfl) ⟨Nat.le_of_ble_eq_true rfl, Nat.le_of_ble_eq_true rfl⟩ ⟨Nat.le_of_ble_eq_true rfl, Nat.le_of_ble_eq_true rfl⟩ (fun E => kX_no E) (fun u => ?_)
  refine k_if_eq C0 17 dX6_next_5 (by decide) (fun zz => absurd zz (by decide)) (fun _ => ?_)
  refine k_aload_n C0 dX6_next_8 0 rfl ?_
  refine r_get C0 K0 18 dX6_next_9 (tC 234 rfl rfl) (by decide) rfl rfl ?_
  refine k_iload_n C0 dX6_next_12 1 rfl ?_
  refine r_iald C0 K0 18 dX6_next_13 (by decide) hi (v := mu.1 18 x.toNatClampNeg) (rI_tr (by decide) rfl) ?_
  refine k_goto C0 18 dX6_next_14 (by decide) ?_
  exact k_iret C0 dX6_next_18 hr hlk (Nat.le_of_ble_eq_true rfl) (Nat.le_of_ble_eq_true rfl) () rfl (fun H h => h)
set_option maxRecDepth 100000 in
set_option maxHeartbeats 4000000 in
theorem ct_next0 (l : Launch) (D : va_G) (Y : Nat → Nat) (A : Nat → Prop) (o : Nat) (al : Nat → Nat) (mu : Rm) (x : Int32) (h : ¬ (0 ≤ x ∧ x ≤ mu.1 15 0 - 1)) : CT l yX6_next (Cond.code yX6_next cX6_next 2 (some .int)) 2 43 D Y A [.ref o, .int x] (WR D Y A o al mu) (fun _ : Unit => some (.int 0)) (fun _ : Unit => WR D Y A o al (rI mu 25 0 1)) noX 0 0 := by
  refine CT.of (by decide) (Nat.le_of_ble_eq_true rfl) ?_
  intro p_ e_ s_ m_ below_ meth_ c_ C0 K0 hr hlk htab hnm_
  refine k_aload_n C0 dX6_next_0 0 rfl ?_
  refine k_iload_n C0 dX6_next_1 1 rfl ?_
  refine k_callV C0 K0 dX6_next_2 (ct_isPlan0 l D Y A o al mu x h) gkX6_131 hyX6_isPlan (fun H hV => r_recv K0 hV) rfl (by exact Nat.le_of_ble_eq_true rfl) ⟨Nat.le_of_ble_eq_true rfl, Nat.le_of_ble_eq_true rfl⟩ ⟨Nat.le_of_ble_eq_true rfl, Nat.le_of_ble_eq_true rfl⟩ (fun E => kX_no E) (fun u => ?_)
  refine k_if_eq C0 17 dX6_next_5 (by decide) (fun _ => ?_) (fun zz => absurd (by decide) zz)
  refine k_iconst C0 0 dX6_next_17 (by decide) ?_
  exact k_iret C0 dX6_next_18 hr hlk (Nat.le_of_ble_eq_true rfl) (Nat.le_of_ble_eq_true rfl) () rfl (fun H h => h)
set_option maxRecDepth 100000 in
set_option maxHeartbeats 4000000 in
theorem ct_carried1 (l : Launch) (D : va_G) (Y : Nat → Nat) (A : Nat → Prop) (o : Nat) (al : Nat → Nat) (mu : Rm) (x : Int32) (h1 : 0 ≤ x) (h2 : x ≤ mu.1 4 0 - 1) (hi : vp_in x (rLen 8)) : CT l yX6_carried (Cond.code yX6_carried cX6_carried 2 (some .int)) 2 43 D Y A [.ref o, .int x] (WR D Y A o al mu) (fun _ : Unit => some (.int (mu.1 8 x.toNatClampNeg))) (fun _ : Unit => WR D Y A o al (rI mu 25 0 0)) noX 0 0 := by
  refine CT.of (by decide) (Nat.le_of_ble_eq_true rfl) ?_
  intro p_ e_ s_ m_ below_ meth_ c_ C0 K0 hr hlk htab hnm_
  refine k_aload_n C0 dX6_carried_0 0 rfl ?_
  refine k_iload_n C0 dX6_carried_1 1 rfl ?_
  refine k_callV C0 K0 dX6_carried_2 (ct_isMaker1 l D Y A o al mu x h1 h2) gkX6_134 hyX6_isMaker (fun H hV => r_recv K0 hV) rfl (by exact Nat.le_of_ble_eq_true rfl) ⟨Nat.le_of_ble_eq_true rfl, Nat.le_of_ble_eq_true rfl⟩ ⟨Nat.le_of_ble_eq_true rfl, Nat.le_of_ble_eq_true rfl⟩ (fun E => kX_no E) (fun u => ?_)
  refine k_if_eq C0 17 dX6_carried_5 (by decide) (fun zz => absurd zz (by decide)) (fun _ => ?_)
  refine k_aload_n C0 dX6_carried_8 0 rfl ?_
  refine r_get C0 K0 8 dX6_carried_9 (tC 224 rfl rfl) (by decide) rfl rfl ?_
  refine k_iload_n C0 dX6_carried_12 1 rfl ?_
  refine r_iald C0 K0 8 dX6_carried_13 (by decide) hi (v := mu.1 8 x.toNatClampNeg) (rI_tr (by decide) rfl) ?_
  refine k_goto C0 18 dX6_carried_14 (by decide) ?_
  exact k_iret C0 dX6_carried_18 hr hlk (Nat.le_of_ble_eq_true rfl) (Nat.le_of_ble_eq_true rfl) () rfl (fun H h => h)
set_option maxRecDepth 100000 in
set_option maxHeartbeats 4000000 in
theorem ct_carried0 (l : Launch) (D : va_G) (Y : Nat → Nat) (A : Nat → Prop) (o : Nat) (al : Nat → Nat) (mu : Rm) (x : Int32) (h : ¬ (0 ≤ x ∧ x ≤ mu.1 4 0 - 1)) : CT l yX6_carried (Cond.code yX6_carried cX6_carried 2 (some .int)) 2 43 D Y A [.ref o, .int x] (WR D Y A o al mu) (fun _ : Unit => some (.int 0)) (fun _ : Unit => WR D Y A o al (rI mu 25 0 1)) noX 0 0 := by
  refine CT.of (by decide) (Nat.le_of_ble_eq_true rfl) ?_
  intro p_ e_ s_ m_ below_ meth_ c_ C0 K0 hr hlk htab hnm_
  refine k_aload_n C0 dX6_carried_0 0 rfl ?_
  refine k_iload_n C0 dX6_carried_1 1 rfl ?_
  refine k_callV C0 K0 dX6_carried_2 (ct_isMaker0 l D Y A o al mu x h) gkX6_134 hyX6_isMaker (fun H hV => r_recv K0 hV) rfl (by exact Nat.le_of_ble_eq_true rfl) ⟨Nat.le_of_ble_eq_true rfl, Nat.le_of_ble_eq_true rfl⟩ ⟨Nat.le_of_ble_eq_true rfl, Nat.le_of_ble_eq_true rfl⟩ (fun E => kX_no E) (fun u => ?_)
  refine k_if_eq C0 17 dX6_carried_5 (by decide) (fun _ => ?_) (fun zz => absurd (by decide) zz)
  refine k_iconst C0 0 dX6_carried_17 (by decide) ?_
  exact k_iret C0 dX6_carried_18 hr hlk (Nat.le_of_ble_eq_true rfl) (Nat.le_of_ble_eq_true rfl) () rfl (fun H h => h)
set_option maxRecDepth 100000 in
set_option maxHeartbeats 4000000 in
theorem ct_balance1 (l : Launch) (D : va_G) (Y : Nat → Nat) (A : Nat → Prop) (o : Nat) (al : Nat → Nat) (mu : Rm) (x : Int32) (h1 : 0 ≤ x) (h2 : x ≤ mu.1 4 0 - 1) (hi : vp_in x 6) : CT l yX6_balance (Cond.code yX6_balance cX6_balance 2 (some .int)) 2 43 D Y A [.ref o, .int x] (WR D Y A o al mu) (fun _ : Unit => some (.int ((mu.1 8 x.toNatClampNeg) + (mu.1 7 x.toNatClampNeg)))) (fun _ : Unit => WR D Y A o al (rI mu 25 0 0)) noX 0 0 := by
  refine CT.of (by decide) (Nat.le_of_ble_eq_true rfl) ?_
  intro p_ e_ s_ m_ below_ meth_ c_ C0 K0 hr hlk htab hnm_
  refine k_aload_n C0 dX6_balance_0 0 rfl ?_
  refine k_iload_n C0 dX6_balance_1 1 rfl ?_
  refine k_callV C0 K0 dX6_balance_2 (ct_isMaker1 l D Y A o al mu x h1 h2) gkX6_134 hyX6_isMaker (fun H hV => r_recv K0 hV) rfl (by exact Nat.le_of_ble_eq_true rfl) ⟨Nat.le_of_ble_eq_true rfl, Nat.le_of_ble_eq_true rfl⟩ ⟨Nat.le_of_ble_eq_true rfl, Nat.le_of_ble_eq_true rfl⟩ (fun E => kX_no E) (fun u => ?_)
  refine k_if_eq C0 24 dX6_balance_5 (by decide) (fun zz => absurd zz (by decide)) (fun _ => ?_)
  refine k_aload_n C0 dX6_balance_8 0 rfl ?_
  refine r_get C0 K0 8 dX6_balance_9 (tC 224 rfl rfl) (by decide) rfl rfl ?_
  refine k_iload_n C0 dX6_balance_12 1 rfl ?_
  refine r_iald C0 K0 8 dX6_balance_13 (by decide) hi (v := mu.1 8 x.toNatClampNeg) (rI_tr (by decide) rfl) ?_
  refine k_aload_n C0 dX6_balance_14 0 rfl ?_
  refine r_get C0 K0 7 dX6_balance_15 (tC 223 rfl rfl) (by decide) rfl rfl ?_
  refine k_iload_n C0 dX6_balance_18 1 rfl ?_
  refine r_iald C0 K0 7 dX6_balance_19 (by decide) hi (v := mu.1 7 x.toNatClampNeg) (rI_tr (by decide) rfl) ?_
  refine k_iadd C0 dX6_balance_20 ?_
  refine k_goto C0 25 dX6_balance_21 (by decide) ?_
  exact k_iret C0 dX6_balance_25 hr hlk (Nat.le_of_ble_eq_true rfl) (Nat.le_of_ble_eq_true rfl) () rfl (fun H h => h)
set_option maxRecDepth 100000 in
set_option maxHeartbeats 4000000 in
theorem ct_balance0 (l : Launch) (D : va_G) (Y : Nat → Nat) (A : Nat → Prop) (o : Nat) (al : Nat → Nat) (mu : Rm) (x : Int32) (h : ¬ (0 ≤ x ∧ x ≤ mu.1 4 0 - 1)) : CT l yX6_balance (Cond.code yX6_balance cX6_balance 2 (some .int)) 2 43 D Y A [.ref o, .int x] (WR D Y A o al mu) (fun _ : Unit => some (.int 0)) (fun _ : Unit => WR D Y A o al (rI mu 25 0 1)) noX 0 0 := by
  refine CT.of (by decide) (Nat.le_of_ble_eq_true rfl) ?_
  intro p_ e_ s_ m_ below_ meth_ c_ C0 K0 hr hlk htab hnm_
  refine k_aload_n C0 dX6_balance_0 0 rfl ?_
  refine k_iload_n C0 dX6_balance_1 1 rfl ?_
  refine k_callV C0 K0 dX6_balance_2 (ct_isMaker0 l D Y A o al mu x h) gkX6_134 hyX6_isMaker (fun H hV => r_recv K0 hV) rfl (by exact Nat.le_of_ble_eq_true rfl) ⟨Nat.le_of_ble_eq_true rfl, Nat.le_of_ble_eq_true rfl⟩ ⟨Nat.le_of_ble_eq_true rfl, Nat.le_of_ble_eq_true rfl⟩ (fun E => kX_no E) (fun u => ?_)
  refine k_if_eq C0 24 dX6_balance_5 (by decide) (fun _ => ?_) (fun zz => absurd (by decide) zz)
  refine k_iconst C0 0 dX6_balance_24 (by decide) ?_
  exact k_iret C0 dX6_balance_25 hr hlk (Nat.le_of_ble_eq_true rfl) (Nat.le_of_ble_eq_true rfl) () rfl (fun H h => h)
set_option maxRecDepth 100000 in
set_option maxHeartbeats 4000000 in
theorem ct_heldTax1 (l : Launch) (D : va_G) (Y : Nat → Nat) (A : Nat → Prop) (o : Nat) (al : Nat → Nat) (mu : Rm) (x : Int32) (h1 : 0 ≤ x) (h2 : x ≤ 4) (hi : vp_in x 5) : CT l yX6_heldTax (Cond.code yX6_heldTax cX6_heldTax 2 (some .int)) 1 22 D Y A [.ref o, .int x] (WR D Y A o al mu) (fun _ : Unit => some (.int (mu.1 3 x.toNatClampNeg))) (fun _ : Unit => WR D Y A o al (rI mu 25 0 0)) noX 0 0 := by
  refine CT.of (by decide) (Nat.le_of_ble_eq_true rfl) ?_
  intro p_ e_ s_ m_ below_ meth_ c_ C0 K0 hr hlk htab hnm_
  refine k_aload_n C0 dX6_heldTax_0 0 rfl ?_
  refine k_iload_n C0 dX6_heldTax_1 1 rfl ?_
  refine k_iconst C0 0 dX6_heldTax_2 (by decide) ?_
  refine k_iconst C0 4 dX6_heldTax_3 (by decide) ?_
  refine k_callS C0 K0 dX6_heldTax_4 (ct_in1 l D Y A _ x (0 : Int32) (4 : Int32) h1 h2) gkX6_69 hyX6_in rfl (by exact Nat.le_of_ble_eq_true rfl) ⟨Nat.le_of_ble_eq_true rfl, Nat.le_of_ble_eq_true rfl⟩ ⟨Nat.le_of_ble_eq_true rfl, Nat.le_of_ble_eq_true rfl⟩ (fun E => kX_no E) (fun u => ?_)
  refine k_if_eq C0 14 dX6_heldTax_7 (by decide) (fun zz => absurd zz (by decide)) (fun _ => ?_)
  refine k_iconst C0 0 dX6_heldTax_10 (by decide) ?_
  refine k_goto C0 15 dX6_heldTax_11 (by decide) ?_
  refine r_putS C0 K0 25 dX6_heldTax_15 (tD 1 rfl rfl) (by decide) rfl rfl (by decide +kernel) (rs_25 al _ _) (by decide) ?_
  refine k_aload_n C0 dX6_heldTax_18 0 rfl ?_
  refine r_getI C0 K0 25 0 dX6_heldTax_19 (tD 1 rfl rfl) (by decide) rfl (rg_25 al _) rI_at ?_
  refine k_if_ne C0 34 dX6_heldTax_22 (by decide) (fun zz => absurd (by decide) zz) (fun _ => ?_)
  refine k_aload_n C0 dX6_heldTax_25 0 rfl ?_
  refine r_get C0 K0 3 dX6_heldTax_26 (tC 219 rfl rfl) (by decide) rfl rfl ?_
  refine k_iload_n C0 dX6_heldTax_29 1 rfl ?_
  refine r_iald C0 K0 3 dX6_heldTax_30 (by decide) hi (v := mu.1 3 x.toNatClampNeg) (rI_tr (by decide) rfl) ?_
  refine k_goto C0 35 dX6_heldTax_31 (by decide) ?_
  exact k_iret C0 dX6_heldTax_35 hr hlk (Nat.le_of_ble_eq_true rfl) (Nat.le_of_ble_eq_true rfl) () rfl (fun H h => h)
set_option maxRecDepth 100000 in
set_option maxHeartbeats 4000000 in
theorem ct_heldTax0 (l : Launch) (D : va_G) (Y : Nat → Nat) (A : Nat → Prop) (o : Nat) (al : Nat → Nat) (mu : Rm) (x : Int32) (h : ¬ (0 ≤ x ∧ x ≤ 4)) : CT l yX6_heldTax (Cond.code yX6_heldTax cX6_heldTax 2 (some .int)) 1 22 D Y A [.ref o, .int x] (WR D Y A o al mu) (fun _ : Unit => some (.int 0)) (fun _ : Unit => WR D Y A o al (rI mu 25 0 1)) noX 0 0 := by
  refine CT.of (by decide) (Nat.le_of_ble_eq_true rfl) ?_
  intro p_ e_ s_ m_ below_ meth_ c_ C0 K0 hr hlk htab hnm_
  refine k_aload_n C0 dX6_heldTax_0 0 rfl ?_
  refine k_iload_n C0 dX6_heldTax_1 1 rfl ?_
  refine k_iconst C0 0 dX6_heldTax_2 (by decide) ?_
  refine k_iconst C0 4 dX6_heldTax_3 (by decide) ?_
  refine k_callS C0 K0 dX6_heldTax_4 (ct_in0 l D Y A _ x (0 : Int32) (4 : Int32) h) gkX6_69 hyX6_in rfl (by exact Nat.le_of_ble_eq_true rfl) ⟨Nat.le_of_ble_eq_true rfl, Nat.le_of_ble_eq_true rfl⟩ ⟨Nat.le_of_ble_eq_true rfl, Nat.le_of_ble_eq_true rfl⟩ (fun E => kX_no E) (fun u => ?_)
  refine k_if_eq C0 14 dX6_heldTax_7 (by decide) (fun _ => ?_) (fun zz => absurd (by decide) zz)
  refine k_iconst C0 1 dX6_heldTax_14 (by decide) ?_
  refine r_putS C0 K0 25 dX6_heldTax_15 (tD 1 rfl rfl) (by decide) rfl rfl (by decide +kernel) (rs_25 al _ _) (by decide) ?_
  refine k_aload_n C0 dX6_heldTax_18 0 rfl ?_
  refine r_getI C0 K0 25 1 dX6_heldTax_19 (tD 1 rfl rfl) (by decide) rfl (rg_25 al _) rI_at ?_
  refine k_if_ne C0 34 dX6_heldTax_22 (by decide) (fun _ => ?_) (fun zz => absurd zz (by decide))
  refine k_iconst C0 0 dX6_heldTax_34 (by decide) ?_
  exact k_iret C0 dX6_heldTax_35 hr hlk (Nat.le_of_ble_eq_true rfl) (Nat.le_of_ble_eq_true rfl) () rfl (fun H h => h)
set_option maxRecDepth 100000 in
set_option maxHeartbeats 4000000 in
theorem ct_setTax_ok (l : Launch) (D : va_G) (Y : Nat → Nat) (A : Nat → Prop) (o : Nat) (al : Nat → Nat) (mu : Rm) (a b h : Int32) (a1 : 0 ≤ a) (a2 : a ≤ 4) (b1 : 0 ≤ b) (b2 : b ≤ 30) (hi : vp_in a 5) : CT l yX6_setTax (Cond.code yX6_setTax cX6_setTax 5 (some .int)) 1 22 D Y A [.ref o, .int a, .int b, .int h] (WR D Y A o al mu) (fun _ : Unit => some (.int (mu.1 1 a.toNatClampNeg))) (fun _ : Unit => WR D Y A o al (rI (rI (rI mu 25 0 0) 1 a.toNatClampNeg b) 2 a.toNatClampNeg (if h = 0 then 1 else 0))) noX 0 0 := by
  refine CT.of (by decide) (Nat.le_of_ble_eq_true rfl) ?_
  intro p_ e_ s_ m_ below_ meth_ c_ C0 K0 hr hlk htab hnm_
  refine k_aload_n C0 dX6_setTax_0 0 rfl ?_
  refine k_iload_n C0 dX6_setTax_1 1 rfl ?_
  refine k_iconst C0 0 dX6_setTax_2 (by decide) ?_
  refine k_iconst C0 4 dX6_setTax_3 (by decide) ?_
  refine k_callS C0 K0 dX6_setTax_4 (ct_in1 l D Y A _ a (0 : Int32) (4 : Int32) a1 a2) gkX6_69 hyX6_in rfl (by exact Nat.le_of_ble_eq_true rfl) ⟨Nat.le_of_ble_eq_true rfl, Nat.le_of_ble_eq_true rfl⟩ ⟨Nat.le_of_ble_eq_true rfl, Nat.le_of_ble_eq_true rfl⟩ (fun E => kX_no E) (fun u => ?_)
  refine k_if_eq C0 24 dX6_setTax_7 (by decide) (fun zz => absurd zz (by decide)) (fun _ => ?_)
  refine k_iload_n C0 dX6_setTax_10 2 rfl ?_
  refine k_iconst C0 0 dX6_setTax_11 (by decide) ?_
  refine k_bipush C0 30 dX6_setTax_12 (by decide) ?_
  refine k_callS C0 K0 dX6_setTax_14 (ct_in1 l D Y A _ b (0 : Int32) (30 : Int32) b1 b2) gkX6_69 hyX6_in rfl (by exact Nat.le_of_ble_eq_true rfl) ⟨Nat.le_of_ble_eq_true rfl, Nat.le_of_ble_eq_true rfl⟩ ⟨Nat.le_of_ble_eq_true rfl, Nat.le_of_ble_eq_true rfl⟩ (fun E => kX_no E) (fun u => ?_)
  refine k_if_eq C0 24 dX6_setTax_17 (by decide) (fun zz => absurd zz (by decide)) (fun _ => ?_)
  refine k_iconst C0 0 dX6_setTax_20 (by decide) ?_
  refine k_goto C0 25 dX6_setTax_21 (by decide) ?_
  refine r_putS C0 K0 25 dX6_setTax_25 (tD 1 rfl rfl) (by decide) rfl rfl (by decide +kernel) (rs_25 al _ _) (by decide) ?_
  refine k_aload_n C0 dX6_setTax_28 0 rfl ?_
  refine r_getI C0 K0 25 0 dX6_setTax_29 (tD 1 rfl rfl) (by decide) rfl (rg_25 al _) rI_at ?_
  refine k_if_le C0 37 dX6_setTax_32 (by decide) (fun _ => ?_) (fun zz => absurd (by decide) zz)
  refine k_aload_n C0 dX6_setTax_37 0 rfl ?_
  refine r_get C0 K0 1 dX6_setTax_38 (tC 217 rfl rfl) (by decide) rfl rfl ?_
  refine k_iload_n C0 dX6_setTax_41 1 rfl ?_
  refine r_iald C0 K0 1 dX6_setTax_42 (by decide) hi (v := mu.1 1 a.toNatClampNeg) (rI_tr (by decide) rfl) ?_
  refine k_istore C0 [(4, _), (0, _), (1, _), (2, _), (3, _)] dX6_setTax_43 (by decide) rfl ?_
  refine k_aload_n C0 dX6_setTax_45 1 rfl ?_
  refine r_get C0 K0 1 dX6_setTax_46 (tC 217 rfl rfl) (by decide) rfl rfl ?_
  refine k_iload_n C0 dX6_setTax_49 2 rfl ?_
  refine k_iload_n C0 dX6_setTax_50 3 rfl ?_
  refine r_iast C0 K0 1 dX6_setTax_51 (by decide) hi ?_
  refine k_aload_n C0 dX6_setTax_52 1 rfl ?_
  refine r_get C0 K0 2 dX6_setTax_53 (tC 218 rfl rfl) (by decide) rfl rfl ?_
  refine k_iload_n C0 dX6_setTax_56 2 rfl ?_
  refine k_iload_n C0 dX6_setTax_57 4 rfl ?_
  refine k_if_eq C0 65 dX6_setTax_58 (by decide) (fun h58 => ?_) (fun h58 => ?_)
  ·
    refine k_iconst C0 1 dX6_setTax_65 (by decide) ?_
    refine r_iast C0 K0 2 dX6_setTax_66 (by decide) hi ?_
    refine k_iload C0 dX6_setTax_67 0 rfl ?_
    exact k_iret C0 dX6_setTax_69 hr hlk (Nat.le_of_ble_eq_true rfl) (Nat.le_of_ble_eq_true rfl) () rfl (by first | (rw [if_pos h58]; exact fun H h => h) | (rw [if_neg h58]; exact fun H h => h))
  ·
    refine k_iconst C0 0 dX6_setTax_61 (by decide) ?_
    refine k_goto C0 66 dX6_setTax_62 (by decide) ?_
    refine r_iast C0 K0 2 dX6_setTax_66 (by decide) hi ?_
    refine k_iload C0 dX6_setTax_67 0 rfl ?_
    exact k_iret C0 dX6_setTax_69 hr hlk (Nat.le_of_ble_eq_true rfl) (Nat.le_of_ble_eq_true rfl) () rfl (by first | (rw [if_pos h58]; exact fun H h => h) | (rw [if_neg h58]; exact fun H h => h))
set_option maxRecDepth 100000 in
set_option maxHeartbeats 4000000 in
theorem ct_setTax_1a (l : Launch) (D : va_G) (Y : Nat → Nat) (A : Nat → Prop) (o : Nat) (al : Nat → Nat) (mu : Rm) (a b h : Int32) (a1 : ¬ (0 ≤ a ∧ a ≤ 4)) : CT l yX6_setTax (Cond.code yX6_setTax cX6_setTax 5 (some .int)) 1 22 D Y A [.ref o, .int a, .int b, .int h] (WR D Y A o al mu) (fun _ : Unit => some (.int 0)) (fun _ : Unit => WR D Y A o al (rI mu 25 0 1)) noX 0 0 := by
  refine CT.of (by decide) (Nat.le_of_ble_eq_true rfl) ?_
  intro p_ e_ s_ m_ below_ meth_ c_ C0 K0 hr hlk htab hnm_
  refine k_aload_n C0 dX6_setTax_0 0 rfl ?_
  refine k_iload_n C0 dX6_setTax_1 1 rfl ?_
  refine k_iconst C0 0 dX6_setTax_2 (by decide) ?_
  refine k_iconst C0 4 dX6_setTax_3 (by decide) ?_
  refine k_callS C0 K0 dX6_setTax_4 (ct_in0 l D Y A _ a (0 : Int32) (4 : Int32) a1) gkX6_69 hyX6_in rfl (by exact Nat.le_of_ble_eq_true rfl) ⟨Nat.le_of_ble_eq_true rfl, Nat.le_of_ble_eq_true rfl⟩ ⟨Nat.le_of_ble_eq_true rfl, Nat.le_of_ble_eq_true rfl⟩ (fun E => kX_no E) (fun u => ?_)
  refine k_if_eq C0 24 dX6_setTax_7 (by decide) (fun _ => ?_) (fun zz => absurd (by decide) zz)
  refine k_iconst C0 1 dX6_setTax_24 (by decide) ?_
  refine r_putS C0 K0 25 dX6_setTax_25 (tD 1 rfl rfl) (by decide) rfl rfl (by decide +kernel) (rs_25 al _ _) (by decide) ?_
  refine k_aload_n C0 dX6_setTax_28 0 rfl ?_
  refine r_getI C0 K0 25 1 dX6_setTax_29 (tD 1 rfl rfl) (by decide) rfl (rg_25 al _) rI_at ?_
  refine k_if_le C0 37 dX6_setTax_32 (by decide) (fun zz => absurd zz (by decide)) (fun _ => ?_)
  refine k_iconst C0 0 dX6_setTax_35 (by decide) ?_
  exact k_iret C0 dX6_setTax_36 hr hlk (Nat.le_of_ble_eq_true rfl) (Nat.le_of_ble_eq_true rfl) () rfl (fun H h => h)
set_option maxRecDepth 100000 in
set_option maxHeartbeats 4000000 in
theorem ct_setTax_1b (l : Launch) (D : va_G) (Y : Nat → Nat) (A : Nat → Prop) (o : Nat) (al : Nat → Nat) (mu : Rm) (a b h : Int32) (a1 : 0 ≤ a) (a2 : a ≤ 4) (b1 : ¬ (0 ≤ b ∧ b ≤ 30)) : CT l yX6_setTax (Cond.code yX6_setTax cX6_setTax 5 (some .int)) 1 22 D Y A [.ref o, .int a, .int b, .int h] (WR D Y A o al mu) (fun _ : Unit => some (.int 0)) (fun _ : Unit => WR D Y A o al (rI mu 25 0 1)) noX 0 0 := by
  refine CT.of (by decide) (Nat.le_of_ble_eq_true rfl) ?_
  intro p_ e_ s_ m_ below_ meth_ c_ C0 K0 hr hlk htab hnm_
  refine k_aload_n C0 dX6_setTax_0 0 rfl ?_
  refine k_iload_n C0 dX6_setTax_1 1 rfl ?_
  refine k_iconst C0 0 dX6_setTax_2 (by decide) ?_
  refine k_iconst C0 4 dX6_setTax_3 (by decide) ?_
  refine k_callS C0 K0 dX6_setTax_4 (ct_in1 l D Y A _ a (0 : Int32) (4 : Int32) a1 a2) gkX6_69 hyX6_in rfl (by exact Nat.le_of_ble_eq_true rfl) ⟨Nat.le_of_ble_eq_true rfl, Nat.le_of_ble_eq_true rfl⟩ ⟨Nat.le_of_ble_eq_true rfl, Nat.le_of_ble_eq_true rfl⟩ (fun E => kX_no E) (fun u => ?_)
  refine k_if_eq C0 24 dX6_setTax_7 (by decide) (fun zz => absurd zz (by decide)) (fun _ => ?_)
  refine k_iload_n C0 dX6_setTax_10 2 rfl ?_
  refine k_iconst C0 0 dX6_setTax_11 (by decide) ?_
  refine k_bipush C0 30 dX6_setTax_12 (by decide) ?_
  refine k_callS C0 K0 dX6_setTax_14 (ct_in0 l D Y A _ b (0 : Int32) (30 : Int32) b1) gkX6_69 hyX6_in rfl (by exact Nat.le_of_ble_eq_true rfl) ⟨Nat.le_of_ble_eq_true rfl, Nat.le_of_ble_eq_true rfl⟩ ⟨Nat.le_of_ble_eq_true rfl, Nat.le_of_ble_eq_true rfl⟩ (fun E => kX_no E) (fun u => ?_)
  refine k_if_eq C0 24 dX6_setTax_17 (by decide) (fun _ => ?_) (fun zz => absurd (by decide) zz)
  refine k_iconst C0 1 dX6_setTax_24 (by decide) ?_
  refine r_putS C0 K0 25 dX6_setTax_25 (tD 1 rfl rfl) (by decide) rfl rfl (by decide +kernel) (rs_25 al _ _) (by decide) ?_
  refine k_aload_n C0 dX6_setTax_28 0 rfl ?_
  refine r_getI C0 K0 25 1 dX6_setTax_29 (tD 1 rfl rfl) (by decide) rfl (rg_25 al _) rI_at ?_
  refine k_if_le C0 37 dX6_setTax_32 (by decide) (fun zz => absurd zz (by decide)) (fun _ => ?_)
  refine k_iconst C0 0 dX6_setTax_35 (by decide) ?_
  exact k_iret C0 dX6_setTax_36 hr hlk (Nat.le_of_ble_eq_true rfl) (Nat.le_of_ble_eq_true rfl) () rfl (fun H h => h)
