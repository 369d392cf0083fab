def xE (E0 : String) (W : Heap → Prop) : String → Heap → Prop := fun E H => E = E0 ∧ W H
theorem WX.keep {D : va_G} {Y : Nat → Nat} {A : Nat → Prop} {sg : Sg} {al : Nat → Nat → Nat} {X : va_W} {H H' : Heap} (h : WX D Y A sg al X H) (oq : ∀ q : Nat, q < H.size → H'[q]? = H[q]?) : WX D Y A sg al X H' :=
  ⟨fun k i hl => ⟨(h.1 k i hl).1.kept (oq _ (h.1 k i hl).1.ltH), (h.1 k i hl).2⟩, h.2.1, h.2.2.1, fun j x hx => ⟨(h.2.2.2.1 j x hx).1.kept (oq _ (h.2.2.2.1 j x hx).1.ltH), (h.2.2.2.1 j x hx).2⟩, h.2.2.2.2⟩
theorem kG_no {p : Program} {l : Launch} {e : Env} {R : Room} {s : State} {m : MethodId} {args : Array Value} {below : List Frame} {meth : Method} {c : Code} {Q : State → Prop} {A : Nat → Prop} {nL k n pc : Nat} {lv : List (Nat × Value)} {st : List Value} : kG p l e R s m args below meth c Q A nL (fun _ => False) k n pc lv st := fun _ _ _ h => h.elim
theorem nz01 {h : Int32} (hb : h = 0 ∨ h = 1) : narrow .boolean (.int h) = .int h := by rcases hb with rfl | rfl <;> rfl
def c_book (sg : Sg) (i : Nat) (g : Int32) : Sg :=
  if sg.1 4 i 7 = 0 then sI (sI (sI sg 0 0 7 (sg.1 0 0 7 + g * sg.1 4 i 3)) 0 0 6 (sg.1 0 0 6 + g * sg.1 4 i 5)) 2 (sg.2 4 i 0) 3 (sg.1 2 (sg.2 4 i 0) 3 + g * sg.1 4 i 6)
  else sI (sI (sI (sI sg 0 0 7 (sg.1 0 0 7 + g * sg.1 4 i 3)) 0 0 6 (sg.1 0 0 6 + g * sg.1 4 i 5)) 2 (sg.2 4 i 0) 3 (sg.1 2 (sg.2 4 i 0) 3 + g * sg.1 4 i 6)) 1 (sg.2 4 i 1) 3 (sg.1 1 (sg.2 4 i 1) 3 + g * sg.1 4 i 4)
def c_settle (sg : Sg) (i : Nat) (mo : Int32) : Sg :=
  sI (sI (sI sg 6 i mo.toNatClampNeg (if 0 < sg.1 2 i 2 + sg.1 2 i 3 ∧ sg.1 2 i 0 ≤ sg.1 2 i 2 + sg.1 2 i 3 then sg.1 2 i 2 + sg.1 2 i 3 else 0)) 2 i 2 (if 0 < sg.1 2 i 2 + sg.1 2 i 3 ∧ sg.1 2 i 0 ≤ sg.1 2 i 2 + sg.1 2 i 3 then 0 else sg.1 2 i 2 + sg.1 2 i 3)) 2 i 3 0
def c_price (sg : Sg) (i j : Nat) : Int32 := sg.1 7 i (nI j).toNatClampNeg
def c_priceN (sg : Sg) (u : Nat) : Int32 := if ¬ sg.1 5 u 1 = 0 ∧ sg.1 5 u 5 = 0 then c_price sg (sg.2 5 u 2) (sg.2 5 u 0) / 2 else c_price sg (sg.2 5 u 2) (sg.2 5 u 0)
def c_count (sg : Sg) (u : Nat) (d : Int32) : Sg := sI (sI (sI sg 5 u 5 (sg.1 5 u 5 + 1)) 5 u 4 0) 5 u 6 (d + 30)
def c_fail (sg : Sg) (u : Nat) : Sg := sI (sI sg 5 u 4 (sg.1 5 u 4 + 1)) 5 u 6 (if sg.1 5 u 4 + 1 < 6 then sg.1 5 u 6 + 1 else -1)
theorem vp_ix {x : Int32} {N : Nat} {B : Int32} (h1 : ¬ x < 0) (h2 : x < B) (hB : B = nI N) (hN : N < 2 ^ 31) : vp_in x N := by
  obtain ⟨j, hj, rfl⟩ := nI_of h1
  rw [hB] at h2
  exact vp_in_nI ((nI_ltI hj hN).mp h2) hN
theorem ix_lt {x : Int32} {N : Nat} (h : vp_in x N) : x.toNatClampNeg < N := Nat.not_le.mp fun q => h (Or.inr q)
theorem fa_lt_ (a b : Int32) : a < b ↔ a.toInt < b.toInt := Int32.lt_iff_toInt_lt
theorem fa_le_ (a b : Int32) : a ≤ b ↔ a.toInt ≤ b.toInt := Int32.le_iff_toInt_le
theorem gkX1_28 : GoodIn TT (wsV RX1 28 yX1_currentBalance.cls yX1_currentBalance (Cond.code yX1_currentBalance cX1_currentBalance 1 (some .int) :: TT)) := goodTV (tC 62 rfl rfl) (tC 63 rfl rfl) (tC 64 rfl rfl) (tA 14 rfl rfl) (tC 65 rfl rfl)
theorem hyX1_currentBalance : yX1_currentBalance.cls ≠ "java/lang/invoke/MethodHandle" ∧ yX1_currentBalance.cls ≠ "java/lang/invoke/VarHandle" ∧ (parseMethodDescriptor yX1_currentBalance.desc).map (fun d => d.parameters.length) = some 0 := by decide +kernel
theorem gkX2_26 : GoodIn TT (wsV RX2 26 yX2_priceIn.cls yX2_priceIn (Cond.code yX2_priceIn cX2_priceIn 3 (some .int) :: TT)) := goodTV (tB 125 rfl rfl) (tB 126 rfl rfl) (tB 127 rfl rfl) (tA 19 rfl rfl) (tB 128 rfl rfl)
theorem hyX2_priceIn : yX2_priceIn.cls ≠ "java/lang/invoke/MethodHandle" ∧ yX2_priceIn.cls ≠ "java/lang/invoke/VarHandle" ∧ (parseMethodDescriptor yX2_priceIn.desc).map (fun d => d.parameters.length) = some 1 := by decide +kernel
theorem gkX4_36 : GoodIn TT (wsV RX4 36 yX2_priceIn.cls yX2_priceIn (Cond.code yX2_priceIn cX2_priceIn 3 (some .int) :: TT)) := goodTV (tC 90 rfl rfl) (tB 126 rfl rfl) (tB 127 rfl rfl) (tA 19 rfl rfl) (tB 128 rfl rfl)
theorem gkX4_42 : GoodIn TT (wsV RX4 42 yX4_end.cls yX4_end (Cond.code yX4_end cX4_end 1 none :: TT)) := goodTV (tC 82 rfl rfl) (tC 83 rfl rfl) (tC 84 rfl rfl) (tA 21 rfl rfl) (tC 85 rfl rfl)
theorem hyX4_end : yX4_end.cls ≠ "java/lang/invoke/MethodHandle" ∧ yX4_end.cls ≠ "java/lang/invoke/VarHandle" ∧ (parseMethodDescriptor yX4_end.desc).map (fun d => d.parameters.length) = some 0 := by decide +kernel
theorem gkX5_223 : GoodIn TT (wsV RX5 223 yX4_isEnded.cls yX4_isEnded (Cond.code yX4_isEnded cX4_isEnded 1 (some .boolean) :: TT)) := goodTV (tC 105 rfl rfl) (tC 106 rfl rfl) (tC 107 rfl rfl) (tA 21 rfl rfl) (tC 108 rfl rfl)
theorem hyX4_isEnded : yX4_isEnded.cls ≠ "java/lang/invoke/MethodHandle" ∧ yX4_isEnded.cls ≠ "java/lang/invoke/VarHandle" ∧ (parseMethodDescriptor yX4_isEnded.desc).map (fun d => d.parameters.length) = some 0 := by decide +kernel
set_option maxRecDepth 100000 in
set_option maxHeartbeats 4000000 in
theorem cc_taxIn (l : Launch) (D : va_G) (Y : Nat → Nat) (A : Nat → Prop) (sg : Sg) (al : Nat → Nat → Nat) (X : va_W) (i : Nat) (hi : i < 5) (v : Int32) (hd : 0 < 100 + sg.1 1 i 1) : CT l yX0_taxIn (Cond.code yX0_taxIn cX0_taxIn 3 (some .int)) 0 0 D Y A [.ref (al 1 i), .int v] (WX D Y A sg al X) (fun _ : Unit => some (.int ((v * (sg.1 1 i 1)) / (100 + (sg.1 1 i 1))))) (fun _ : Unit => WX D Y A sg al X) noX 0 0 := by
  refine CT.of (by decide) (Nat.le_of_ble_eq_true rfl) ?_
  intro p_ e_ s_ m_ below_ meth_ c_ C0 K0 hr hlk htab hnm_
  refine k_bipush C0 100 dX0_taxIn_0 (by decide) ?_
  refine k_aload_n C0 dX0_taxIn_2 0 rfl ?_
  refine c_getI C0 K0 1 i hi rfl inX0 rfl 1 (sg.1 1 i 1) (by decide) dX0_taxIn_3 (tA 65 rfl rfl) (fun _ h => h) rfl rfl ?_
  refine k_iadd C0 dX0_taxIn_6 ?_
  refine k_istore_n C0 [(2, _), (0, _), (1, _)] dX0_taxIn_7 (by decide) rfl ?_
  refine k_iload_n C0 dX0_taxIn_8 0 rfl ?_
  refine k_if_le C0 23 dX0_taxIn_9 (by decide) (fun zz => absurd zz (Int32.not_le.mpr hd)) (fun _ => ?_)
  refine k_iload_n C0 dX0_taxIn_12 2 rfl ?_
  refine k_aload_n C0 dX0_taxIn_13 1 rfl ?_
  refine c_getI C0 K0 1 i hi rfl inX0 rfl 1 (sg.1 1 i 1) (by decide) dX0_taxIn_14 (tA 65 rfl rfl) (fun _ h => h) rfl rfl ?_
  refine k_imul C0 dX0_taxIn_17 ?_
  refine k_iload_n C0 dX0_taxIn_18 0 rfl ?_
  refine k_idiv C0 dX0_taxIn_19 (fun e => absurd hd (by rw [e]; decide)) ?_
  refine k_goto C0 24 dX0_taxIn_20 (by decide) ?_
  exact k_iret C0 dX0_taxIn_24 hr hlk (Nat.le_of_ble_eq_true rfl) (Nat.le_of_ble_eq_true rfl) () rfl (fun H h => h)
set_option maxRecDepth 100000 in
set_option maxHeartbeats 4000000 in
theorem cc_currentBalance (l : Launch) (D : va_G) (Y : Nat → Nat) (A : Nat → Prop) (sg : Sg) (al : Nat → Nat → Nat) (X : va_W) (i : Nat) (hi : i < sN sg 2) : CT l yX1_currentBalance (Cond.code yX1_currentBalance cX1_currentBalance 1 (some .int)) 0 0 D Y A [.ref (al 2 i)] (WX D Y A sg al X) (fun _ : Unit => some (.int ((sg.1 2 i 2) + (sg.1 2 i 3)))) (fun _ : Unit => WX D Y A sg al X) noX 0 0 := by
  refine CT.of (by decide) (Nat.le_of_ble_eq_true rfl) ?_
  intro p_ e_ s_ m_ below_ meth_ c_ C0 K0 hr hlk htab hnm_
  refine k_aload_n C0 dX1_currentBalance_0 0 rfl ?_
  refine c_getI C0 K0 2 i hi rfl inX1 rfl 2 (sg.1 2 i 2) (by decide) dX1_currentBalance_1 (tA 222 rfl rfl) (fun _ h => h) rfl rfl ?_
  refine k_aload_n C0 dX1_currentBalance_4 0 rfl ?_
  refine c_getI C0 K0 2 i hi rfl inX1 rfl 3 (sg.1 2 i 3) (by decide) dX1_currentBalance_5 (tA 223 rfl rfl) (fun _ h => h) rfl rfl ?_
  refine k_iadd C0 dX1_currentBalance_8 ?_
  exact k_iret C0 dX1_currentBalance_9 hr hlk (Nat.le_of_ble_eq_true rfl) (Nat.le_of_ble_eq_true rfl) () rfl (fun H h => h)
set_option maxRecDepth 100000 in
set_option maxHeartbeats 4000000 in
theorem cc_settle (l : Launch) (D : va_G) (Y : Nat → Nat) (A : Nat → Prop) (sg : Sg) (al : Nat → Nat → Nat) (X : va_W) (i : Nat) (hi : i < sN sg 2) (j : Nat) (hj : j < 120) : CT l yX1_settle (Cond.code yX1_settle cX1_settle 4 none) 1 20 D Y A [.ref (al 2 i), .int (nI j)] (WX D Y A sg al X) (fun _ : Unit => none) (fun _ : Unit => WX D Y A (c_settle sg i (nI j)) al X) noX 0 0 := by
  refine CT.of (by decide) (Nat.le_of_ble_eq_true rfl) ?_
  intro p_ e_ s_ m_ below_ meth_ c_ C0 K0 hr hlk htab hnm_
  refine k_aload_n C0 dX1_settle_0 0 rfl ?_
  refine k_callV C0 K0 dX1_settle_1 (cc_currentBalance l D Y A sg al X i hi) gkX1_28 hyX1_currentBalance (c_recv (sg := sg) (al := al) K0 2 i hi rfl rfl) rfl (by exact Nat.le_of_ble_eq_true rfl) ⟨Nat.le_of_ble_eq_true rfl, Nat.le_of_ble_eq_true rfl⟩ ⟨Nat.le_of_ble_eq_true rfl, Nat.le_of_ble_eq_true rfl⟩ (fun E => kX_no E) (fun _ => ?_)
  refine k_istore_n C0 [(2, _), (0, _), (1, _)] dX1_settle_4 (by decide) rfl ?_
  refine k_iload_n C0 dX1_settle_5 0 rfl ?_
  refine k_if_le C0 21 dX1_settle_6 (by decide) (fun h6 => ?_) (fun h6 => ?_)
  ·
    refine k_iconst C0 0 dX1_settle_21 (by decide) ?_
    refine k_istore_n C0 [(3, _), (2, _), (0, _), (1, _)] dX1_settle_22 (by decide) rfl ?_
    refine k_iload_n C0 dX1_settle_23 3 rfl ?_
    refine k_if_lt C0 51 dX1_settle_24 (by decide) (fun zz => absurd zz (nI_pos (by omega))) (fun _ => ?_)
    refine k_iload_n C0 dX1_settle_27 3 rfl ?_
    refine k_aload_n C0 dX1_settle_28 2 rfl ?_
    refine c_get C0 K0 2 i hi rfl inX1 rfl 1 (.ref (al 6 i)) (by decide) dX1_settle_29 (tA 221 rfl rfl) (fun _ h => h) rfl ?_
    refine c_alen C0 K0 6 i hi rfl 0 rfl 120 rfl dX1_settle_32 ?_
    refine k_icmp_ge C0 51 dX1_settle_33 (by decide) (fun zz => absurd zz (nI_ge (a := j) (b := 120) hj (by decide))) (fun _ => ?_)
    refine k_aload_n C0 dX1_settle_36 2 rfl ?_
    refine c_get C0 K0 2 i hi rfl inX1 rfl 1 (.ref (al 6 i)) (by decide) dX1_settle_37 (tA 221 rfl rfl) (fun _ h => h) rfl ?_
    refine k_iload_n C0 dX1_settle_40 3 rfl ?_
    refine k_iload_n C0 dX1_settle_41 0 rfl ?_
    refine k_if_eq C0 49 dX1_settle_42 (by decide) (fun _ => ?_) (fun zz => absurd (by decide) zz)
    refine k_iconst C0 0 dX1_settle_49 (by decide) ?_
    refine c_iast C0 K0 6 i hi rfl (vp_in_nI hj (by decide)) dX1_settle_50 rfl ?_
    refine k_aload_n C0 dX1_settle_51 2 rfl ?_
    refine k_iload_n C0 dX1_settle_52 0 rfl ?_
    refine k_if_eq C0 60 dX1_settle_53 (by decide) (fun _ => ?_) (fun zz => absurd (by decide) zz)
    refine k_iload_n C0 dX1_settle_60 1 rfl ?_
    refine c_putI (sg := sI sg 6 i ((nI j).toNatClampNeg) 0) C0 K0 2 i hi (ty := .int) rfl inX1 rfl tyX1 tyX1_ok nmX1 2 (by decide) dX1_settle_61 (tA 222 rfl rfl) (fun _ h => h) rfl (by decide +kernel) rfl rfl (Nat.le_of_ble_eq_true rfl) rfl ?_
    refine k_aload_n C0 dX1_settle_64 2 rfl ?_
    refine k_iconst C0 0 dX1_settle_65 (by decide) ?_
    refine c_putI (sg := sI (sI sg 6 i ((nI j).toNatClampNeg) 0) 2 i 2 (sg.1 2 i 2 + sg.1 2 i 3)) C0 K0 2 i hi (ty := .int) rfl inX1 rfl tyX1 tyX1_ok nmX1 3 (by decide) dX1_settle_66 (tA 223 rfl rfl) (fun _ h => h) rfl (by decide +kernel) rfl rfl (Nat.le_of_ble_eq_true rfl) rfl ?_
    exact k_vret C0 dX1_settle_69 hr hlk (Nat.le_of_ble_eq_true rfl) (Nat.le_of_ble_eq_true rfl) () rfl (by unfold c_settle; first | (rw [if_neg (fun z => Int32.not_lt.mpr h6 z.1), if_neg (fun z => Int32.not_lt.mpr h6 z.1)]; exact fun H h => h) | (rw [if_neg (fun z => Int32.not_le.mpr h14 z.2), if_neg (fun z => Int32.not_le.mpr h14 z.2)]; exact fun H h => h) | (rw [if_pos ⟨Int32.not_le.mp h6, Int32.not_lt.mp h14⟩, if_pos ⟨Int32.not_le.mp h6, Int32.not_lt.mp h14⟩]; exact fun H h => h))
  ·
    refine k_iload_n C0 dX1_settle_9 0 rfl ?_
    refine k_aload_n C0 dX1_settle_10 1 rfl ?_
    refine c_getI C0 K0 2 i hi rfl inX1 rfl 0 (sg.1 2 i 0) (by decide) dX1_settle_11 (tA 220 rfl rfl) (fun _ h => h) rfl rfl ?_
    refine k_icmp_lt C0 21 dX1_settle_14 (by decide) (fun h14 => ?_) (fun h14 => ?_)
    ·
      refine k_iconst C0 0 dX1_settle_21 (by decide) ?_
      refine k_istore_n C0 [(3, _), (2, _), (0, _), (1, _)] dX1_settle_22 (by decide) rfl ?_
      refine k_iload_n C0 dX1_settle_23 3 rfl ?_
      refine k_if_lt C0 51 dX1_settle_24 (by decide) (fun zz => absurd zz (nI_pos (by omega))) (fun _ => ?_)
      refine k_iload_n C0 dX1_settle_27 3 rfl ?_
      refine k_aload_n C0 dX1_settle_28 2 rfl ?_
      refine c_get C0 K0 2 i hi rfl inX1 rfl 1 (.ref (al 6 i)) (by decide) dX1_settle_29 (tA 221 rfl rfl) (fun _ h => h) rfl ?_
      refine c_alen C0 K0 6 i hi rfl 0 rfl 120 rfl dX1_settle_32 ?_
      refine k_icmp_ge C0 51 dX1_settle_33 (by decide) (fun zz => absurd zz (nI_ge (a := j) (b := 120) hj (by decide))) (fun _ => ?_)
      refine k_aload_n C0 dX1_settle_36 2 rfl ?_
      refine c_get C0 K0 2 i hi rfl inX1 rfl 1 (.ref (al 6 i)) (by decide) dX1_settle_37 (tA 221 rfl rfl) (fun _ h => h) rfl ?_
      refine k_iload_n C0 dX1_settle_40 3 rfl ?_
      refine k_iload_n C0 dX1_settle_41 0 rfl ?_
      refine k_if_eq C0 49 dX1_settle_42 (by decide) (fun _ => ?_) (fun zz => absurd (by decide) zz)
      refine k_iconst C0 0 dX1_settle_49 (by decide) ?_
      refine c_iast C0 K0 6 i hi rfl (vp_in_nI hj (by decide)) dX1_settle_50 rfl ?_
      refine k_aload_n C0 dX1_settle_51 2 rfl ?_
      refine k_iload_n C0 dX1_settle_52 0 rfl ?_
      refine k_if_eq C0 60 dX1_settle_53 (by decide) (fun _ => ?_) (fun zz => absurd (by decide) zz)
      refine k_iload_n C0 dX1_settle_60 1 rfl ?_
      refine c_putI (sg := sI sg 6 i ((nI j).toNatClampNeg) 0) C0 K0 2 i hi (ty := .int) rfl inX1 rfl tyX1 tyX1_ok nmX1 2 (by decide) dX1_settle_61 (tA 222 rfl rfl) (fun _ h => h) rfl (by decide +kernel) rfl rfl (Nat.le_of_ble_eq_true rfl) rfl ?_
      refine k_aload_n C0 dX1_settle_64 2 rfl ?_
      refine k_iconst C0 0 dX1_settle_65 (by decide) ?_
      refine c_putI (sg := sI (sI sg 6 i ((nI j).toNatClampNeg) 0) 2 i 2 (sg.1 2 i 2 + sg.1 2 i 3)) C0 K0 2 i hi (ty := .int) rfl inX1 rfl tyX1 tyX1_ok nmX1 3 (by decide) dX1_settle_66 (tA 223 rfl rfl) (fun _ h => h) rfl (by decide +kernel) rfl rfl (Nat.le_of_ble_eq_true rfl) rfl ?_
      exact k_vret C0 dX1_settle_69 hr hlk (Nat.le_of_ble_eq_true rfl) (Nat.le_of_ble_eq_true rfl) () rfl (by unfold c_settle; first | (rw [if_neg (fun z => Int32.not_lt.mpr h6 z.1), if_neg (fun z => Int32.not_lt.mpr h6 z.1)]; exact fun H h => h) | (rw [if_neg (fun z => Int32.not_le.mpr h14 z.2), if_neg (fun z => Int32.not_le.mpr h14 z.2)]; exact fun H h => h) | (rw [if_pos ⟨Int32.not_le.mp h6, Int32.not_lt.mp h14⟩, if_pos ⟨Int32.not_le.mp h6, Int32.not_lt.mp h14⟩]; exact fun H h => h))
    ·
      refine k_iconst C0 1 dX1_settle_17 (by decide) ?_
      refine k_goto C0 22 dX1_settle_18 (by decide) ?_
      refine k_istore_n C0 [(3, _), (2, _), (0, _), (1, _)] dX1_settle_22 (by decide) rfl ?_
      refine k_iload_n C0 dX1_settle_23 3 rfl ?_
      refine k_if_lt C0 51 dX1_settle_24 (by decide) (fun zz => absurd zz (nI_pos (by omega))) (fun _ => ?_)
      refine k_iload_n C0 dX1_settle_27 3 rfl ?_
      refine k_aload_n C0 dX1_settle_28 2 rfl ?_
      refine c_get C0 K0 2 i hi rfl inX1 rfl 1 (.ref (al 6 i)) (by decide) dX1_settle_29 (tA 221 rfl rfl) (fun _ h => h) rfl ?_
      refine c_alen C0 K0 6 i hi rfl 0 rfl 120 rfl dX1_settle_32 ?_
      refine k_icmp_ge C0 51 dX1_settle_33 (by decide) (fun zz => absurd zz (nI_ge (a := j) (b := 120) hj (by decide))) (fun _ => ?_)
      refine k_aload_n C0 dX1_settle_36 2 rfl ?_
      refine c_get C0 K0 2 i hi rfl inX1 rfl 1 (.ref (al 6 i)) (by decide) dX1_settle_37 (tA 221 rfl rfl) (fun _ h => h) rfl ?_
      refine k_iload_n C0 dX1_settle_40 3 rfl ?_
      refine k_iload_n C0 dX1_settle_41 0 rfl ?_
      refine k_if_eq C0 49 dX1_settle_42 (by decide) (fun zz => absurd zz (by decide)) (fun _ => ?_)
      refine k_iload_n C0 dX1_settle_45 1 rfl ?_
      refine k_goto C0 50 dX1_settle_46 (by decide) ?_
      refine c_iast C0 K0 6 i hi rfl (vp_in_nI hj (by decide)) dX1_settle_50 rfl ?_
      refine k_aload_n C0 dX1_settle_51 2 rfl ?_
      refine k_iload_n C0 dX1_settle_52 0 rfl ?_
      refine k_if_eq C0 60 dX1_settle_53 (by decide) (fun zz => absurd zz (by decide)) (fun _ => ?_)
      refine k_iconst C0 0 dX1_settle_56 (by decide) ?_
      refine k_goto C0 61 dX1_settle_57 (by decide) ?_
      refine c_putI (sg := sI sg 6 i ((nI j).toNatClampNeg) (sg.1 2 i 2 + sg.1 2 i 3)) C0 K0 2 i hi (ty := .int) rfl inX1 rfl tyX1 tyX1_ok nmX1 2 (by decide) dX1_settle_61 (tA 222 rfl rfl) (fun _ h => h) rfl (by decide +kernel) rfl rfl (Nat.le_of_ble_eq_true rfl) rfl ?_
      refine k_aload_n C0 dX1_settle_64 2 rfl ?_
      refine k_iconst C0 0 dX1_settle_65 (by decide) ?_
      refine c_putI (sg := sI (sI sg 6 i ((nI j).toNatClampNeg) (sg.1 2 i 2 + sg.1 2 i 3)) 2 i 2 0) C0 K0 2 i hi (ty := .int) rfl inX1 rfl tyX1 tyX1_ok nmX1 3 (by decide) dX1_settle_66 (tA 223 rfl rfl) (fun _ h => h) rfl (by decide +kernel) rfl rfl (Nat.le_of_ble_eq_true rfl) rfl ?_
      exact k_vret C0 dX1_settle_69 hr hlk (Nat.le_of_ble_eq_true rfl) (Nat.le_of_ble_eq_true rfl) () rfl (by unfold c_settle; first | (rw [if_neg (fun z => Int32.not_lt.mpr h6 z.1), if_neg (fun z => Int32.not_lt.mpr h6 z.1)]; exact fun H h => h) | (rw [if_neg (fun z => Int32.not_le.mpr h14 z.2), if_neg (fun z => Int32.not_le.mpr h14 z.2)]; exact fun H h => h) | (rw [if_pos ⟨Int32.not_le.mp h6, Int32.not_lt.mp h14⟩, if_pos ⟨Int32.not_le.mp h6, Int32.not_lt.mp h14⟩]; exact fun H h => h))
set_option maxRecDepth 100000 in
set_option maxHeartbeats 4000000 in
theorem cc_payoutOf (l : Launch) (D : va_G) (Y : Nat → Nat) (A : Nat → Prop) (sg : Sg) (al : Nat → Nat → Nat) (X : va_W) (i : Nat) (hi : i < sN sg 2) (j : Nat) (hj : j < 120) : CT l yX1_payoutOf (Cond.code yX1_payoutOf cX1_payoutOf 2 (some .int)) 0 0 D Y A [.ref (al 2 i), .int (nI j)] (WX D Y A sg al X) (fun _ : Unit => some (.int (sg.1 6 i ((nI j).toNatClampNeg)))) (fun _ : Unit => WX D Y A sg al X) noX 0 0 := by
  refine CT.of (by decide) (Nat.le_of_ble_eq_true rfl) ?_
  intro p_ e_ s_ m_ below_ meth_ c_ C0 K0 hr hlk htab hnm_
  refine k_iload_n C0 dX1_payoutOf_0 1 rfl ?_
  refine k_if_lt C0 22 dX1_payoutOf_1 (by decide) (fun zz => absurd zz (nI_pos (by omega))) (fun _ => ?_)
  refine k_iload_n C0 dX1_payoutOf_4 1 rfl ?_
  refine k_aload_n C0 dX1_payoutOf_5 0 rfl ?_
  refine c_get C0 K0 2 i hi rfl inX1 rfl 1 (.ref (al 6 i)) (by decide) dX1_payoutOf_6 (tA 221 rfl rfl) (fun _ h => h) rfl ?_
  refine c_alen C0 K0 6 i hi rfl 0 rfl 120 rfl dX1_payoutOf_9 ?_
  refine k_icmp_ge C0 22 dX1_payoutOf_10 (by decide) (fun zz => absurd zz (nI_ge (a := j) (b := 120) hj (by decide))) (fun _ => ?_)
  refine k_aload_n C0 dX1_payoutOf_13 0 rfl ?_
  refine c_get C0 K0 2 i hi rfl inX1 rfl 1 (.ref (al 6 i)) (by decide) dX1_payoutOf_14 (tA 221 rfl rfl) (fun _ h => h) rfl ?_
  refine k_iload_n C0 dX1_payoutOf_17 1 rfl ?_
  refine c_iald C0 K0 6 i hi (v := sg.1 6 i ((nI j).toNatClampNeg)) rfl (vp_in_nI hj (by decide)) dX1_payoutOf_18 rfl ?_
  refine k_goto C0 23 dX1_payoutOf_19 (by decide) ?_
  exact k_iret C0 dX1_payoutOf_23 hr hlk (Nat.le_of_ble_eq_true rfl) (Nat.le_of_ble_eq_true rfl) () rfl (fun H h => h)
set_option maxRecDepth 100000 in
set_option maxHeartbeats 4000000 in
theorem cc_priceIn (l : Launch) (D : va_G) (Y : Nat → Nat) (A : Nat → Prop) (sg : Sg) (al : Nat → Nat → Nat) (X : va_W) (i : Nat) (hi : i < sN sg 3) (j : Nat) (hj : j < 5) : CT l yX2_priceIn (Cond.code yX2_priceIn cX2_priceIn 3 (some .int)) 0 0 D Y A [.ref (al 3 i), .ref (al 1 j)] (WX D Y A sg al X) (fun _ : Unit => some (.int (c_price sg i j))) (fun _ : Unit => WX D Y A sg al X) noX 0 0 := by
  refine CT.of (by decide) (Nat.le_of_ble_eq_true rfl) ?_
  intro p_ e_ s_ m_ below_ meth_ c_ C0 K0 hr hlk htab hnm_
  refine k_aload_n C0 dX2_priceIn_0 1 rfl ?_
  refine c_get C0 K0 1 j hj rfl inX0 rfl 0 (.int (nI j)) (by decide) dX2_priceIn_1 (tA 64 rfl rfl) (fun _ h => h) rfl ?_
  refine k_istore_n C0 [(2, _), (0, _), (1, _)] dX2_priceIn_4 (by decide) rfl ?_
  refine k_iload_n C0 dX2_priceIn_5 0 rfl ?_
  refine k_if_lt C0 27 dX2_priceIn_6 (by decide) (fun zz => absurd zz (nI_pos (by omega))) (fun _ => ?_)
  refine k_iload_n C0 dX2_priceIn_9 0 rfl ?_
  refine k_aload_n C0 dX2_priceIn_10 1 rfl ?_
  refine c_get C0 K0 3 i hi rfl inX2 rfl 2 (.ref (al 7 i)) (by decide) dX2_priceIn_11 (tB 104 rfl rfl) (fun _ h => h) rfl ?_
  refine c_alen C0 K0 7 i hi rfl 0 rfl 5 rfl dX2_priceIn_14 ?_
  refine k_icmp_ge C0 27 dX2_priceIn_15 (by decide) (fun zz => absurd zz (nI_ge (a := j) (b := 5) hj (by decide))) (fun _ => ?_)
  refine k_aload_n C0 dX2_priceIn_18 1 rfl ?_
  refine c_get C0 K0 3 i hi rfl inX2 rfl 2 (.ref (al 7 i)) (by decide) dX2_priceIn_19 (tB 104 rfl rfl) (fun _ h => h) rfl ?_
  refine k_iload_n C0 dX2_priceIn_22 0 rfl ?_
  refine c_iald C0 K0 7 i hi (v := sg.1 7 i ((nI j).toNatClampNeg)) rfl (vp_in_nI hj (by decide)) dX2_priceIn_23 rfl ?_
  refine k_goto C0 28 dX2_priceIn_24 (by decide) ?_
  exact k_iret C0 dX2_priceIn_28 hr hlk (Nat.le_of_ble_eq_true rfl) (Nat.le_of_ble_eq_true rfl) () rfl (fun H h => h)
set_option maxRecDepth 100000 in
set_option maxHeartbeats 4000000 in
theorem cc_changePrice (l : Launch) (D : va_G) (Y : Nat → Nat) (A : Nat → Prop) (sg : Sg) (al : Nat → Nat → Nat) (X : va_W) (i : Nat) (hi : i < sN sg 3) (j : Nat) (hj : j < 5) (v : Int32) : CT l yX2_changePrice (Cond.code yX2_changePrice cX2_changePrice 5 (some .int)) 1 22 D Y A [.ref (al 3 i), .ref (al 1 j), .int v] (WX D Y A sg al X) (fun _ : Unit => some (.int (c_price sg i j))) (fun _ : Unit => WX D Y A (sI sg 7 i ((nI j).toNatClampNeg) v) al X) noX 0 0 := by
  refine CT.of (by decide) (Nat.le_of_ble_eq_true rfl) ?_
  intro p_ e_ s_ m_ below_ meth_ c_ C0 K0 hr hlk htab hnm_
  refine k_aload_n C0 dX2_changePrice_0 0 rfl ?_
  refine k_aload_n C0 dX2_changePrice_1 1 rfl ?_
  refine k_callV C0 K0 dX2_changePrice_2 (cc_priceIn l D Y A sg al X i hi j hj) gkX2_26 hyX2_priceIn (c_recv (sg := sg) (al := al) K0 3 i hi rfl rfl) rfl (by exact Nat.le_of_ble_eq_true rfl) ⟨Nat.le_of_ble_eq_true rfl, Nat.le_of_ble_eq_true rfl⟩ ⟨Nat.le_of_ble_eq_true rfl, Nat.le_of_ble_eq_true rfl⟩ (fun E => kX_no E) (fun _ => ?_)
  refine k_istore_n C0 [(3, _), (0, _), (1, _), (2, _)] dX2_changePrice_5 (by decide) rfl ?_
  refine k_aload_n C0 dX2_changePrice_6 2 rfl ?_
  refine c_get C0 K0 1 j hj rfl inX0 rfl 0 (.int (nI j)) (by decide) dX2_changePrice_7 (tA 64 rfl rfl) (fun _ h => h) rfl ?_
  refine k_istore C0 [(4, _), (3, _), (0, _), (1, _), (2, _)] dX2_changePrice_10 (by decide) rfl ?_
  refine k_iload C0 dX2_changePrice_12 0 rfl ?_
  refine k_if_lt C0 35 dX2_changePrice_14 (by decide) (fun zz => absurd zz (nI_pos (by omega))) (fun _ => ?_)
  refine k_iload C0 dX2_changePrice_17 0 rfl ?_
  refine k_aload_n C0 dX2_changePrice_19 2 rfl ?_
  refine c_get C0 K0 3 i hi rfl inX2 rfl 2 (.ref (al 7 i)) (by decide) dX2_changePrice_20 (tB 104 rfl rfl) (fun _ h => h) rfl ?_
  refine c_alen C0 K0 7 i hi rfl 0 rfl 5 rfl dX2_changePrice_23 ?_
  refine k_icmp_ge C0 35 dX2_changePrice_24 (by decide) (fun zz => absurd zz (nI_ge (a := j) (b := 5) hj (by decide))) (fun _ => ?_)
  refine k_aload_n C0 dX2_changePrice_27 2 rfl ?_
  refine c_get C0 K0 3 i hi rfl inX2 rfl 2 (.ref (al 7 i)) (by decide) dX2_changePrice_28 (tB 104 rfl rfl) (fun _ h => h) rfl ?_
  refine k_iload C0 dX2_changePrice_31 0 rfl ?_
  refine k_iload_n C0 dX2_changePrice_33 4 rfl ?_
  refine c_iast C0 K0 7 i hi rfl (vp_in_nI hj (by decide)) dX2_changePrice_34 rfl ?_
  refine k_iload_n C0 dX2_changePrice_35 1 rfl ?_
  exact k_iret C0 dX2_changePrice_36 hr hlk (Nat.le_of_ble_eq_true rfl) (Nat.le_of_ble_eq_true rfl) () rfl (fun H h => h)
set_option maxRecDepth 100000 in
set_option maxHeartbeats 4000000 in
theorem cc_isEnded1 (l : Launch) (D : va_G) (Y : Nat → Nat) (A : Nat → Prop) (sg : Sg) (al : Nat → Nat → Nat) (X : va_W) (u : Nat) (hu : u < sN sg 5) (he : sg.1 5 u 6 = -1) : CT l yX4_isEnded (Cond.code yX4_isEnded cX4_isEnded 1 (some .boolean)) 0 0 D Y A [.ref (al 5 u)] (WX D Y A sg al X) (fun _ : Unit => some (.int 1)) (fun _ : Unit => WX D Y A sg al X) noX 0 0 := by
  refine CT.of (by decide) (Nat.le_of_ble_eq_true rfl) ?_
  intro p_ e_ s_ m_ below_ meth_ c_ C0 K0 hr hlk htab hnm_
  refine k_aload_n C0 dX4_isEnded_0 0 rfl ?_
  refine c_getI C0 K0 5 u hu rfl inX4 rfl 6 (sg.1 5 u 6) (by decide) dX4_isEnded_1 (tB 226 rfl rfl) (fun _ h => h) rfl rfl ?_
  refine k_iconst C0 (-1) dX4_isEnded_4 (by decide) ?_
  refine k_icmp_ne C0 12 dX4_isEnded_5 (by decide) (fun zz => absurd he zz) (fun _ => ?_)
  refine k_iconst C0 1 dX4_isEnded_8 (by decide) ?_
  refine k_goto C0 13 dX4_isEnded_9 (by decide) ?_
  exact k_zret C0 dX4_isEnded_13 hr rfl hlk (Nat.le_of_ble_eq_true rfl) (Nat.le_of_ble_eq_true rfl) () rfl (fun H h => h)
set_option maxRecDepth 100000 in
set_option maxHeartbeats 4000000 in
theorem cc_isEnded0 (l : Launch) (D : va_G) (Y : Nat → Nat) (A : Nat → Prop) (sg : Sg) (al : Nat → Nat → Nat) (X : va_W) (u : Nat) (hu : u < sN sg 5) (he : ¬ sg.1 5 u 6 = -1) : CT l yX4_isEnded (Cond.code yX4_isEnded cX4_isEnded 1 (some .boolean)) 0 0 D Y A [.ref (al 5 u)] (WX D Y A sg al X) (fun _ : Unit => some (.int 0)) (fun _ : Unit => WX D Y A sg al X) noX 0 0 := by
  refine CT.of (by decide) (Nat.le_of_ble_eq_true rfl) ?_
  intro p_ e_ s_ m_ below_ meth_ c_ C0 K0 hr hlk htab hnm_
  refine k_aload_n C0 dX4_isEnded_0 0 rfl ?_
  refine c_getI C0 K0 5 u hu rfl inX4 rfl 6 (sg.1 5 u 6) (by decide) dX4_isEnded_1 (tB 226 rfl rfl) (fun _ h => h) rfl rfl ?_
  refine k_iconst C0 (-1) dX4_isEnded_4 (by decide) ?_
  refine k_icmp_ne C0 12 dX4_isEnded_5 (by decide) (fun _ => ?_) (fun zz => absurd zz he)
  refine k_iconst C0 0 dX4_isEnded_12 (by decide) ?_
  exact k_zret C0 dX4_isEnded_13 hr rfl hlk (Nat.le_of_ble_eq_true rfl) (Nat.le_of_ble_eq_true rfl) () rfl (fun H h => h)
set_option maxRecDepth 100000 in
set_option maxHeartbeats 4000000 in
theorem cc_end (l : Launch) (D : va_G) (Y : Nat → Nat) (A : Nat → Prop) (sg : Sg) (al : Nat → Nat → Nat) (X : va_W) (u : Nat) (hu : u < sN sg 5)  : CT l yX4_end (Cond.code yX4_end cX4_end 1 none) 0 0 D Y A [.ref (al 5 u)] (WX D Y A sg al X) (fun _ : Unit => none) (fun _ : Unit => WX D Y A (sI sg 5 u 6 (-1)) al X) noX 0 0 := by
  refine CT.of (by decide) (Nat.le_of_ble_eq_true rfl) ?_
  intro p_ e_ s_ m_ below_ meth_ c_ C0 K0 hr hlk htab hnm_
  refine k_aload_n C0 dX4_end_0 0 rfl ?_
  refine k_iconst C0 (-1) dX4_end_1 (by decide) ?_
  refine c_putI C0 K0 5 u hu (ty := .int) rfl inX4 rfl tyX4 tyX4_ok nmX4 6 (by decide) dX4_end_2 (tB 226 rfl rfl) (fun _ h => h) rfl (by decide +kernel) rfl rfl (Nat.le_of_ble_eq_true rfl) rfl ?_
  exact k_vret C0 dX4_end_5 hr hlk (Nat.le_of_ble_eq_true rfl) (Nat.le_of_ble_eq_true rfl) () rfl (fun H h => h)
set_option maxRecDepth 100000 in
set_option maxHeartbeats 4000000 in
theorem cc_priceOfNext (l : Launch) (D : va_G) (Y : Nat → Nat) (A : Nat → Prop) (sg : Sg) (al : Nat → Nat → Nat) (X : va_W) (u : Nat) (hu : u < sN sg 5) (hp : sg.2 5 u 2 < sN sg 3) (hl_ : sg.2 5 u 0 < 5) : CT l yX4_priceOfNext (Cond.code yX4_priceOfNext cX4_priceOfNext 2 (some .int)) 1 22 D Y A [.ref (al 5 u)] (WX D Y A sg al X) (fun _ : Unit => some (.int (c_priceN sg u))) (fun _ : Unit => WX D Y A sg al X) noX 0 0 := by
  refine CT.of (by decide) (Nat.le_of_ble_eq_true rfl) ?_
  intro p_ e_ s_ m_ below_ meth_ c_ C0 K0 hr hlk htab hnm_
  refine k_aload_n C0 dX4_priceOfNext_0 0 rfl ?_
  refine c_get C0 K0 5 u hu rfl inX4 rfl 2 (.ref (al 3 (sg.2 5 u 2))) (by decide) dX4_priceOfNext_1 (tB 219 rfl rfl) (fun _ h => h) rfl ?_
  refine k_aload_n C0 dX4_priceOfNext_4 0 rfl ?_
  refine c_get C0 K0 5 u hu rfl inX4 rfl 0 (.ref (al 1 (sg.2 5 u 0))) (by decide) dX4_priceOfNext_5 (tB 216 rfl rfl) (fun _ h => h) rfl ?_
  refine k_callV C0 K0 dX4_priceOfNext_8 (cc_priceIn l D Y A sg al X (sg.2 5 u 2) hp (sg.2 5 u 0) hl_) gkX4_36 hyX2_priceIn (c_recv (sg := sg) (al := al) K0 3 (sg.2 5 u 2) hp rfl rfl) rfl (by exact Nat.le_of_ble_eq_true rfl) ⟨Nat.le_of_ble_eq_true rfl, Nat.le_of_ble_eq_true rfl⟩ ⟨Nat.le_of_ble_eq_true rfl, Nat.le_of_ble_eq_true rfl⟩ (fun E => kX_no E) (fun _ => ?_)
  refine k_istore_n C0 [(1, _), (0, _)] dX4_priceOfNext_11 (by decide) rfl ?_
  refine k_aload_n C0 dX4_priceOfNext_12 1 rfl ?_
  refine c_getI C0 K0 5 u hu rfl inX4 rfl 1 (sg.1 5 u 1) (by decide) dX4_priceOfNext_13 (tB 218 rfl rfl) (fun _ h => h) rfl rfl ?_
  refine k_if_eq C0 32 dX4_priceOfNext_16 (by decide) (fun h16 => ?_) (fun h16 => ?_)
  ·
    refine k_iload_n C0 dX4_priceOfNext_32 0 rfl ?_
    exact k_iret C0 dX4_priceOfNext_33 hr hlk (Nat.le_of_ble_eq_true rfl) (Nat.le_of_ble_eq_true rfl) () (by unfold c_priceN; first | (rw [if_neg (fun z => z.1 h16)]; done) | (rw [if_neg (fun z => h23 z.2)]; done) | (rw [if_pos ⟨h16, h23⟩]; done)) (fun H h => h)
  ·
    refine k_aload_n C0 dX4_priceOfNext_19 1 rfl ?_
    refine c_getI C0 K0 5 u hu rfl inX4 rfl 5 (sg.1 5 u 5) (by decide) dX4_priceOfNext_20 (tB 224 rfl rfl) (fun _ h => h) rfl rfl ?_
    refine k_if_ne C0 32 dX4_priceOfNext_23 (by decide) (fun h23 => ?_) (fun h23 => ?_)
    ·
      refine k_iload_n C0 dX4_priceOfNext_32 0 rfl ?_
      exact k_iret C0 dX4_priceOfNext_33 hr hlk (Nat.le_of_ble_eq_true rfl) (Nat.le_of_ble_eq_true rfl) () (by unfold c_priceN; first | (rw [if_neg (fun z => z.1 h16)]; done) | (rw [if_neg (fun z => h23 z.2)]; done) | (rw [if_pos ⟨h16, h23⟩]; done)) (fun H h => h)
    ·
      refine k_iload_n C0 dX4_priceOfNext_26 0 rfl ?_
      refine k_iconst C0 2 dX4_priceOfNext_27 (by decide) ?_
      refine k_idiv C0 dX4_priceOfNext_28 (by decide) ?_
      refine k_goto C0 33 dX4_priceOfNext_29 (by decide) ?_
      exact k_iret C0 dX4_priceOfNext_33 hr hlk (Nat.le_of_ble_eq_true rfl) (Nat.le_of_ble_eq_true rfl) () (by unfold c_priceN; first | (rw [if_neg (fun z => z.1 h16)]; done) | (rw [if_neg (fun z => h23 z.2)]; done) | (rw [if_pos ⟨h16, h23⟩]; done)) (fun H h => h)
set_option maxRecDepth 100000 in
set_option maxHeartbeats 4000000 in
theorem cc_countPayment (l : Launch) (D : va_G) (Y : Nat → Nat) (A : Nat → Prop) (sg : Sg) (al : Nat → Nat → Nat) (X : va_W) (u : Nat) (hu : u < sN sg 5) (d : Int32) : CT l yX4_countPayment (Cond.code yX4_countPayment cX4_countPayment 2 none) 0 0 D Y A [.ref (al 5 u), .int d] (WX D Y A sg al X) (fun _ : Unit => none) (fun _ : Unit => WX D Y A (c_count sg u d) al X) noX 0 0 := by
  refine CT.of (by decide) (Nat.le_of_ble_eq_true rfl) ?_
  intro p_ e_ s_ m_ below_ meth_ c_ C0 K0 hr hlk htab hnm_
  refine k_aload_n C0 dX4_countPayment_0 0 rfl ?_
  refine k_dup C0 dX4_countPayment_1 rfl ?_
  refine c_getI C0 K0 5 u hu rfl inX4 rfl 5 (sg.1 5 u 5) (by decide) dX4_countPayment_2 (tB 224 rfl rfl) (fun _ h => h) rfl rfl ?_
  refine k_iconst C0 1 dX4_countPayment_5 (by decide) ?_
  refine k_iadd C0 dX4_countPayment_6 ?_
  refine c_putI C0 K0 5 u hu (ty := .int) rfl inX4 rfl tyX4 tyX4_ok nmX4 5 (by decide) dX4_countPayment_7 (tB 224 rfl rfl) (fun _ h => h) rfl (by decide +kernel) rfl rfl (Nat.le_of_ble_eq_true rfl) rfl ?_
  refine k_aload_n C0 dX4_countPayment_10 0 rfl ?_
  refine k_iconst C0 0 dX4_countPayment_11 (by decide) ?_
  refine c_putI (sg := sI sg 5 u 5 ((sg.1 5 u 5) + 1)) C0 K0 5 u hu (ty := .int) rfl inX4 rfl tyX4 tyX4_ok nmX4 4 (by decide) dX4_countPayment_12 (tB 223 rfl rfl) (fun _ h => h) rfl (by decide +kernel) rfl rfl (Nat.le_of_ble_eq_true rfl) rfl ?_
  refine k_aload_n C0 dX4_countPayment_15 0 rfl ?_
  refine k_iload_n C0 dX4_countPayment_16 1 rfl ?_
  refine k_bipush C0 30 dX4_countPayment_17 (by decide) ?_
  refine k_iadd C0 dX4_countPayment_19 ?_
  refine c_putI (sg := sI (sI sg 5 u 5 ((sg.1 5 u 5) + 1)) 5 u 4 0) C0 K0 5 u hu (ty := .int) rfl inX4 rfl tyX4 tyX4_ok nmX4 6 (by decide) dX4_countPayment_20 (tB 226 rfl rfl) (fun _ h => h) rfl (by decide +kernel) rfl rfl (Nat.le_of_ble_eq_true rfl) rfl ?_
  exact k_vret C0 dX4_countPayment_23 hr hlk (Nat.le_of_ble_eq_true rfl) (Nat.le_of_ble_eq_true rfl) () rfl (fun H h => h)
set_option maxRecDepth 100000 in
set_option maxHeartbeats 4000000 in
theorem cc_fail (l : Launch) (D : va_G) (Y : Nat → Nat) (A : Nat → Prop) (sg : Sg) (al : Nat → Nat → Nat) (X : va_W) (u : Nat) (hu : u < sN sg 5)  : CT l yX4_fail (Cond.code yX4_fail cX4_fail 1 none) 1 20 D Y A [.ref (al 5 u)] (WX D Y A sg al X) (fun _ : Unit => none) (fun _ : Unit => WX D Y A (c_fail sg u) al X) noX 0 0 := by
  refine CT.of (by decide) (Nat.le_of_ble_eq_true rfl) ?_
  intro p_ e_ s_ m_ below_ meth_ c_ C0 K0 hr hlk htab hnm_
  refine k_aload_n C0 dX4_fail_0 0 rfl ?_
  refine k_dup C0 dX4_fail_1 rfl ?_
  refine c_getI C0 K0 5 u hu rfl inX4 rfl 4 (sg.1 5 u 4) (by decide) dX4_fail_2 (tB 223 rfl rfl) (fun _ h => h) rfl rfl ?_
  refine k_iconst C0 1 dX4_fail_5 (by decide) ?_
  refine k_iadd C0 dX4_fail_6 ?_
  refine c_putI C0 K0 5 u hu (ty := .int) rfl inX4 rfl tyX4 tyX4_ok nmX4 4 (by decide) dX4_fail_7 (tB 223 rfl rfl) (fun _ h => h) rfl (by decide +kernel) rfl rfl (Nat.le_of_ble_eq_true rfl) rfl ?_
  refine k_aload_n C0 dX4_fail_10 0 rfl ?_
  refine c_getI (sg := sI sg 5 u 4 ((sg.1 5 u 4) + 1)) C0 K0 5 u hu rfl inX4 rfl 4 ((sg.1 5 u 4) + 1) (by decide) dX4_fail_11 (tB 223 rfl rfl) (fun _ h => h) rfl up3_at ?_
  refine k_bipush C0 6 dX4_fail_14 (by decide) ?_
  refine k_icmp_lt C0 26 dX4_fail_16 (by decide) (fun h16 => ?_) (fun h16 => ?_)
  ·
    refine k_aload_n C0 dX4_fail_26 0 rfl ?_
    refine k_dup C0 dX4_fail_27 rfl ?_
    refine c_getI (sg := sI sg 5 u 4 ((sg.1 5 u 4) + 1)) C0 K0 5 u hu rfl inX4 rfl 6 (sg.1 5 u 6) (by decide) dX4_fail_28 (tB 226 rfl rfl) (fun _ h => h) rfl (up3_j (by decide) rfl) ?_
    refine k_iconst C0 1 dX4_fail_31 (by decide) ?_
    refine k_iadd C0 dX4_fail_32 ?_
    refine c_putI (sg := sI sg 5 u 4 ((sg.1 5 u 4) + 1)) C0 K0 5 u hu (ty := .int) rfl inX4 rfl tyX4 tyX4_ok nmX4 6 (by decide) dX4_fail_33 (tB 226 rfl rfl) (fun _ h => h) rfl (by decide +kernel) rfl rfl (Nat.le_of_ble_eq_true rfl) rfl ?_
    exact k_vret C0 dX4_fail_36 hr hlk (Nat.le_of_ble_eq_true rfl) (Nat.le_of_ble_eq_true rfl) () rfl (by unfold c_fail; first | (rw [if_pos h16]; exact fun H h => h) | (rw [if_neg h16]; exact fun H h => h))
  ·
    refine k_aload_n C0 dX4_fail_19 0 rfl ?_
    refine k_callV C0 K0 dX4_fail_20 (cc_end l D Y A (sI sg 5 u 4 ((sg.1 5 u 4) + 1)) al X u hu) gkX4_42 hyX4_end (c_recv (sg := sI sg 5 u 4 ((sg.1 5 u 4) + 1)) (al := al) K0 5 u hu rfl rfl) rfl (by exact Nat.le_of_ble_eq_true rfl) ⟨Nat.le_of_ble_eq_true rfl, Nat.le_of_ble_eq_true rfl⟩ ⟨Nat.le_of_ble_eq_true rfl, Nat.le_of_ble_eq_true rfl⟩ (fun E => kX_no E) (fun _ => ?_)
    refine k_goto C0 36 dX4_fail_23 (by decide) ?_
    exact k_vret C0 dX4_fail_36 hr hlk (Nat.le_of_ble_eq_true rfl) (Nat.le_of_ble_eq_true rfl) () rfl (by unfold c_fail; first | (rw [if_pos h16]; exact fun H h => h) | (rw [if_neg h16]; exact fun H h => h))
set_option maxRecDepth 100000 in
set_option maxHeartbeats 4000000 in
theorem cc_requireRange (l : Launch) (D : va_G) (Y : Nat → Nat) (A : Nat → Prop) (V : Heap → Prop) (x lo hi : Int32) (h1 : lo ≤ x) (h2 : x ≤ hi) : CT l yX5_requireRange (Cond.code yX5_requireRange cX5_requireRange 3 none) 0 0 D Y A [.int x, .int lo, .int hi] V (fun _ : Unit => none) (fun _ : Unit => V) noX 0 0 := by
  refine CT.of (by decide) (Nat.le_of_ble_eq_true rfl) ?_
  intro p_ e_ s_ m_ below_ meth_ c_ C0 K0 hr hlk htab hnm_
  refine k_iload_n C0 dX5_requireRange_0 0 rfl ?_
  refine k_iload_n C0 dX5_requireRange_1 1 rfl ?_
  refine k_icmp_lt C0 10 dX5_requireRange_2 (by decide) (fun zz => absurd zz (Int32.not_lt.mpr h1)) (fun _ => ?_)
  refine k_iload_n C0 dX5_requireRange_5 0 rfl ?_
  refine k_iload_n C0 dX5_requireRange_6 2 rfl ?_
  refine k_icmp_le C0 20 dX5_requireRange_7 (by decide) (fun _ => ?_) (fun zz => absurd h2 zz)
  exact k_vret C0 dX5_requireRange_20 hr hlk (Nat.le_of_ble_eq_true rfl) (Nat.le_of_ble_eq_true rfl) () rfl (fun H h => h)
set_option maxRecDepth 100000 in
set_option maxHeartbeats 4000000 in
theorem cx_requireRange (l : Launch) (D : va_G) (Y : Nat → Nat) (A : Nat → Prop) (sg : Sg) (al : Nat → Nat → Nat) (X : va_W) (hlt : l.stackTraces = false) (x lo hi : Int32) (h : ¬ (lo ≤ x ∧ x ≤ hi)) : CT l yX5_requireRange (Cond.code yX5_requireRange cX5_requireRange 3 none) 6 82 D Y A [.int x, .int lo, .int hi] (WX D Y A sg al X) (fun _ : Unit => none) (fun (_ : Unit) (_ : Heap) => False) (xE "java/lang/IllegalArgumentException" (WX D Y A sg al X)) 1 6 := by
  refine CT.of (by decide) (Nat.le_of_ble_eq_true rfl) ?_
  intro p_ e_ s_ m_ below_ meth_ c_ C0 K0 hr hlk htab hnm_
  refine k_iload_n C0 dX5_requireRange_0 0 rfl ?_
  refine k_iload_n C0 dX5_requireRange_1 1 rfl ?_
  refine k_icmp_lt C0 10 dX5_requireRange_2 (by decide) (fun h2 => ?_) (fun h2 => ?_)
  ·
    exact k_throwS C0 K0 hlt htab hlk rfl (text := "an argument is out of range") (by decide) (by decide +kernel) (tA 114 rfl rfl) (tA 9 rfl rfl) in_x0 in_y0 in_z0 (by decide) dX5_requireRange_10 dX5_requireRange_13 dX5_requireRange_14 dX5_requireRange_16 dX5_requireRange_19 (Nat.le_of_ble_eq_true rfl) (Nat.le_of_ble_eq_true rfl) (Nat.le_of_ble_eq_true rfl) (Nat.le_of_ble_eq_true rfl) (Nat.le_of_ble_eq_true rfl) (Nat.le_of_ble_eq_true rfl) rfl (fun H H2 hV _ oq => ⟨rfl, hV.keep oq⟩)
  ·
    refine k_iload_n C0 dX5_requireRange_5 0 rfl ?_
    refine k_iload_n C0 dX5_requireRange_6 2 rfl ?_
    refine k_icmp_le C0 20 dX5_requireRange_7 (by decide) (fun zz => absurd zz (fun q => h ⟨Int32.not_lt.mp h2, q⟩)) (fun _ => ?_)
    exact k_throwS C0 K0 hlt htab hlk rfl (text := "an argument is out of range") (by decide) (by decide +kernel) (tA 114 rfl rfl) (tA 9 rfl rfl) in_x0 in_y0 in_z0 (by decide) dX5_requireRange_10 dX5_requireRange_13 dX5_requireRange_14 dX5_requireRange_16 dX5_requireRange_19 (Nat.le_of_ble_eq_true rfl) (Nat.le_of_ble_eq_true rfl) (Nat.le_of_ble_eq_true rfl) (Nat.le_of_ble_eq_true rfl) (Nat.le_of_ble_eq_true rfl) (Nat.le_of_ble_eq_true rfl) rfl (fun H H2 hV _ oq => ⟨rfl, hV.keep oq⟩)
set_option maxRecDepth 100000 in
set_option maxHeartbeats 4000000 in
theorem cc_requireRoom (l : Launch) (D : va_G) (Y : Nat → Nat) (A : Nat → Prop) (V : Heap → Prop) (x y : Int32) (h : x < y) : CT l yX5_requireRoom (Cond.code yX5_requireRoom cX5_requireRoom 2 none) 0 0 D Y A [.int x, .int y] V (fun _ : Unit => none) (fun _ : Unit => V) noX 0 0 := by
  refine CT.of (by decide) (Nat.le_of_ble_eq_true rfl) ?_
  intro p_ e_ s_ m_ below_ meth_ c_ C0 K0 hr hlk htab hnm_
  refine k_iload_n C0 dX5_requireRoom_0 0 rfl ?_
  refine k_iload_n C0 dX5_requireRoom_1 1 rfl ?_
  refine k_icmp_lt C0 15 dX5_requireRoom_2 (by decide) (fun _ => ?_) (fun zz => absurd h zz)
  exact k_vret C0 dX5_requireRoom_15 hr hlk (Nat.le_of_ble_eq_true rfl) (Nat.le_of_ble_eq_true rfl) () rfl (fun H h => h)
set_option maxRecDepth 100000 in
set_option maxHeartbeats 4000000 in
theorem cx_requireRoom (l : Launch) (D : va_G) (Y : Nat → Nat) (A : Nat → Prop) (sg : Sg) (al : Nat → Nat → Nat) (X : va_W) (hlt : l.stackTraces = false) (x y : Int32) (h : ¬ x < y) : CT l yX5_requireRoom (Cond.code yX5_requireRoom cX5_requireRoom 2 none) 6 82 D Y A [.int x, .int y] (WX D Y A sg al X) (fun _ : Unit => none) (fun (_ : Unit) (_ : Heap) => False) (xE "java/lang/IllegalStateException" (WX D Y A sg al X)) 1 6 := by
  refine CT.of (by decide) (Nat.le_of_ble_eq_true rfl) ?_
  intro p_ e_ s_ m_ below_ meth_ c_ C0 K0 hr hlk htab hnm_
  refine k_iload_n C0 dX5_requireRoom_0 0 rfl ?_
  refine k_iload_n C0 dX5_requireRoom_1 1 rfl ?_
  refine k_icmp_lt C0 15 dX5_requireRoom_2 (by decide) (fun zz => absurd zz h) (fun _ => ?_)
  exact k_throwS C0 K0 hlt htab hlk rfl (text := "there are as many as there may be") (by decide) (by decide +kernel) (tA 198 rfl rfl) (tA 13 rfl rfl) in_x1 in_y1 in_z1 (by decide) dX5_requireRoom_5 dX5_requireRoom_8 dX5_requireRoom_9 dX5_requireRoom_11 dX5_requireRoom_14 (Nat.le_of_ble_eq_true rfl) (Nat.le_of_ble_eq_true rfl) (Nat.le_of_ble_eq_true rfl) (Nat.le_of_ble_eq_true rfl) (Nat.le_of_ble_eq_true rfl) (Nat.le_of_ble_eq_true rfl) rfl (fun H H2 hV _ oq => ⟨rfl, hV.keep oq⟩)
set_option maxRecDepth 100000 in
set_option maxHeartbeats 4000000 in
theorem cc_requireRunning (l : Launch) (D : va_G) (Y : Nat → Nat) (A : Nat → Prop) (sg : Sg) (al : Nat → Nat → Nat) (X : va_W) (u : Nat) (hu : u < sN sg 5) (he : ¬ sg.1 5 u 6 = -1) : CT l yX5_requireRunning (Cond.code yX5_requireRunning cX5_requireRunning 1 none) 1 20 D Y A [.ref (al 5 u)] (WX D Y A sg al X) (fun _ : Unit => none) (fun _ : Unit => WX D Y A sg al X) noX 0 0 := by
  refine CT.of (by decide) (Nat.le_of_ble_eq_true rfl) ?_
  intro p_ e_ s_ m_ below_ meth_ c_ C0 K0 hr hlk htab hnm_
  refine k_aload_n C0 dX5_requireRunning_0 0 rfl ?_
  refine k_callV C0 K0 dX5_requireRunning_1 (cc_isEnded0 l D Y A sg al X u hu he) gkX5_223 hyX4_isEnded (c_recv (sg := sg) (al := al) K0 5 u hu rfl rfl) rfl (by exact Nat.le_of_ble_eq_true rfl) ⟨Nat.le_of_ble_eq_true rfl, Nat.le_of_ble_eq_true rfl⟩ ⟨Nat.le_of_ble_eq_true rfl, Nat.le_of_ble_eq_true rfl⟩ (fun E => kX_no E) (fun _ => ?_)
  refine k_if_eq C0 17 dX5_requireRunning_4 (by decide) (fun _ => ?_) (fun zz => absurd (by decide) zz)
  exact k_vret C0 dX5_requireRunning_17 hr hlk (Nat.le_of_ble_eq_true rfl) (Nat.le_of_ble_eq_true rfl) () rfl (fun H h => h)
set_option maxRecDepth 100000 in
set_option maxHeartbeats 4000000 in
theorem cx_requireRunning (l : Launch) (D : va_G) (Y : Nat → Nat) (A : Nat → Prop) (sg : Sg) (al : Nat → Nat → Nat) (X : va_W) (hlt : l.stackTraces = false) (u : Nat) (hu : u < sN sg 5) (he : sg.1 5 u 6 = -1) : CT l yX5_requireRunning (Cond.code yX5_requireRunning cX5_requireRunning 1 none) 6 82 D Y A [.ref (al 5 u)] (WX D Y A sg al X) (fun _ : Unit => none) (fun (_ : Unit) (_ : Heap) => False) (xE "java/lang/IllegalStateException" (WX D Y A sg al X)) 1 6 := by
  refine CT.of (by decide) (Nat.le_of_ble_eq_true rfl) ?_
  intro p_ e_ s_ m_ below_ meth_ c_ C0 K0 hr hlk htab hnm_
  refine k_aload_n C0 dX5_requireRunning_0 0 rfl ?_
  refine k_callV C0 K0 dX5_requireRunning_1 (cc_isEnded1 l D Y A sg al X u hu he) gkX5_223 hyX4_isEnded (c_recv (sg := sg) (al := al) K0 5 u hu rfl rfl) rfl (by exact Nat.le_of_ble_eq_true rfl) ⟨Nat.le_of_ble_eq_true rfl, Nat.le_of_ble_eq_true rfl⟩ ⟨Nat.le_of_ble_eq_true rfl, Nat.le_of_ble_eq_true rfl⟩ (fun E => kX_no E) (fun _ => ?_)
  refine k_if_eq C0 17 dX5_requireRunning_4 (by decide) (fun zz => absurd zz (by decide)) (fun _ => ?_)
  exact k_throwS C0 K0 hlt htab hlk rfl (text := "the subscription has ended") (by decide) (by decide +kernel) (tA 198 rfl rfl) (tA 13 rfl rfl) in_x1 in_y1 in_z1 (by decide) dX5_requireRunning_7 dX5_requireRunning_10 dX5_requireRunning_11 dX5_requireRunning_13 dX5_requireRunning_16 (Nat.le_of_ble_eq_true rfl) (Nat.le_of_ble_eq_true rfl) (Nat.le_of_ble_eq_true rfl) (Nat.le_of_ble_eq_true rfl) (Nat.le_of_ble_eq_true rfl) (Nat.le_of_ble_eq_true rfl) rfl (fun H H2 hV _ oq => ⟨rfl, hV.keep oq⟩)
set_option maxRecDepth 100000 in
set_option maxHeartbeats 4000000 in
theorem cc_currentMonth (l : Launch) (D : va_G) (Y : Nat → Nat) (A : Nat → Prop) (sg : Sg) (al : Nat → Nat → Nat) (X : va_W)  : CT l yX5_currentMonth (Cond.code yX5_currentMonth cX5_currentMonth 1 (some .int)) 0 0 D Y A [.ref (al 0 0)] (WX D Y A sg al X) (fun _ : Unit => some (.int ((sg.1 0 0 5) / 30))) (fun _ : Unit => WX D Y A sg al X) noX 0 0 := by
  refine CT.of (by decide) (Nat.le_of_ble_eq_true rfl) ?_
  intro p_ e_ s_ m_ below_ meth_ c_ C0 K0 hr hlk htab hnm_
  refine k_aload_n C0 dX5_currentMonth_0 0 rfl ?_
  refine c_getI C0 K0 0 0 rfl rfl inX5 rfl 5 (sg.1 0 0 5) (by decide) dX5_currentMonth_1 (tA 86 rfl rfl) (fun _ h => h) rfl rfl ?_
  refine k_bipush C0 30 dX5_currentMonth_4 (by decide) ?_
  refine k_idiv C0 dX5_currentMonth_6 (by decide) ?_
  exact k_iret C0 dX5_currentMonth_7 hr hlk (Nat.le_of_ble_eq_true rfl) (Nat.le_of_ble_eq_true rfl) () rfl (fun H h => h)
set_option maxRecDepth 100000 in
set_option maxHeartbeats 4000000 in
theorem cc_landAt (l : Launch) (D : va_G) (Y : Nat → Nat) (A : Nat → Prop) (sg : Sg) (al : Nat → Nat → Nat) (X : va_W) (j : Nat) (hj : j < 5) : CT l yX5_landAt (Cond.code yX5_landAt cX5_landAt 2 (some (.object "ShopPaymaster$Land"))) 0 0 D Y A [.ref (al 0 0), .int (nI j)] (WX D Y A sg al X) (fun _ : Unit => some (.ref (al 1 j))) (fun _ : Unit => WX D Y A sg al X) noX 0 0 := by
  refine CT.of (by decide) (Nat.le_of_ble_eq_true rfl) ?_
  intro p_ e_ s_ m_ below_ meth_ c_ C0 K0 hr hlk htab hnm_
  refine k_iload_n C0 dX5_landAt_0 1 rfl ?_
  refine k_if_lt C0 13 dX5_landAt_1 (by decide) (fun zz => absurd zz (nI_pos (by omega))) (fun _ => ?_)
  refine k_iload_n C0 dX5_landAt_4 1 rfl ?_
  refine k_aload_n C0 dX5_landAt_5 0 rfl ?_
  refine c_get C0 K0 0 0 rfl rfl inX5 rfl 0 (.ref (al 8 0)) (by decide) dX5_landAt_6 (tA 81 rfl rfl) (fun _ h => h) rfl ?_
  refine c_alen C0 K0 8 0 rfl rfl 2 rfl 5 rfl dX5_landAt_9 ?_
  refine k_icmp_lt C0 23 dX5_landAt_10 (by decide) (fun _ => ?_) (fun zz => absurd (nI_lt (b := 5) hj (by decide)) zz)
  refine k_aload_n C0 dX5_landAt_23 0 rfl ?_
  refine c_get C0 K0 0 0 rfl rfl inX5 rfl 0 (.ref (al 8 0)) (by decide) dX5_landAt_24 (tA 81 rfl rfl) (fun _ h => h) rfl ?_
  refine k_iload_n C0 dX5_landAt_27 1 rfl ?_
  refine c_aald C0 K0 8 0 rfl (v := al 1 j) rfl 2 rfl (vp_in_nI hj (by decide)) dX5_landAt_28 (by rw [nI_clamp (by omega)]) ?_
  exact k_aret C0 dX5_landAt_29 hr (Or.inl ⟨_, rfl⟩) hlk (Nat.le_of_ble_eq_true rfl) (Nat.le_of_ble_eq_true rfl) () rfl (fun H h => h)
set_option maxRecDepth 100000 in
set_option maxHeartbeats 4000000 in
theorem cx_landAt (l : Launch) (D : va_G) (Y : Nat → Nat) (A : Nat → Prop) (sg : Sg) (al : Nat → Nat → Nat) (X : va_W) (hlt : l.stackTraces = false) (x : Int32) (h : ¬ (0 ≤ x ∧ x ≤ 4)) : CT l yX5_landAt (Cond.code yX5_landAt cX5_landAt 2 (some (.object "ShopPaymaster$Land"))) 6 82 D Y A [.ref (al 0 0), .int x] (WX D Y A sg al X) (fun _ : Unit => none) (fun (_ : Unit) (_ : Heap) => False) (xE "java/lang/IllegalArgumentException" (WX D Y A sg al X)) 1 6 := by
  refine CT.of (by decide) (Nat.le_of_ble_eq_true rfl) ?_
  intro p_ e_ s_ m_ below_ meth_ c_ C0 K0 hr hlk htab hnm_
  refine k_iload_n C0 dX5_landAt_0 1 rfl ?_
  refine k_if_lt C0 13 dX5_landAt_1 (by decide) (fun h1 => ?_) (fun h1 => ?_)
  ·
    exact k_throwS C0 K0 hlt htab hlk rfl (text := "no such land") (by decide) (by decide +kernel) (tA 114 rfl rfl) (tA 9 rfl rfl) in_x0 in_y0 in_z0 (by decide) dX5_landAt_13 dX5_landAt_16 dX5_landAt_17 dX5_landAt_19 dX5_landAt_22 (Nat.le_of_ble_eq_true rfl) (Nat.le_of_ble_eq_true rfl) (Nat.le_of_ble_eq_true rfl) (Nat.le_of_ble_eq_true rfl) (Nat.le_of_ble_eq_true rfl) (Nat.le_of_ble_eq_true rfl) rfl (fun H H2 hV _ oq => ⟨rfl, hV.keep oq⟩)
  ·
    refine k_iload_n C0 dX5_landAt_4 1 rfl ?_
    refine k_aload_n C0 dX5_landAt_5 0 rfl ?_
    refine c_get C0 K0 0 0 rfl rfl inX5 rfl 0 (.ref (al 8 0)) (by decide) dX5_landAt_6 (tA 81 rfl rfl) (fun _ h => h) rfl ?_
    refine c_alen C0 K0 8 0 rfl rfl 2 rfl 5 rfl dX5_landAt_9 ?_
    refine k_icmp_lt C0 23 dX5_landAt_10 (by decide) (fun zz => absurd zz (fun q => h ⟨Int32.not_lt.mp h1, (by rw [fa_le_]; have := (fa_lt_ _ _).mp q; exact Int.le_of_lt_add_one this)⟩)) (fun _ => ?_)
    exact k_throwS C0 K0 hlt htab hlk rfl (text := "no such land") (by decide) (by decide +kernel) (tA 114 rfl rfl) (tA 9 rfl rfl) in_x0 in_y0 in_z0 (by decide) dX5_landAt_13 dX5_landAt_16 dX5_landAt_17 dX5_landAt_19 dX5_landAt_22 (Nat.le_of_ble_eq_true rfl) (Nat.le_of_ble_eq_true rfl) (Nat.le_of_ble_eq_true rfl) (Nat.le_of_ble_eq_true rfl) (Nat.le_of_ble_eq_true rfl) (Nat.le_of_ble_eq_true rfl) rfl (fun H H2 hV _ oq => ⟨rfl, hV.keep oq⟩)
