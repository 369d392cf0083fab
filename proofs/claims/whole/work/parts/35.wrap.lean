/-! the law's wrappers -/
theorem gkL_7 : GoodIn TT (wsV RL 7 yX5_setTax.cls yX5_setTax (Cond.code yX5_setTax cX5_setTax 6 (some .int) :: TT)) := goodTV (tA 131 rfl rfl) (tA 132 rfl rfl) (tA 133 rfl rfl) (tA 1 rfl rfl) (tA 134 rfl rfl)
theorem hyX5_setTax : yX5_setTax.cls ≠ "java/lang/invoke/MethodHandle" ∧ yX5_setTax.cls ≠ "java/lang/invoke/VarHandle" ∧ (parseMethodDescriptor yX5_setTax.desc).map (fun d => d.parameters.length) = some 3 := by decide +kernel
theorem gkL_15 : GoodIn TT (wsV RL 15 yX5_addMaker.cls yX5_addMaker (Cond.code yX5_addMaker cX5_addMaker 2 (some .int) :: TT)) := goodTV (tA 215 rfl rfl) (tA 216 rfl rfl) (tA 217 rfl rfl) (tA 1 rfl rfl) (tA 218 rfl rfl)
theorem hyX5_addMaker : yX5_addMaker.cls ≠ "java/lang/invoke/MethodHandle" ∧ yX5_addMaker.cls ≠ "java/lang/invoke/VarHandle" ∧ (parseMethodDescriptor yX5_addMaker.desc).map (fun d => d.parameters.length) = some 1 := by decide +kernel
theorem gkL_21 : GoodIn TT (wsV RL 21 yX5_addProduct.cls yX5_addProduct (Cond.code yX5_addProduct cX5_addProduct 4 (some .int) :: TT)) := goodTV (tB 87 rfl rfl) (tB 88 rfl rfl) (tB 89 rfl rfl) (tA 1 rfl rfl) (tB 90 rfl rfl)
theorem hyX5_addProduct : yX5_addProduct.cls ≠ "java/lang/invoke/MethodHandle" ∧ yX5_addProduct.cls ≠ "java/lang/invoke/VarHandle" ∧ (parseMethodDescriptor yX5_addProduct.desc).map (fun d => d.parameters.length) = some 2 := by decide +kernel
theorem gkL_27 : GoodIn TT (wsV RL 27 yX5_setPrice.cls yX5_setPrice (Cond.code yX5_setPrice cX5_setPrice 6 (some .int) :: TT)) := goodTV (tB 147 rfl rfl) (tB 148 rfl rfl) (tB 149 rfl rfl) (tA 1 rfl rfl) (tB 150 rfl rfl)
theorem hyX5_setPrice : yX5_setPrice.cls ≠ "java/lang/invoke/MethodHandle" ∧ yX5_setPrice.cls ≠ "java/lang/invoke/VarHandle" ∧ (parseMethodDescriptor yX5_setPrice.desc).map (fun d => d.parameters.length) = some 3 := by decide +kernel
theorem gkL_31 : GoodIn TT (wsV RL 31 yX5_buy.cls yX5_buy (Cond.code yX5_buy cX5_buy 5 (some .int) :: TT)) := goodTV (tB 167 rfl rfl) (tB 168 rfl rfl) (tB 169 rfl rfl) (tA 1 rfl rfl) (tB 170 rfl rfl)
theorem hyX5_buy : yX5_buy.cls ≠ "java/lang/invoke/MethodHandle" ∧ yX5_buy.cls ≠ "java/lang/invoke/VarHandle" ∧ (parseMethodDescriptor yX5_buy.desc).map (fun d => d.parameters.length) = some 2 := by decide +kernel
theorem gkL_34 : GoodIn TT (wsV RL 34 yX5_refund.cls yX5_refund (Cond.code yX5_refund cX5_refund 3 (some .int) :: TT)) := goodTV (tB 234 rfl rfl) (tB 235 rfl rfl) (tB 236 rfl rfl) (tA 1 rfl rfl) (tB 237 rfl rfl)
theorem hyX5_refund : yX5_refund.cls ≠ "java/lang/invoke/MethodHandle" ∧ yX5_refund.cls ≠ "java/lang/invoke/VarHandle" ∧ (parseMethodDescriptor yX5_refund.desc).map (fun d => d.parameters.length) = some 1 := by decide +kernel
theorem gkL_37 : GoodIn TT (wsV RL 37 yX5_paid.cls yX5_paid (Cond.code yX5_paid cX5_paid 2 (some .int) :: TT)) := goodTV (tC 8 rfl rfl) (tC 9 rfl rfl) (tC 10 rfl rfl) (tA 1 rfl rfl) (tC 11 rfl rfl)
theorem hyX5_paid : yX5_paid.cls ≠ "java/lang/invoke/MethodHandle" ∧ yX5_paid.cls ≠ "java/lang/invoke/VarHandle" ∧ (parseMethodDescriptor yX5_paid.desc).map (fun d => d.parameters.length) = some 1 := by decide +kernel
theorem gkL_40 : GoodIn TT (wsV RL 40 yX5_tax.cls yX5_tax (Cond.code yX5_tax cX5_tax 2 (some .int) :: TT)) := goodTV (tC 15 rfl rfl) (tC 16 rfl rfl) (tC 17 rfl rfl) (tA 1 rfl rfl) (tC 18 rfl rfl)
theorem hyX5_tax : yX5_tax.cls ≠ "java/lang/invoke/MethodHandle" ∧ yX5_tax.cls ≠ "java/lang/invoke/VarHandle" ∧ (parseMethodDescriptor yX5_tax.desc).map (fun d => d.parameters.length) = some 1 := by decide +kernel
theorem gkL_43 : GoodIn TT (wsV RL 43 yX5_shopShare.cls yX5_shopShare (Cond.code yX5_shopShare cX5_shopShare 2 (some .int) :: TT)) := goodTV (tC 22 rfl rfl) (tC 23 rfl rfl) (tC 24 rfl rfl) (tA 1 rfl rfl) (tC 25 rfl rfl)
theorem hyX5_shopShare : yX5_shopShare.cls ≠ "java/lang/invoke/MethodHandle" ∧ yX5_shopShare.cls ≠ "java/lang/invoke/VarHandle" ∧ (parseMethodDescriptor yX5_shopShare.desc).map (fun d => d.parameters.length) = some 1 := by decide +kernel
theorem gkL_46 : GoodIn TT (wsV RL 46 yX5_makerPart.cls yX5_makerPart (Cond.code yX5_makerPart cX5_makerPart 2 (some .int) :: TT)) := goodTV (tC 29 rfl rfl) (tC 30 rfl rfl) (tC 31 rfl rfl) (tA 1 rfl rfl) (tC 32 rfl rfl)
theorem hyX5_makerPart : yX5_makerPart.cls ≠ "java/lang/invoke/MethodHandle" ∧ yX5_makerPart.cls ≠ "java/lang/invoke/VarHandle" ∧ (parseMethodDescriptor yX5_makerPart.desc).map (fun d => d.parameters.length) = some 1 := by decide +kernel
theorem gkL_49 : GoodIn TT (wsV RL 49 yX5_subscribe.cls yX5_subscribe (Cond.code yX5_subscribe cX5_subscribe 7 (some .int) :: TT)) := goodTV (tC 36 rfl rfl) (tC 37 rfl rfl) (tC 38 rfl rfl) (tA 1 rfl rfl) (tC 39 rfl rfl)
theorem hyX5_subscribe : yX5_subscribe.cls ≠ "java/lang/invoke/MethodHandle" ∧ yX5_subscribe.cls ≠ "java/lang/invoke/VarHandle" ∧ (parseMethodDescriptor yX5_subscribe.desc).map (fun d => d.parameters.length) = some 4 := by decide +kernel
theorem gkL_53 : GoodIn TT (wsV RL 53 yX5_move.cls yX5_move (Cond.code yX5_move cX5_move 6 (some .int) :: TT)) := goodTV (tC 76 rfl rfl) (tC 77 rfl rfl) (tC 78 rfl rfl) (tA 1 rfl rfl) (tC 79 rfl rfl)
theorem hyX5_move : yX5_move.cls ≠ "java/lang/invoke/MethodHandle" ∧ yX5_move.cls ≠ "java/lang/invoke/VarHandle" ∧ (parseMethodDescriptor yX5_move.desc).map (fun d => d.parameters.length) = some 2 := by decide +kernel
theorem gkL_56 : GoodIn TT (wsV RL 56 yX5_setFailing.cls yX5_setFailing (Cond.code yX5_setFailing cX5_setFailing 4 none :: TT)) := goodTV (tC 98 rfl rfl) (tC 99 rfl rfl) (tC 100 rfl rfl) (tA 1 rfl rfl) (tC 101 rfl rfl)
theorem hyX5_setFailing : yX5_setFailing.cls ≠ "java/lang/invoke/MethodHandle" ∧ yX5_setFailing.cls ≠ "java/lang/invoke/VarHandle" ∧ (parseMethodDescriptor yX5_setFailing.desc).map (fun d => d.parameters.length) = some 2 := by decide +kernel
theorem gkL_60 : GoodIn TT (wsV RL 60 yX5_cancel.cls yX5_cancel (Cond.code yX5_cancel cX5_cancel 3 (some .int) :: TT)) := goodTV (tC 105 rfl rfl) (tC 106 rfl rfl) (tC 107 rfl rfl) (tA 1 rfl rfl) (tC 108 rfl rfl)
theorem hyX5_cancel : yX5_cancel.cls ≠ "java/lang/invoke/MethodHandle" ∧ yX5_cancel.cls ≠ "java/lang/invoke/VarHandle" ∧ (parseMethodDescriptor yX5_cancel.desc).map (fun d => d.parameters.length) = some 1 := by decide +kernel
theorem gkL_63 : GoodIn TT (wsV RL 63 yX5_payments.cls yX5_payments (Cond.code yX5_payments cX5_payments 2 (some .int) :: TT)) := goodTV (tC 116 rfl rfl) (tC 117 rfl rfl) (tC 118 rfl rfl) (tA 1 rfl rfl) (tC 119 rfl rfl)
theorem hyX5_payments : yX5_payments.cls ≠ "java/lang/invoke/MethodHandle" ∧ yX5_payments.cls ≠ "java/lang/invoke/VarHandle" ∧ (parseMethodDescriptor yX5_payments.desc).map (fun d => d.parameters.length) = some 1 := by decide +kernel
theorem gkL_66 : GoodIn TT (wsV RL 66 yX5_next.cls yX5_next (Cond.code yX5_next cX5_next 2 (some .int) :: TT)) := goodTV (tC 123 rfl rfl) (tC 124 rfl rfl) (tC 125 rfl rfl) (tA 1 rfl rfl) (tC 126 rfl rfl)
theorem hyX5_next : yX5_next.cls ≠ "java/lang/invoke/MethodHandle" ∧ yX5_next.cls ≠ "java/lang/invoke/VarHandle" ∧ (parseMethodDescriptor yX5_next.desc).map (fun d => d.parameters.length) = some 1 := by decide +kernel
theorem gkL_69 : GoodIn TT (wsV RL 69 yX5_payout.cls yX5_payout (Cond.code yX5_payout cX5_payout 4 (some .int) :: TT)) := goodTV (tC 130 rfl rfl) (tC 131 rfl rfl) (tC 132 rfl rfl) (tA 1 rfl rfl) (tC 133 rfl rfl)
theorem hyX5_payout : yX5_payout.cls ≠ "java/lang/invoke/MethodHandle" ∧ yX5_payout.cls ≠ "java/lang/invoke/VarHandle" ∧ (parseMethodDescriptor yX5_payout.desc).map (fun d => d.parameters.length) = some 2 := by decide +kernel
theorem gkL_72 : GoodIn TT (wsV RL 72 yX5_carried.cls yX5_carried (Cond.code yX5_carried cX5_carried 2 (some .int) :: TT)) := goodTV (tC 141 rfl rfl) (tC 142 rfl rfl) (tC 143 rfl rfl) (tA 1 rfl rfl) (tC 144 rfl rfl)
theorem hyX5_carried : yX5_carried.cls ≠ "java/lang/invoke/MethodHandle" ∧ yX5_carried.cls ≠ "java/lang/invoke/VarHandle" ∧ (parseMethodDescriptor yX5_carried.desc).map (fun d => d.parameters.length) = some 1 := by decide +kernel
theorem gkL_75 : GoodIn TT (wsV RL 75 yX5_balance.cls yX5_balance (Cond.code yX5_balance cX5_balance 2 (some .int) :: TT)) := goodTV (tC 148 rfl rfl) (tC 149 rfl rfl) (tC 150 rfl rfl) (tA 1 rfl rfl) (tC 151 rfl rfl)
theorem hyX5_balance : yX5_balance.cls ≠ "java/lang/invoke/MethodHandle" ∧ yX5_balance.cls ≠ "java/lang/invoke/VarHandle" ∧ (parseMethodDescriptor yX5_balance.desc).map (fun d => d.parameters.length) = some 1 := by decide +kernel
theorem gkL_78 : GoodIn TT (wsV RL 78 yX5_heldTax.cls yX5_heldTax (Cond.code yX5_heldTax cX5_heldTax 2 (some .int) :: TT)) := goodTV (tC 159 rfl rfl) (tC 160 rfl rfl) (tC 161 rfl rfl) (tA 1 rfl rfl) (tC 162 rfl rfl)
theorem hyX5_heldTax : yX5_heldTax.cls ≠ "java/lang/invoke/MethodHandle" ∧ yX5_heldTax.cls ≠ "java/lang/invoke/VarHandle" ∧ (parseMethodDescriptor yX5_heldTax.desc).map (fun d => d.parameters.length) = some 1 := by decide +kernel
theorem gkL_81 : GoodIn TT (wsV RL 81 yX5_pass.cls yX5_pass (Cond.code yX5_pass cX5_pass 4 (some .int) :: TT)) := goodTV (tC 166 rfl rfl) (tC 167 rfl rfl) (tC 168 rfl rfl) (tA 1 rfl rfl) (tC 169 rfl rfl)
theorem hyX5_pass : yX5_pass.cls ≠ "java/lang/invoke/MethodHandle" ∧ yX5_pass.cls ≠ "java/lang/invoke/VarHandle" ∧ (parseMethodDescriptor yX5_pass.desc).map (fun d => d.parameters.length) = some 1 := by decide +kernel
set_option maxRecDepth 100000 in
set_option maxHeartbeats 4000000 in
theorem lo_setTax (l : Launch) (D : va_G) (Y : Nat → Nat) (A : Nat → Prop) (sg sg2 : Sg) (al : Nat → Nat → Nat) (o ao : Nat) (ar : Nat → Nat) (mu : Rm) (a b c : Int32) (r : Int32) {F LOC mc ms : Nat} (hF : F ≤ 13) (hL : LOC ≤ 310) (hM : CT l yX5_setTax (Cond.code yX5_setTax cX5_setTax 6 (some .int)) F LOC D Y A [.ref (al 0 0), .int a, .int b, .int c] (LWo D Y A sg al o ar mu ao lT) (fun _ : Nat → Nat → Nat => some (.int r)) (fun al' : Nat → Nat → Nat => fun H => al' 0 0 = al 0 0 ∧ LWo D Y A sg2 al' o ar mu ao lT H) noX mc ms) : CT l yL_setTax (Cond.codeWith yL_setTax cL_setTax 6 (some .int) [(0, 12, 15, 13)]) 14 340 D Y A [.ref (al 0 0), .int a, .int b, .int c, .ref ao] (LWo D Y A sg al o ar mu ao lT) (fun _ : Nat → Nat → Nat => some (.int 0)) (fun al' : Nat → Nat → Nat => fun H => al' 0 0 = al 0 0 ∧ LWo D Y A sg2 al' o ar mu ao (lP 0 r) H) noX mc ms := by
  refine CT.ofH (by decide) (Nat.le_of_ble_eq_true rfl) ?_
  intro p_ e_ s_ m_ below_ meth_ c_ C0 K0 hr hlk htab
  refine k_aload C0 dL_setTax_0 4 rfl ?_
  refine k_iconst C0 0 dL_setTax_2 (by decide) ?_
  refine k_aload_n C0 dL_setTax_3 0 rfl ?_
  refine k_iload_n C0 dL_setTax_4 1 rfl ?_
  refine k_iload_n C0 dL_setTax_5 2 rfl ?_
  refine k_iload_n C0 dL_setTax_6 3 rfl ?_
  refine k_callV C0 K0 dL_setTax_7 hM gkL_7 hyX5_setTax (lw_recv K0) rfl (by exact Nat.le_of_ble_eq_true rfl) ⟨Nat.succ_le_succ hF, show 8 + (6 + 11) + LOC ≤ 340 by omega⟩ ⟨Nat.le_of_eq (Nat.zero_add _), Nat.le_of_eq (Nat.zero_add _)⟩ (fun E => kX_no E) (fun al2 => ?_)
  refine k_ex (fun H h => h.1) (fun hal => ?_)
  refine k_W (fun H h => h.2) ?_
  refine k_i2l C0 dL_setTax_10 ?_
  refine k_lastO C0 K0 (P' := lP 0 r) dL_setTax_11 (fun _ => rfl) ?_
  refine k_goto C0 19 dL_setTax_12 (by decide) ?_
  refine k_iconst C0 0 dL_setTax_19 (by decide) ?_
  exact k_iret C0 dL_setTax_20 hr hlk (Nat.le_of_eq (Nat.zero_add _)) (Nat.le_of_eq (Nat.zero_add _)) al2 rfl (fun H h => ⟨hal, h⟩)
set_option maxRecDepth 100000 in
set_option maxHeartbeats 4000000 in
theorem lx_setTax_1 (l : Launch) (D : va_G) (Y : Nat → Nat) (A : Nat → Prop) (sg : Sg) (al : Nat → Nat → Nat) (o ao : Nat) (ar : Nat → Nat) (mu : Rm) (a b c : Int32) (r : Int32) {F LOC mc ms : Nat} (hF : F ≤ 13) (hL : LOC ≤ 310) (hM : CT l yX5_setTax (Cond.code yX5_setTax cX5_setTax 6 (some .int)) F LOC D Y A [.ref (al 0 0), .int a, .int b, .int c] (LWo D Y A sg al o ar mu ao lT) (fun _ : Unit => none) (fun (_ : Unit) (_ : Heap) => False) (xE "java/lang/IllegalArgumentException" (LWo D Y A sg al o ar mu ao lT)) mc ms) : CT l yL_setTax (Cond.codeWith yL_setTax cL_setTax 6 (some .int) [(0, 12, 15, 13)]) 14 340 D Y A [.ref (al 0 0), .int a, .int b, .int c, .ref ao] (LWo D Y A sg al o ar mu ao lT) (fun _ : Nat → Nat → Nat => some (.int 1)) (fun al' : Nat → Nat → Nat => fun H => al' 0 0 = al 0 0 ∧ LWo D Y A sg al' o ar mu ao (lP 1 r) H) noX mc ms := by
  refine CT.ofH (by decide) (Nat.le_of_ble_eq_true rfl) ?_
  intro p_ e_ s_ m_ below_ meth_ c_ C0 K0 hr hlk htab
  refine k_aload C0 dL_setTax_0 4 rfl ?_
  refine k_iconst C0 0 dL_setTax_2 (by decide) ?_
  refine k_aload_n C0 dL_setTax_3 0 rfl ?_
  refine k_iload_n C0 dL_setTax_4 1 rfl ?_
  refine k_iload_n C0 dL_setTax_5 2 rfl ?_
  refine k_iload_n C0 dL_setTax_6 3 rfl ?_
  refine k_callV C0 K0 dL_setTax_7 hM gkL_7 hyX5_setTax (lw_recv K0) rfl (by exact Nat.le_of_ble_eq_true rfl) ⟨Nat.succ_le_succ hF, show 8 + (6 + 11) + LOC ≤ 340 by omega⟩ ⟨Nat.le_of_eq (Nat.zero_add _), Nat.le_of_eq (Nat.zero_add _)⟩ (fun E => kX_xE ?_ E) (fun _ => fun _ _ _ h => h.elim)
  refine k_catch C0 K0 [] ⟨0, 12, 15, 13⟩ [] htab (fun _ h => absurd h List.not_mem_nil) (by decide) (by decide) (tA 130 rfl rfl) (by decide) (fun q => ?_)
  refine k_astore C0 [(5, _), (0, _), (1, _), (2, _), (3, _), (4, _)] dL_setTax_15 (by decide) rfl ?_
  refine k_iconst C0 1 dL_setTax_17 (by decide) ?_
  exact k_iret C0 dL_setTax_18 hr hlk (Nat.le_of_eq (Nat.zero_add _)) (Nat.le_of_eq (Nat.zero_add _)) al rfl (fun H h => ⟨rfl, (h.mono (fun v _ z => absurd z (by decide)))⟩)
set_option maxRecDepth 100000 in
set_option maxHeartbeats 4000000 in
theorem lo_addMaker (l : Launch) (D : va_G) (Y : Nat → Nat) (A : Nat → Prop) (sg sg2 : Sg) (al : Nat → Nat → Nat) (o ao : Nat) (ar : Nat → Nat) (mu : Rm) (a : Int32) (r : Int32) {F LOC mc ms : Nat} (hF : F ≤ 13) (hL : LOC ≤ 310) (hM : CT l yX5_addMaker (Cond.code yX5_addMaker cX5_addMaker 2 (some .int)) F LOC D Y A [.ref (al 0 0), .int a] (LWo D Y A sg al o ar mu ao lT) (fun _ : Nat → Nat → Nat => some (.int r)) (fun al' : Nat → Nat → Nat => fun H => al' 0 0 = al 0 0 ∧ LWo D Y A sg2 al' o ar mu ao lT H) noX mc ms) : CT l yL_addMaker (Cond.codeWith yL_addMaker cL_addMaker 4 (some .int) [(0, 9, 12, 13), (0, 9, 15, 19)]) 14 340 D Y A [.ref (al 0 0), .int a, .ref ao] (LWo D Y A sg al o ar mu ao lT) (fun _ : Nat → Nat → Nat => some (.int 0)) (fun al' : Nat → Nat → Nat => fun H => al' 0 0 = al 0 0 ∧ LWo D Y A sg2 al' o ar mu ao (lP 0 r) H) noX mc ms := by
  refine CT.ofH (by decide) (Nat.le_of_ble_eq_true rfl) ?_
  intro p_ e_ s_ m_ below_ meth_ c_ C0 K0 hr hlk htab
  refine k_aload_n C0 dL_addMaker_0 2 rfl ?_
  refine k_iconst C0 0 dL_addMaker_1 (by decide) ?_
  refine k_aload_n C0 dL_addMaker_2 0 rfl ?_
  refine k_iload_n C0 dL_addMaker_3 1 rfl ?_
  refine k_callV C0 K0 dL_addMaker_4 hM gkL_15 hyX5_addMaker (lw_recv K0) rfl (by exact Nat.le_of_ble_eq_true rfl) ⟨Nat.succ_le_succ hF, show 8 + (2 + 11) + LOC ≤ 340 by omega⟩ ⟨Nat.le_of_eq (Nat.zero_add _), Nat.le_of_eq (Nat.zero_add _)⟩ (fun E => kX_no E) (fun al2 => ?_)
  refine k_ex (fun H h => h.1) (fun hal => ?_)
  refine k_W (fun H h => h.2) ?_
  refine k_i2l C0 dL_addMaker_7 ?_
  refine k_lastO C0 K0 (P' := lP 0 r) dL_addMaker_8 (fun _ => rfl) ?_
  refine k_goto C0 18 dL_addMaker_9 (by decide) ?_
  refine k_iconst C0 0 dL_addMaker_18 (by decide) ?_
  exact k_iret C0 dL_addMaker_19 hr hlk (Nat.le_of_eq (Nat.zero_add _)) (Nat.le_of_eq (Nat.zero_add _)) al2 rfl (fun H h => ⟨hal, h⟩)
set_option maxRecDepth 100000 in
set_option maxHeartbeats 4000000 in
theorem lx_addMaker_1 (l : Launch) (D : va_G) (Y : Nat → Nat) (A : Nat → Prop) (sg : Sg) (al : Nat → Nat → Nat) (o ao : Nat) (ar : Nat → Nat) (mu : Rm) (a : Int32) (r : Int32) {F LOC mc ms : Nat} (hF : F ≤ 13) (hL : LOC ≤ 310) (hM : CT l yX5_addMaker (Cond.code yX5_addMaker cX5_addMaker 2 (some .int)) F LOC D Y A [.ref (al 0 0), .int a] (LWo D Y A sg al o ar mu ao lT) (fun _ : Unit => none) (fun (_ : Unit) (_ : Heap) => False) (xE "java/lang/IllegalArgumentException" (LWo D Y A sg al o ar mu ao lT)) mc ms) : CT l yL_addMaker (Cond.codeWith yL_addMaker cL_addMaker 4 (some .int) [(0, 9, 12, 13), (0, 9, 15, 19)]) 14 340 D Y A [.ref (al 0 0), .int a, .ref ao] (LWo D Y A sg al o ar mu ao lT) (fun _ : Nat → Nat → Nat => some (.int 1)) (fun al' : Nat → Nat → Nat => fun H => al' 0 0 = al 0 0 ∧ LWo D Y A sg al' o ar mu ao (lP 1 r) H) noX mc ms := by
  refine CT.ofH (by decide) (Nat.le_of_ble_eq_true rfl) ?_
  intro p_ e_ s_ m_ below_ meth_ c_ C0 K0 hr hlk htab
  refine k_aload_n C0 dL_addMaker_0 2 rfl ?_
  refine k_iconst C0 0 dL_addMaker_1 (by decide) ?_
  refine k_aload_n C0 dL_addMaker_2 0 rfl ?_
  refine k_iload_n C0 dL_addMaker_3 1 rfl ?_
  refine k_callV C0 K0 dL_addMaker_4 hM gkL_15 hyX5_addMaker (lw_recv K0) rfl (by exact Nat.le_of_ble_eq_true rfl) ⟨Nat.succ_le_succ hF, show 8 + (2 + 11) + LOC ≤ 340 by omega⟩ ⟨Nat.le_of_eq (Nat.zero_add _), Nat.le_of_eq (Nat.zero_add _)⟩ (fun E => kX_xE ?_ E) (fun _ => fun _ _ _ h => h.elim)
  refine k_catch C0 K0 [] ⟨0, 9, 12, 13⟩ [⟨0, 9, 15, 19⟩] htab (fun _ h => absurd h List.not_mem_nil) (by decide) (by decide) (tA 130 rfl rfl) (by decide) (fun q => ?_)
  refine k_astore_n C0 [(3, _), (0, _), (1, _), (2, _)] dL_addMaker_12 (by decide) rfl ?_
  refine k_iconst C0 1 dL_addMaker_13 (by decide) ?_
  exact k_iret C0 dL_addMaker_14 hr hlk (Nat.le_of_eq (Nat.zero_add _)) (Nat.le_of_eq (Nat.zero_add _)) al rfl (fun H h => ⟨rfl, (h.mono (fun v _ z => absurd z (by decide)))⟩)
set_option maxRecDepth 100000 in
set_option maxHeartbeats 4000000 in
theorem lx_addMaker_2 (l : Launch) (D : va_G) (Y : Nat → Nat) (A : Nat → Prop) (sg : Sg) (al : Nat → Nat → Nat) (o ao : Nat) (ar : Nat → Nat) (mu : Rm) (a : Int32) (r : Int32) {F LOC mc ms : Nat} (hF : F ≤ 13) (hL : LOC ≤ 310) (hM : CT l yX5_addMaker (Cond.code yX5_addMaker cX5_addMaker 2 (some .int)) F LOC D Y A [.ref (al 0 0), .int a] (LWo D Y A sg al o ar mu ao lT) (fun _ : Unit => none) (fun (_ : Unit) (_ : Heap) => False) (xE "java/lang/IllegalStateException" (LWo D Y A sg al o ar mu ao lT)) mc ms) : CT l yL_addMaker (Cond.codeWith yL_addMaker cL_addMaker 4 (some .int) [(0, 9, 12, 13), (0, 9, 15, 19)]) 14 340 D Y A [.ref (al 0 0), .int a, .ref ao] (LWo D Y A sg al o ar mu ao lT) (fun _ : Nat → Nat → Nat => some (.int 2)) (fun al' : Nat → Nat → Nat => fun H => al' 0 0 = al 0 0 ∧ LWo D Y A sg al' o ar mu ao (lP 2 r) H) noX mc ms := by
  refine CT.ofH (by decide) (Nat.le_of_ble_eq_true rfl) ?_
  intro p_ e_ s_ m_ below_ meth_ c_ C0 K0 hr hlk htab
  refine k_aload_n C0 dL_addMaker_0 2 rfl ?_
  refine k_iconst C0 0 dL_addMaker_1 (by decide) ?_
  refine k_aload_n C0 dL_addMaker_2 0 rfl ?_
  refine k_iload_n C0 dL_addMaker_3 1 rfl ?_
  refine k_callV C0 K0 dL_addMaker_4 hM gkL_15 hyX5_addMaker (lw_recv K0) rfl (by exact Nat.le_of_ble_eq_true rfl) ⟨Nat.succ_le_succ hF, show 8 + (2 + 11) + LOC ≤ 340 by omega⟩ ⟨Nat.le_of_eq (Nat.zero_add _), Nat.le_of_eq (Nat.zero_add _)⟩ (fun E => kX_xE ?_ E) (fun _ => fun _ _ _ h => h.elim)
  refine k_catch C0 K0 [⟨0, 9, 12, 13⟩] ⟨0, 9, 15, 19⟩ [] htab (List.forall_mem_cons.mpr ⟨Or.inr ⟨by decide, "java/lang/IllegalArgumentException", (tA 130 rfl rfl), by decide⟩, (fun _ h => absurd h List.not_mem_nil)⟩) (by decide) (by decide) (tA 214 rfl rfl) (by decide) (fun q => ?_)
  refine k_astore_n C0 [(3, _), (0, _), (1, _), (2, _)] dL_addMaker_15 (by decide) rfl ?_
  refine k_iconst C0 2 dL_addMaker_16 (by decide) ?_
  exact k_iret C0 dL_addMaker_17 hr hlk (Nat.le_of_eq (Nat.zero_add _)) (Nat.le_of_eq (Nat.zero_add _)) al rfl (fun H h => ⟨rfl, (h.mono (fun v _ z => absurd z (by decide)))⟩)
set_option maxRecDepth 100000 in
set_option maxHeartbeats 4000000 in
theorem lo_addProduct (l : Launch) (D : va_G) (Y : Nat → Nat) (A : Nat → Prop) (sg sg2 : Sg) (al : Nat → Nat → Nat) (o ao : Nat) (ar : Nat → Nat) (mu : Rm) (a b : Int32) (r : Int32) {F LOC mc ms : Nat} (hF : F ≤ 13) (hL : LOC ≤ 310) (hM : CT l yX5_addProduct (Cond.code yX5_addProduct cX5_addProduct 4 (some .int)) F LOC D Y A [.ref (al 0 0), .int a, .int b] (LWo D Y A sg al o ar mu ao lT) (fun _ : Nat → Nat → Nat => some (.int r)) (fun al' : Nat → Nat → Nat => fun H => al' 0 0 = al 0 0 ∧ LWo D Y A sg2 al' o ar mu ao lT H) noX mc ms) : CT l yL_addProduct (Cond.codeWith yL_addProduct cL_addProduct 5 (some .int) [(0, 10, 13, 25), (0, 10, 17, 13), (0, 10, 21, 19)]) 14 340 D Y A [.ref (al 0 0), .int a, .int b, .ref ao] (LWo D Y A sg al o ar mu ao lT) (fun _ : Nat → Nat → Nat => some (.int 0)) (fun al' : Nat → Nat → Nat => fun H => al' 0 0 = al 0 0 ∧ LWo D Y A sg2 al' o ar mu ao (lP 0 r) H) noX mc ms := by
  refine CT.ofH (by decide) (Nat.le_of_ble_eq_true rfl) ?_
  intro p_ e_ s_ m_ below_ meth_ c_ C0 K0 hr hlk htab
  refine k_aload_n C0 dL_addProduct_0 3 rfl ?_
  refine k_iconst C0 0 dL_addProduct_1 (by decide) ?_
  refine k_aload_n C0 dL_addProduct_2 0 rfl ?_
  refine k_iload_n C0 dL_addProduct_3 1 rfl ?_
  refine k_iload_n C0 dL_addProduct_4 2 rfl ?_
  refine k_callV C0 K0 dL_addProduct_5 hM gkL_21 hyX5_addProduct (lw_recv K0) rfl (by exact Nat.le_of_ble_eq_true rfl) ⟨Nat.succ_le_succ hF, show 8 + (4 + 11) + LOC ≤ 340 by omega⟩ ⟨Nat.le_of_eq (Nat.zero_add _), Nat.le_of_eq (Nat.zero_add _)⟩ (fun E => kX_no E) (fun al2 => ?_)
  refine k_ex (fun H h => h.1) (fun hal => ?_)
  refine k_W (fun H h => h.2) ?_
  refine k_i2l C0 dL_addProduct_8 ?_
  refine k_lastO C0 K0 (P' := lP 0 r) dL_addProduct_9 (fun _ => rfl) ?_
  refine k_goto C0 25 dL_addProduct_10 (by decide) ?_
  refine k_iconst C0 0 dL_addProduct_25 (by decide) ?_
  exact k_iret C0 dL_addProduct_26 hr hlk (Nat.le_of_eq (Nat.zero_add _)) (Nat.le_of_eq (Nat.zero_add _)) al2 rfl (fun H h => ⟨hal, h⟩)
set_option maxRecDepth 100000 in
set_option maxHeartbeats 4000000 in
theorem lx_addProduct_1 (l : Launch) (D : va_G) (Y : Nat → Nat) (A : Nat → Prop) (sg : Sg) (al : Nat → Nat → Nat) (o ao : Nat) (ar : Nat → Nat) (mu : Rm) (a b : Int32) (r : Int32) {F LOC mc ms : Nat} (hF : F ≤ 13) (hL : LOC ≤ 310) (hM : CT l yX5_addProduct (Cond.code yX5_addProduct cX5_addProduct 4 (some .int)) F LOC D Y A [.ref (al 0 0), .int a, .int b] (LWo D Y A sg al o ar mu ao lT) (fun _ : Unit => none) (fun (_ : Unit) (_ : Heap) => False) (xE "java/lang/IndexOutOfBoundsException" (LWo D Y A sg al o ar mu ao lT)) mc ms) : CT l yL_addProduct (Cond.codeWith yL_addProduct cL_addProduct 5 (some .int) [(0, 10, 13, 25), (0, 10, 17, 13), (0, 10, 21, 19)]) 14 340 D Y A [.ref (al 0 0), .int a, .int b, .ref ao] (LWo D Y A sg al o ar mu ao lT) (fun _ : Nat → Nat → Nat => some (.int 1)) (fun al' : Nat → Nat → Nat => fun H => al' 0 0 = al 0 0 ∧ LWo D Y A sg al' o ar mu ao (lP 1 r) H) noX mc ms := by
  refine CT.ofH (by decide) (Nat.le_of_ble_eq_true rfl) ?_
  intro p_ e_ s_ m_ below_ meth_ c_ C0 K0 hr hlk htab
  refine k_aload_n C0 dL_addProduct_0 3 rfl ?_
  refine k_iconst C0 0 dL_addProduct_1 (by decide) ?_
  refine k_aload_n C0 dL_addProduct_2 0 rfl ?_
  refine k_iload_n C0 dL_addProduct_3 1 rfl ?_
  refine k_iload_n C0 dL_addProduct_4 2 rfl ?_
  refine k_callV C0 K0 dL_addProduct_5 hM gkL_21 hyX5_addProduct (lw_recv K0) rfl (by exact Nat.le_of_ble_eq_true rfl) ⟨Nat.succ_le_succ hF, show 8 + (4 + 11) + LOC ≤ 340 by omega⟩ ⟨Nat.le_of_eq (Nat.zero_add _), Nat.le_of_eq (Nat.zero_add _)⟩ (fun E => kX_xE ?_ E) (fun _ => fun _ _ _ h => h.elim)
  refine k_catch C0 K0 [] ⟨0, 10, 13, 25⟩ [⟨0, 10, 17, 13⟩, ⟨0, 10, 21, 19⟩] htab (fun _ h => absurd h List.not_mem_nil) (by decide) (by decide) (tB 86 rfl rfl) (by decide) (fun q => ?_)
  refine k_astore C0 [(4, _), (0, _), (1, _), (2, _), (3, _)] dL_addProduct_13 (by decide) rfl ?_
  refine k_iconst C0 1 dL_addProduct_15 (by decide) ?_
  exact k_iret C0 dL_addProduct_16 hr hlk (Nat.le_of_eq (Nat.zero_add _)) (Nat.le_of_eq (Nat.zero_add _)) al rfl (fun H h => ⟨rfl, (h.mono (fun v _ z => absurd z (by decide)))⟩)
set_option maxRecDepth 100000 in
set_option maxHeartbeats 4000000 in
theorem lx_addProduct_2 (l : Launch) (D : va_G) (Y : Nat → Nat) (A : Nat → Prop) (sg : Sg) (al : Nat → Nat → Nat) (o ao : Nat) (ar : Nat → Nat) (mu : Rm) (a b : Int32) (r : Int32) {F LOC mc ms : Nat} (hF : F ≤ 13) (hL : LOC ≤ 310) (hM : CT l yX5_addProduct (Cond.code yX5_addProduct cX5_addProduct 4 (some .int)) F LOC D Y A [.ref (al 0 0), .int a, .int b] (LWo D Y A sg al o ar mu ao lT) (fun _ : Unit => none) (fun (_ : Unit) (_ : Heap) => False) (xE "java/lang/IllegalArgumentException" (LWo D Y A sg al o ar mu ao lT)) mc ms) : CT l yL_addProduct (Cond.codeWith yL_addProduct cL_addProduct 5 (some .int) [(0, 10, 13, 25), (0, 10, 17, 13), (0, 10, 21, 19)]) 14 340 D Y A [.ref (al 0 0), .int a, .int b, .ref ao] (LWo D Y A sg al o ar mu ao lT) (fun _ : Nat → Nat → Nat => some (.int 2)) (fun al' : Nat → Nat → Nat => fun H => al' 0 0 = al 0 0 ∧ LWo D Y A sg al' o ar mu ao (lP 2 r) H) noX mc ms := by
  refine CT.ofH (by decide) (Nat.le_of_ble_eq_true rfl) ?_
  intro p_ e_ s_ m_ below_ meth_ c_ C0 K0 hr hlk htab
  refine k_aload_n C0 dL_addProduct_0 3 rfl ?_
  refine k_iconst C0 0 dL_addProduct_1 (by decide) ?_
  refine k_aload_n C0 dL_addProduct_2 0 rfl ?_
  refine k_iload_n C0 dL_addProduct_3 1 rfl ?_
  refine k_iload_n C0 dL_addProduct_4 2 rfl ?_
  refine k_callV C0 K0 dL_addProduct_5 hM gkL_21 hyX5_addProduct (lw_recv K0) rfl (by exact Nat.le_of_ble_eq_true rfl) ⟨Nat.succ_le_succ hF, show 8 + (4 + 11) + LOC ≤ 340 by omega⟩ ⟨Nat.le_of_eq (Nat.zero_add _), Nat.le_of_eq (Nat.zero_add _)⟩ (fun E => kX_xE ?_ E) (fun _ => fun _ _ _ h => h.elim)
  refine k_catch C0 K0 [⟨0, 10, 13, 25⟩] ⟨0, 10, 17, 13⟩ [⟨0, 10, 21, 19⟩] htab (List.forall_mem_cons.mpr ⟨Or.inr ⟨by decide, "java/lang/IndexOutOfBoundsException", (tB 86 rfl rfl), by decide⟩, (fun _ h => absurd h List.not_mem_nil)⟩) (by decide) (by decide) (tA 130 rfl rfl) (by decide) (fun q => ?_)
  refine k_astore C0 [(4, _), (0, _), (1, _), (2, _), (3, _)] dL_addProduct_17 (by decide) rfl ?_
  refine k_iconst C0 2 dL_addProduct_19 (by decide) ?_
  exact k_iret C0 dL_addProduct_20 hr hlk (Nat.le_of_eq (Nat.zero_add _)) (Nat.le_of_eq (Nat.zero_add _)) al rfl (fun H h => ⟨rfl, (h.mono (fun v _ z => absurd z (by decide)))⟩)
set_option maxRecDepth 100000 in
set_option maxHeartbeats 4000000 in
theorem lx_addProduct_3 (l : Launch) (D : va_G) (Y : Nat → Nat) (A : Nat → Prop) (sg : Sg) (al : Nat → Nat → Nat) (o ao : Nat) (ar : Nat → Nat) (mu : Rm) (a b : Int32) (r : Int32) {F LOC mc ms : Nat} (hF : F ≤ 13) (hL : LOC ≤ 310) (hM : CT l yX5_addProduct (Cond.code yX5_addProduct cX5_addProduct 4 (some .int)) F LOC D Y A [.ref (al 0 0), .int a, .int b] (LWo D Y A sg al o ar mu ao lT) (fun _ : Unit => none) (fun (_ : Unit) (_ : Heap) => False) (xE "java/lang/IllegalStateException" (LWo D Y A sg al o ar mu ao lT)) mc ms) : CT l yL_addProduct (Cond.codeWith yL_addProduct cL_addProduct 5 (some .int) [(0, 10, 13, 25), (0, 10, 17, 13), (0, 10, 21, 19)]) 14 340 D Y A [.ref (al 0 0), .int a, .int b, .ref ao] (LWo D Y A sg al o ar mu ao lT) (fun _ : Nat → Nat → Nat => some (.int 3)) (fun al' : Nat → Nat → Nat => fun H => al' 0 0 = al 0 0 ∧ LWo D Y A sg al' o ar mu ao (lP 3 r) H) noX mc ms := by
  refine CT.ofH (by decide) (Nat.le_of_ble_eq_true rfl) ?_
  intro p_ e_ s_ m_ below_ meth_ c_ C0 K0 hr hlk htab
  refine k_aload_n C0 dL_addProduct_0 3 rfl ?_
  refine k_iconst C0 0 dL_addProduct_1 (by decide) ?_
  refine k_aload_n C0 dL_addProduct_2 0 rfl ?_
  refine k_iload_n C0 dL_addProduct_3 1 rfl ?_
  refine k_iload_n C0 dL_addProduct_4 2 rfl ?_
  refine k_callV C0 K0 dL_addProduct_5 hM gkL_21 hyX5_addProduct (lw_recv K0) rfl (by exact Nat.le_of_ble_eq_true rfl) ⟨Nat.succ_le_succ hF, show 8 + (4 + 11) + LOC ≤ 340 by omega⟩ ⟨Nat.le_of_eq (Nat.zero_add _), Nat.le_of_eq (Nat.zero_add _)⟩ (fun E => kX_xE ?_ E) (fun _ => fun _ _ _ h => h.elim)
  refine k_catch C0 K0 [⟨0, 10, 13, 25⟩, ⟨0, 10, 17, 13⟩] ⟨0, 10, 21, 19⟩ [] htab (List.forall_mem_cons.mpr ⟨Or.inr ⟨by decide, "java/lang/IndexOutOfBoundsException", (tB 86 rfl rfl), by decide⟩, (List.forall_mem_cons.mpr ⟨Or.inr ⟨by decide, "java/lang/IllegalArgumentException", (tA 130 rfl rfl), by decide⟩, (fun _ h => absurd h List.not_mem_nil)⟩)⟩) (by decide) (by decide) (tA 214 rfl rfl) (by decide) (fun q => ?_)
  refine k_astore C0 [(4, _), (0, _), (1, _), (2, _), (3, _)] dL_addProduct_21 (by decide) rfl ?_
  refine k_iconst C0 3 dL_addProduct_23 (by decide) ?_
  exact k_iret C0 dL_addProduct_24 hr hlk (Nat.le_of_eq (Nat.zero_add _)) (Nat.le_of_eq (Nat.zero_add _)) al rfl (fun H h => ⟨rfl, (h.mono (fun v _ z => absurd z (by decide)))⟩)
set_option maxRecDepth 100000 in
set_option maxHeartbeats 4000000 in
theorem lo_setPrice (l : Launch) (D : va_G) (Y : Nat → Nat) (A : Nat → Prop) (sg sg2 : Sg) (al : Nat → Nat → Nat) (o ao : Nat) (ar : Nat → Nat) (mu : Rm) (a b c : Int32) (r : Int32) {F LOC mc ms : Nat} (hF : F ≤ 13) (hL : LOC ≤ 310) (hM : CT l yX5_setPrice (Cond.code yX5_setPrice cX5_setPrice 6 (some .int)) F LOC D Y A [.ref (al 0 0), .int a, .int b, .int c] (LWo D Y A sg al o ar mu ao lT) (fun _ : Nat → Nat → Nat => some (.int r)) (fun al' : Nat → Nat → Nat => fun H => al' 0 0 = al 0 0 ∧ LWo D Y A sg2 al' o ar mu ao lT H) noX mc ms) : CT l yL_setPrice (Cond.codeWith yL_setPrice cL_setPrice 6 (some .int) [(0, 12, 15, 25), (0, 12, 19, 13)]) 14 340 D Y A [.ref (al 0 0), .int a, .int b, .int c, .ref ao] (LWo D Y A sg al o ar mu ao lT) (fun _ : Nat → Nat → Nat => some (.int 0)) (fun al' : Nat → Nat → Nat => fun H => al' 0 0 = al 0 0 ∧ LWo D Y A sg2 al' o ar mu ao (lP 0 r) H) noX mc ms := by
  refine CT.ofH (by decide) (Nat.le_of_ble_eq_true rfl) ?_
  intro p_ e_ s_ m_ below_ meth_ c_ C0 K0 hr hlk htab
  refine k_aload C0 dL_setPrice_0 4 rfl ?_
  refine k_iconst C0 0 dL_setPrice_2 (by decide) ?_
  refine k_aload_n C0 dL_setPrice_3 0 rfl ?_
  refine k_iload_n C0 dL_setPrice_4 1 rfl ?_
  refine k_iload_n C0 dL_setPrice_5 2 rfl ?_
  refine k_iload_n C0 dL_setPrice_6 3 rfl ?_
  refine k_callV C0 K0 dL_setPrice_7 hM gkL_27 hyX5_setPrice (lw_recv K0) rfl (by exact Nat.le_of_ble_eq_true rfl) ⟨Nat.succ_le_succ hF, show 8 + (6 + 11) + LOC ≤ 340 by omega⟩ ⟨Nat.le_of_eq (Nat.zero_add _), Nat.le_of_eq (Nat.zero_add _)⟩ (fun E => kX_no E) (fun al2 => ?_)
  refine k_ex (fun H h => h.1) (fun hal => ?_)
  refine k_W (fun H h => h.2) ?_
  refine k_i2l C0 dL_setPrice_10 ?_
  refine k_lastO C0 K0 (P' := lP 0 r) dL_setPrice_11 (fun _ => rfl) ?_
  refine k_goto C0 23 dL_setPrice_12 (by decide) ?_
  refine k_iconst C0 0 dL_setPrice_23 (by decide) ?_
  exact k_iret C0 dL_setPrice_24 hr hlk (Nat.le_of_eq (Nat.zero_add _)) (Nat.le_of_eq (Nat.zero_add _)) al2 rfl (fun H h => ⟨hal, h⟩)
set_option maxRecDepth 100000 in
set_option maxHeartbeats 4000000 in
theorem lx_setPrice_1 (l : Launch) (D : va_G) (Y : Nat → Nat) (A : Nat → Prop) (sg : Sg) (al : Nat → Nat → Nat) (o ao : Nat) (ar : Nat → Nat) (mu : Rm) (a b c : Int32) (r : Int32) {F LOC mc ms : Nat} (hF : F ≤ 13) (hL : LOC ≤ 310) (hM : CT l yX5_setPrice (Cond.code yX5_setPrice cX5_setPrice 6 (some .int)) F LOC D Y A [.ref (al 0 0), .int a, .int b, .int c] (LWo D Y A sg al o ar mu ao lT) (fun _ : Unit => none) (fun (_ : Unit) (_ : Heap) => False) (xE "java/lang/IndexOutOfBoundsException" (LWo D Y A sg al o ar mu ao lT)) mc ms) : CT l yL_setPrice (Cond.codeWith yL_setPrice cL_setPrice 6 (some .int) [(0, 12, 15, 25), (0, 12, 19, 13)]) 14 340 D Y A [.ref (al 0 0), .int a, .int b, .int c, .ref ao] (LWo D Y A sg al o ar mu ao lT) (fun _ : Nat → Nat → Nat => some (.int 1)) (fun al' : Nat → Nat → Nat => fun H => al' 0 0 = al 0 0 ∧ LWo D Y A sg al' o ar mu ao (lP 1 r) H) noX mc ms := by
  refine CT.ofH (by decide) (Nat.le_of_ble_eq_true rfl) ?_
  intro p_ e_ s_ m_ below_ meth_ c_ C0 K0 hr hlk htab
  refine k_aload C0 dL_setPrice_0 4 rfl ?_
  refine k_iconst C0 0 dL_setPrice_2 (by decide) ?_
  refine k_aload_n C0 dL_setPrice_3 0 rfl ?_
  refine k_iload_n C0 dL_setPrice_4 1 rfl ?_
  refine k_iload_n C0 dL_setPrice_5 2 rfl ?_
  refine k_iload_n C0 dL_setPrice_6 3 rfl ?_
  refine k_callV C0 K0 dL_setPrice_7 hM gkL_27 hyX5_setPrice (lw_recv K0) rfl (by exact Nat.le_of_ble_eq_true rfl) ⟨Nat.succ_le_succ hF, show 8 + (6 + 11) + LOC ≤ 340 by omega⟩ ⟨Nat.le_of_eq (Nat.zero_add _), Nat.le_of_eq (Nat.zero_add _)⟩ (fun E => kX_xE ?_ E) (fun _ => fun _ _ _ h => h.elim)
  refine k_catch C0 K0 [] ⟨0, 12, 15, 25⟩ [⟨0, 12, 19, 13⟩] htab (fun _ h => absurd h List.not_mem_nil) (by decide) (by decide) (tB 86 rfl rfl) (by decide) (fun q => ?_)
  refine k_astore C0 [(5, _), (0, _), (1, _), (2, _), (3, _), (4, _)] dL_setPrice_15 (by decide) rfl ?_
  refine k_iconst C0 1 dL_setPrice_17 (by decide) ?_
  exact k_iret C0 dL_setPrice_18 hr hlk (Nat.le_of_eq (Nat.zero_add _)) (Nat.le_of_eq (Nat.zero_add _)) al rfl (fun H h => ⟨rfl, (h.mono (fun v _ z => absurd z (by decide)))⟩)
set_option maxRecDepth 100000 in
set_option maxHeartbeats 4000000 in
theorem lx_setPrice_2 (l : Launch) (D : va_G) (Y : Nat → Nat) (A : Nat → Prop) (sg : Sg) (al : Nat → Nat → Nat) (o ao : Nat) (ar : Nat → Nat) (mu : Rm) (a b c : Int32) (r : Int32) {F LOC mc ms : Nat} (hF : F ≤ 13) (hL : LOC ≤ 310) (hM : CT l yX5_setPrice (Cond.code yX5_setPrice cX5_setPrice 6 (some .int)) F LOC D Y A [.ref (al 0 0), .int a, .int b, .int c] (LWo D Y A sg al o ar mu ao lT) (fun _ : Unit => none) (fun (_ : Unit) (_ : Heap) => False) (xE "java/lang/IllegalArgumentException" (LWo D Y A sg al o ar mu ao lT)) mc ms) : CT l yL_setPrice (Cond.codeWith yL_setPrice cL_setPrice 6 (some .int) [(0, 12, 15, 25), (0, 12, 19, 13)]) 14 340 D Y A [.ref (al 0 0), .int a, .int b, .int c, .ref ao] (LWo D Y A sg al o ar mu ao lT) (fun _ : Nat → Nat → Nat => some (.int 2)) (fun al' : Nat → Nat → Nat => fun H => al' 0 0 = al 0 0 ∧ LWo D Y A sg al' o ar mu ao (lP 2 r) H) noX mc ms := by
  refine CT.ofH (by decide) (Nat.le_of_ble_eq_true rfl) ?_
  intro p_ e_ s_ m_ below_ meth_ c_ C0 K0 hr hlk htab
  refine k_aload C0 dL_setPrice_0 4 rfl ?_
  refine k_iconst C0 0 dL_setPrice_2 (by decide) ?_
  refine k_aload_n C0 dL_setPrice_3 0 rfl ?_
  refine k_iload_n C0 dL_setPrice_4 1 rfl ?_
  refine k_iload_n C0 dL_setPrice_5 2 rfl ?_
  refine k_iload_n C0 dL_setPrice_6 3 rfl ?_
  refine k_callV C0 K0 dL_setPrice_7 hM gkL_27 hyX5_setPrice (lw_recv K0) rfl (by exact Nat.le_of_ble_eq_true rfl) ⟨Nat.succ_le_succ hF, show 8 + (6 + 11) + LOC ≤ 340 by omega⟩ ⟨Nat.le_of_eq (Nat.zero_add _), Nat.le_of_eq (Nat.zero_add _)⟩ (fun E => kX_xE ?_ E) (fun _ => fun _ _ _ h => h.elim)
  refine k_catch C0 K0 [⟨0, 12, 15, 25⟩] ⟨0, 12, 19, 13⟩ [] htab (List.forall_mem_cons.mpr ⟨Or.inr ⟨by decide, "java/lang/IndexOutOfBoundsException", (tB 86 rfl rfl), by decide⟩, (fun _ h => absurd h List.not_mem_nil)⟩) (by decide) (by decide) (tA 130 rfl rfl) (by decide) (fun q => ?_)
  refine k_astore C0 [(5, _), (0, _), (1, _), (2, _), (3, _), (4, _)] dL_setPrice_19 (by decide) rfl ?_
  refine k_iconst C0 2 dL_setPrice_21 (by decide) ?_
  exact k_iret C0 dL_setPrice_22 hr hlk (Nat.le_of_eq (Nat.zero_add _)) (Nat.le_of_eq (Nat.zero_add _)) al rfl (fun H h => ⟨rfl, (h.mono (fun v _ z => absurd z (by decide)))⟩)
set_option maxRecDepth 100000 in
set_option maxHeartbeats 4000000 in
theorem lo_buy (l : Launch) (D : va_G) (Y : Nat → Nat) (A : Nat → Prop) (sg sg2 : Sg) (al : Nat → Nat → Nat) (o ao : Nat) (ar : Nat → Nat) (mu : Rm) (a b : Int32) (r : Int32) {F LOC mc ms : Nat} (hF : F ≤ 13) (hL : LOC ≤ 310) (hM : CT l yX5_buy (Cond.code yX5_buy cX5_buy 5 (some .int)) F LOC D Y A [.ref (al 0 0), .int a, .int b] (LWo D Y A sg al o ar mu ao lT) (fun _ : Nat → Nat → Nat => some (.int r)) (fun al' : Nat → Nat → Nat => fun H => al' 0 0 = al 0 0 ∧ LWo D Y A sg2 al' o ar mu ao lT H) noX mc ms) : CT l yL_buy (Cond.codeWith yL_buy cL_buy 5 (some .int) [(0, 10, 13, 25), (0, 10, 17, 13)]) 14 340 D Y A [.ref (al 0 0), .int a, .int b, .ref ao] (LWo D Y A sg al o ar mu ao lT) (fun _ : Nat → Nat → Nat => some (.int 0)) (fun al' : Nat → Nat → Nat => fun H => al' 0 0 = al 0 0 ∧ LWo D Y A sg2 al' o ar mu ao (lP 0 r) H) noX mc ms := by
  refine CT.ofH (by decide) (Nat.le_of_ble_eq_true rfl) ?_
  intro p_ e_ s_ m_ below_ meth_ c_ C0 K0 hr hlk htab
  refine k_aload_n C0 dL_buy_0 3 rfl ?_
  refine k_iconst C0 0 dL_buy_1 (by decide) ?_
  refine k_aload_n C0 dL_buy_2 0 rfl ?_
  refine k_iload_n C0 dL_buy_3 1 rfl ?_
  refine k_iload_n C0 dL_buy_4 2 rfl ?_
  refine k_callV C0 K0 dL_buy_5 hM gkL_31 hyX5_buy (lw_recv K0) rfl (by exact Nat.le_of_ble_eq_true rfl) ⟨Nat.succ_le_succ hF, show 8 + (5 + 11) + LOC ≤ 340 by omega⟩ ⟨Nat.le_of_eq (Nat.zero_add _), Nat.le_of_eq (Nat.zero_add _)⟩ (fun E => kX_no E) (fun al2 => ?_)
  refine k_ex (fun H h => h.1) (fun hal => ?_)
  refine k_W (fun H h => h.2) ?_
  refine k_i2l C0 dL_buy_8 ?_
  refine k_lastO C0 K0 (P' := lP 0 r) dL_buy_9 (fun _ => rfl) ?_
  refine k_goto C0 21 dL_buy_10 (by decide) ?_
  refine k_iconst C0 0 dL_buy_21 (by decide) ?_
  exact k_iret C0 dL_buy_22 hr hlk (Nat.le_of_eq (Nat.zero_add _)) (Nat.le_of_eq (Nat.zero_add _)) al2 rfl (fun H h => ⟨hal, h⟩)
set_option maxRecDepth 100000 in
set_option maxHeartbeats 4000000 in
theorem lx_buy_1 (l : Launch) (D : va_G) (Y : Nat → Nat) (A : Nat → Prop) (sg : Sg) (al : Nat → Nat → Nat) (o ao : Nat) (ar : Nat → Nat) (mu : Rm) (a b : Int32) (r : Int32) {F LOC mc ms : Nat} (hF : F ≤ 13) (hL : LOC ≤ 310) (hM : CT l yX5_buy (Cond.code yX5_buy cX5_buy 5 (some .int)) F LOC D Y A [.ref (al 0 0), .int a, .int b] (LWo D Y A sg al o ar mu ao lT) (fun _ : Unit => none) (fun (_ : Unit) (_ : Heap) => False) (xE "java/lang/IndexOutOfBoundsException" (LWo D Y A sg al o ar mu ao lT)) mc ms) : CT l yL_buy (Cond.codeWith yL_buy cL_buy 5 (some .int) [(0, 10, 13, 25), (0, 10, 17, 13)]) 14 340 D Y A [.ref (al 0 0), .int a, .int b, .ref ao] (LWo D Y A sg al o ar mu ao lT) (fun _ : Nat → Nat → Nat => some (.int 1)) (fun al' : Nat → Nat → Nat => fun H => al' 0 0 = al 0 0 ∧ LWo D Y A sg al' o ar mu ao (lP 1 r) H) noX mc ms := by
  refine CT.ofH (by decide) (Nat.le_of_ble_eq_true rfl) ?_
  intro p_ e_ s_ m_ below_ meth_ c_ C0 K0 hr hlk htab
  refine k_aload_n C0 dL_buy_0 3 rfl ?_
  refine k_iconst C0 0 dL_buy_1 (by decide) ?_
  refine k_aload_n C0 dL_buy_2 0 rfl ?_
  refine k_iload_n C0 dL_buy_3 1 rfl ?_
  refine k_iload_n C0 dL_buy_4 2 rfl ?_
  refine k_callV C0 K0 dL_buy_5 hM gkL_31 hyX5_buy (lw_recv K0) rfl (by exact Nat.le_of_ble_eq_true rfl) ⟨Nat.succ_le_succ hF, show 8 + (5 + 11) + LOC ≤ 340 by omega⟩ ⟨Nat.le_of_eq (Nat.zero_add _), Nat.le_of_eq (Nat.zero_add _)⟩ (fun E => kX_xE ?_ E) (fun _ => fun _ _ _ h => h.elim)
  refine k_catch C0 K0 [] ⟨0, 10, 13, 25⟩ [⟨0, 10, 17, 13⟩] htab (fun _ h => absurd h List.not_mem_nil) (by decide) (by decide) (tB 86 rfl rfl) (by decide) (fun q => ?_)
  refine k_astore C0 [(4, _), (0, _), (1, _), (2, _), (3, _)] dL_buy_13 (by decide) rfl ?_
  refine k_iconst C0 1 dL_buy_15 (by decide) ?_
  exact k_iret C0 dL_buy_16 hr hlk (Nat.le_of_eq (Nat.zero_add _)) (Nat.le_of_eq (Nat.zero_add _)) al rfl (fun H h => ⟨rfl, (h.mono (fun v _ z => absurd z (by decide)))⟩)
set_option maxRecDepth 100000 in
set_option maxHeartbeats 4000000 in
theorem lx_buy_2 (l : Launch) (D : va_G) (Y : Nat → Nat) (A : Nat → Prop) (sg : Sg) (al : Nat → Nat → Nat) (o ao : Nat) (ar : Nat → Nat) (mu : Rm) (a b : Int32) (r : Int32) {F LOC mc ms : Nat} (hF : F ≤ 13) (hL : LOC ≤ 310) (hM : CT l yX5_buy (Cond.code yX5_buy cX5_buy 5 (some .int)) F LOC D Y A [.ref (al 0 0), .int a, .int b] (LWo D Y A sg al o ar mu ao lT) (fun _ : Unit => none) (fun (_ : Unit) (_ : Heap) => False) (xE "java/lang/IllegalArgumentException" (LWo D Y A sg al o ar mu ao lT)) mc ms) : CT l yL_buy (Cond.codeWith yL_buy cL_buy 5 (some .int) [(0, 10, 13, 25), (0, 10, 17, 13)]) 14 340 D Y A [.ref (al 0 0), .int a, .int b, .ref ao] (LWo D Y A sg al o ar mu ao lT) (fun _ : Nat → Nat → Nat => some (.int 2)) (fun al' : Nat → Nat → Nat => fun H => al' 0 0 = al 0 0 ∧ LWo D Y A sg al' o ar mu ao (lP 2 r) H) noX mc ms := by
  refine CT.ofH (by decide) (Nat.le_of_ble_eq_true rfl) ?_
  intro p_ e_ s_ m_ below_ meth_ c_ C0 K0 hr hlk htab
  refine k_aload_n C0 dL_buy_0 3 rfl ?_
  refine k_iconst C0 0 dL_buy_1 (by decide) ?_
  refine k_aload_n C0 dL_buy_2 0 rfl ?_
  refine k_iload_n C0 dL_buy_3 1 rfl ?_
  refine k_iload_n C0 dL_buy_4 2 rfl ?_
  refine k_callV C0 K0 dL_buy_5 hM gkL_31 hyX5_buy (lw_recv K0) rfl (by exact Nat.le_of_ble_eq_true rfl) ⟨Nat.succ_le_succ hF, show 8 + (5 + 11) + LOC ≤ 340 by omega⟩ ⟨Nat.le_of_eq (Nat.zero_add _), Nat.le_of_eq (Nat.zero_add _)⟩ (fun E => kX_xE ?_ E) (fun _ => fun _ _ _ h => h.elim)
  refine k_catch C0 K0 [⟨0, 10, 13, 25⟩] ⟨0, 10, 17, 13⟩ [] htab (List.forall_mem_cons.mpr ⟨Or.inr ⟨by decide, "java/lang/IndexOutOfBoundsException", (tB 86 rfl rfl), by decide⟩, (fun _ h => absurd h List.not_mem_nil)⟩) (by decide) (by decide) (tA 130 rfl rfl) (by decide) (fun q => ?_)
  refine k_astore C0 [(4, _), (0, _), (1, _), (2, _), (3, _)] dL_buy_17 (by decide) rfl ?_
  refine k_iconst C0 2 dL_buy_19 (by decide) ?_
  exact k_iret C0 dL_buy_20 hr hlk (Nat.le_of_eq (Nat.zero_add _)) (Nat.le_of_eq (Nat.zero_add _)) al rfl (fun H h => ⟨rfl, (h.mono (fun v _ z => absurd z (by decide)))⟩)
set_option maxRecDepth 100000 in
set_option maxHeartbeats 4000000 in
theorem lo_refund (l : Launch) (D : va_G) (Y : Nat → Nat) (A : Nat → Prop) (sg sg2 : Sg) (al : Nat → Nat → Nat) (o ao : Nat) (ar : Nat → Nat) (mu : Rm) (a : Int32) (r : Int32) {F LOC mc ms : Nat} (hF : F ≤ 13) (hL : LOC ≤ 310) (hM : CT l yX5_refund (Cond.code yX5_refund cX5_refund 3 (some .int)) F LOC D Y A [.ref (al 0 0), .int a] (LWo D Y A sg al o ar mu ao lT) (fun _ : Nat → Nat → Nat => some (.int r)) (fun al' : Nat → Nat → Nat => fun H => al' 0 0 = al 0 0 ∧ LWo D Y A sg2 al' o ar mu ao lT H) noX mc ms) : CT l yL_refund (Cond.codeWith yL_refund cL_refund 4 (some .int) [(0, 9, 12, 25), (0, 9, 15, 19)]) 14 340 D Y A [.ref (al 0 0), .int a, .ref ao] (LWo D Y A sg al o ar mu ao lT) (fun _ : Nat → Nat → Nat => some (.int 0)) (fun al' : Nat → Nat → Nat => fun H => al' 0 0 = al 0 0 ∧ LWo D Y A sg2 al' o ar mu ao (lP 0 r) H) noX mc ms := by
  refine CT.ofH (by decide) (Nat.le_of_ble_eq_true rfl) ?_
  intro p_ e_ s_ m_ below_ meth_ c_ C0 K0 hr hlk htab
  refine k_aload_n C0 dL_refund_0 2 rfl ?_
  refine k_iconst C0 0 dL_refund_1 (by decide) ?_
  refine k_aload_n C0 dL_refund_2 0 rfl ?_
  refine k_iload_n C0 dL_refund_3 1 rfl ?_
  refine k_callV C0 K0 dL_refund_4 hM gkL_34 hyX5_refund (lw_recv K0) rfl (by exact Nat.le_of_ble_eq_true rfl) ⟨Nat.succ_le_succ hF, show 8 + (3 + 11) + LOC ≤ 340 by omega⟩ ⟨Nat.le_of_eq (Nat.zero_add _), Nat.le_of_eq (Nat.zero_add _)⟩ (fun E => kX_no E) (fun al2 => ?_)
  refine k_ex (fun H h => h.1) (fun hal => ?_)
  refine k_W (fun H h => h.2) ?_
  refine k_i2l C0 dL_refund_7 ?_
  refine k_lastO C0 K0 (P' := lP 0 r) dL_refund_8 (fun _ => rfl) ?_
  refine k_goto C0 18 dL_refund_9 (by decide) ?_
  refine k_iconst C0 0 dL_refund_18 (by decide) ?_
  exact k_iret C0 dL_refund_19 hr hlk (Nat.le_of_eq (Nat.zero_add _)) (Nat.le_of_eq (Nat.zero_add _)) al2 rfl (fun H h => ⟨hal, h⟩)
set_option maxRecDepth 100000 in
set_option maxHeartbeats 4000000 in
theorem lx_refund_1 (l : Launch) (D : va_G) (Y : Nat → Nat) (A : Nat → Prop) (sg : Sg) (al : Nat → Nat → Nat) (o ao : Nat) (ar : Nat → Nat) (mu : Rm) (a : Int32) (r : Int32) {F LOC mc ms : Nat} (hF : F ≤ 13) (hL : LOC ≤ 310) (hM : CT l yX5_refund (Cond.code yX5_refund cX5_refund 3 (some .int)) F LOC D Y A [.ref (al 0 0), .int a] (LWo D Y A sg al o ar mu ao lT) (fun _ : Unit => none) (fun (_ : Unit) (_ : Heap) => False) (xE "java/lang/IndexOutOfBoundsException" (LWo D Y A sg al o ar mu ao lT)) mc ms) : CT l yL_refund (Cond.codeWith yL_refund cL_refund 4 (some .int) [(0, 9, 12, 25), (0, 9, 15, 19)]) 14 340 D Y A [.ref (al 0 0), .int a, .ref ao] (LWo D Y A sg al o ar mu ao lT) (fun _ : Nat → Nat → Nat => some (.int 1)) (fun al' : Nat → Nat → Nat => fun H => al' 0 0 = al 0 0 ∧ LWo D Y A sg al' o ar mu ao (lP 1 r) H) noX mc ms := by
  refine CT.ofH (by decide) (Nat.le_of_ble_eq_true rfl) ?_
  intro p_ e_ s_ m_ below_ meth_ c_ C0 K0 hr hlk htab
  refine k_aload_n C0 dL_refund_0 2 rfl ?_
  refine k_iconst C0 0 dL_refund_1 (by decide) ?_
  refine k_aload_n C0 dL_refund_2 0 rfl ?_
  refine k_iload_n C0 dL_refund_3 1 rfl ?_
  refine k_callV C0 K0 dL_refund_4 hM gkL_34 hyX5_refund (lw_recv K0) rfl (by exact Nat.le_of_ble_eq_true rfl) ⟨Nat.succ_le_succ hF, show 8 + (3 + 11) + LOC ≤ 340 by omega⟩ ⟨Nat.le_of_eq (Nat.zero_add _), Nat.le_of_eq (Nat.zero_add _)⟩ (fun E => kX_xE ?_ E) (fun _ => fun _ _ _ h => h.elim)
  refine k_catch C0 K0 [] ⟨0, 9, 12, 25⟩ [⟨0, 9, 15, 19⟩] htab (fun _ h => absurd h List.not_mem_nil) (by decide) (by decide) (tB 86 rfl rfl) (by decide) (fun q => ?_)
  refine k_astore_n C0 [(3, _), (0, _), (1, _), (2, _)] dL_refund_12 (by decide) rfl ?_
  refine k_iconst C0 1 dL_refund_13 (by decide) ?_
  exact k_iret C0 dL_refund_14 hr hlk (Nat.le_of_eq (Nat.zero_add _)) (Nat.le_of_eq (Nat.zero_add _)) al rfl (fun H h => ⟨rfl, (h.mono (fun v _ z => absurd z (by decide)))⟩)
set_option maxRecDepth 100000 in
set_option maxHeartbeats 4000000 in
theorem lx_refund_2 (l : Launch) (D : va_G) (Y : Nat → Nat) (A : Nat → Prop) (sg : Sg) (al : Nat → Nat → Nat) (o ao : Nat) (ar : Nat → Nat) (mu : Rm) (a : Int32) (r : Int32) {F LOC mc ms : Nat} (hF : F ≤ 13) (hL : LOC ≤ 310) (hM : CT l yX5_refund (Cond.code yX5_refund cX5_refund 3 (some .int)) F LOC D Y A [.ref (al 0 0), .int a] (LWo D Y A sg al o ar mu ao lT) (fun _ : Unit => none) (fun (_ : Unit) (_ : Heap) => False) (xE "java/lang/IllegalStateException" (LWo D Y A sg al o ar mu ao lT)) mc ms) : CT l yL_refund (Cond.codeWith yL_refund cL_refund 4 (some .int) [(0, 9, 12, 25), (0, 9, 15, 19)]) 14 340 D Y A [.ref (al 0 0), .int a, .ref ao] (LWo D Y A sg al o ar mu ao lT) (fun _ : Nat → Nat → Nat => some (.int 2)) (fun al' : Nat → Nat → Nat => fun H => al' 0 0 = al 0 0 ∧ LWo D Y A sg al' o ar mu ao (lP 2 r) H) noX mc ms := by
  refine CT.ofH (by decide) (Nat.le_of_ble_eq_true rfl) ?_
  intro p_ e_ s_ m_ below_ meth_ c_ C0 K0 hr hlk htab
  refine k_aload_n C0 dL_refund_0 2 rfl ?_
  refine k_iconst C0 0 dL_refund_1 (by decide) ?_
  refine k_aload_n C0 dL_refund_2 0 rfl ?_
  refine k_iload_n C0 dL_refund_3 1 rfl ?_
  refine k_callV C0 K0 dL_refund_4 hM gkL_34 hyX5_refund (lw_recv K0) rfl (by exact Nat.le_of_ble_eq_true rfl) ⟨Nat.succ_le_succ hF, show 8 + (3 + 11) + LOC ≤ 340 by omega⟩ ⟨Nat.le_of_eq (Nat.zero_add _), Nat.le_of_eq (Nat.zero_add _)⟩ (fun E => kX_xE ?_ E) (fun _ => fun _ _ _ h => h.elim)
  refine k_catch C0 K0 [⟨0, 9, 12, 25⟩] ⟨0, 9, 15, 19⟩ [] htab (List.forall_mem_cons.mpr ⟨Or.inr ⟨by decide, "java/lang/IndexOutOfBoundsException", (tB 86 rfl rfl), by decide⟩, (fun _ h => absurd h List.not_mem_nil)⟩) (by decide) (by decide) (tA 214 rfl rfl) (by decide) (fun q => ?_)
  refine k_astore_n C0 [(3, _), (0, _), (1, _), (2, _)] dL_refund_15 (by decide) rfl ?_
  refine k_iconst C0 2 dL_refund_16 (by decide) ?_
  exact k_iret C0 dL_refund_17 hr hlk (Nat.le_of_eq (Nat.zero_add _)) (Nat.le_of_eq (Nat.zero_add _)) al rfl (fun H h => ⟨rfl, (h.mono (fun v _ z => absurd z (by decide)))⟩)
set_option maxRecDepth 100000 in
set_option maxHeartbeats 4000000 in
theorem lo_paid (l : Launch) (D : va_G) (Y : Nat → Nat) (A : Nat → Prop) (sg sg2 : Sg) (al : Nat → Nat → Nat) (o ao : Nat) (ar : Nat → Nat) (mu : Rm) (a : Int32) (r : Int32) {F LOC mc ms : Nat} (hF : F ≤ 13) (hL : LOC ≤ 310) (hM : CT l yX5_paid (Cond.code yX5_paid cX5_paid 2 (some .int)) F LOC D Y A [.ref (al 0 0), .int a] (LWo D Y A sg al o ar mu ao lT) (fun _ : Nat → Nat → Nat => some (.int r)) (fun al' : Nat → Nat → Nat => fun H => al' 0 0 = al 0 0 ∧ LWo D Y A sg2 al' o ar mu ao lT H) noX mc ms) : CT l yL_paid (Cond.codeWith yL_paid cL_paid 4 (some .int) [(0, 9, 12, 25)]) 14 340 D Y A [.ref (al 0 0), .int a, .ref ao] (LWo D Y A sg al o ar mu ao lT) (fun _ : Nat → Nat → Nat => some (.int 0)) (fun al' : Nat → Nat → Nat => fun H => al' 0 0 = al 0 0 ∧ LWo D Y A sg2 al' o ar mu ao (lP 0 r) H) noX mc ms := by
  refine CT.ofH (by decide) (Nat.le_of_ble_eq_true rfl) ?_
  intro p_ e_ s_ m_ below_ meth_ c_ C0 K0 hr hlk htab
  refine k_aload_n C0 dL_paid_0 2 rfl ?_
  refine k_iconst C0 0 dL_paid_1 (by decide) ?_
  refine k_aload_n C0 dL_paid_2 0 rfl ?_
  refine k_iload_n C0 dL_paid_3 1 rfl ?_
  refine k_callV C0 K0 dL_paid_4 hM gkL_37 hyX5_paid (lw_recv K0) rfl (by exact Nat.le_of_ble_eq_true rfl) ⟨Nat.succ_le_succ hF, show 8 + (2 + 11) + LOC ≤ 340 by omega⟩ ⟨Nat.le_of_eq (Nat.zero_add _), Nat.le_of_eq (Nat.zero_add _)⟩ (fun E => kX_no E) (fun al2 => ?_)
  refine k_ex (fun H h => h.1) (fun hal => ?_)
  refine k_W (fun H h => h.2) ?_
  refine k_i2l C0 dL_paid_7 ?_
  refine k_lastO C0 K0 (P' := lP 0 r) dL_paid_8 (fun _ => rfl) ?_
  refine k_goto C0 15 dL_paid_9 (by decide) ?_
  refine k_iconst C0 0 dL_paid_15 (by decide) ?_
  exact k_iret C0 dL_paid_16 hr hlk (Nat.le_of_eq (Nat.zero_add _)) (Nat.le_of_eq (Nat.zero_add _)) al2 rfl (fun H h => ⟨hal, h⟩)
set_option maxRecDepth 100000 in
set_option maxHeartbeats 4000000 in
theorem lx_paid_1 (l : Launch) (D : va_G) (Y : Nat → Nat) (A : Nat → Prop) (sg : Sg) (al : Nat → Nat → Nat) (o ao : Nat) (ar : Nat → Nat) (mu : Rm) (a : Int32) (r : Int32) {F LOC mc ms : Nat} (hF : F ≤ 13) (hL : LOC ≤ 310) (hM : CT l yX5_paid (Cond.code yX5_paid cX5_paid 2 (some .int)) F LOC D Y A [.ref (al 0 0), .int a] (LWo D Y A sg al o ar mu ao lT) (fun _ : Unit => none) (fun (_ : Unit) (_ : Heap) => False) (xE "java/lang/IndexOutOfBoundsException" (LWo D Y A sg al o ar mu ao lT)) mc ms) : CT l yL_paid (Cond.codeWith yL_paid cL_paid 4 (some .int) [(0, 9, 12, 25)]) 14 340 D Y A [.ref (al 0 0), .int a, .ref ao] (LWo D Y A sg al o ar mu ao lT) (fun _ : Nat → Nat → Nat => some (.int 1)) (fun al' : Nat → Nat → Nat => fun H => al' 0 0 = al 0 0 ∧ LWo D Y A sg al' o ar mu ao (lP 1 r) H) noX mc ms := by
  refine CT.ofH (by decide) (Nat.le_of_ble_eq_true rfl) ?_
  intro p_ e_ s_ m_ below_ meth_ c_ C0 K0 hr hlk htab
  refine k_aload_n C0 dL_paid_0 2 rfl ?_
  refine k_iconst C0 0 dL_paid_1 (by decide) ?_
  refine k_aload_n C0 dL_paid_2 0 rfl ?_
  refine k_iload_n C0 dL_paid_3 1 rfl ?_
  refine k_callV C0 K0 dL_paid_4 hM gkL_37 hyX5_paid (lw_recv K0) rfl (by exact Nat.le_of_ble_eq_true rfl) ⟨Nat.succ_le_succ hF, show 8 + (2 + 11) + LOC ≤ 340 by omega⟩ ⟨Nat.le_of_eq (Nat.zero_add _), Nat.le_of_eq (Nat.zero_add _)⟩ (fun E => kX_xE ?_ E) (fun _ => fun _ _ _ h => h.elim)
  refine k_catch C0 K0 [] ⟨0, 9, 12, 25⟩ [] htab (fun _ h => absurd h List.not_mem_nil) (by decide) (by decide) (tB 86 rfl rfl) (by decide) (fun q => ?_)
  refine k_astore_n C0 [(3, _), (0, _), (1, _), (2, _)] dL_paid_12 (by decide) rfl ?_
  refine k_iconst C0 1 dL_paid_13 (by decide) ?_
  exact k_iret C0 dL_paid_14 hr hlk (Nat.le_of_eq (Nat.zero_add _)) (Nat.le_of_eq (Nat.zero_add _)) al rfl (fun H h => ⟨rfl, (h.mono (fun v _ z => absurd z (by decide)))⟩)
set_option maxRecDepth 100000 in
set_option maxHeartbeats 4000000 in
theorem lo_tax (l : Launch) (D : va_G) (Y : Nat → Nat) (A : Nat → Prop) (sg sg2 : Sg) (al : Nat → Nat → Nat) (o ao : Nat) (ar : Nat → Nat) (mu : Rm) (a : Int32) (r : Int32) {F LOC mc ms : Nat} (hF : F ≤ 13) (hL : LOC ≤ 310) (hM : CT l yX5_tax (Cond.code yX5_tax cX5_tax 2 (some .int)) F LOC D Y A [.ref (al 0 0), .int a] (LWo D Y A sg al o ar mu ao lT) (fun _ : Nat → Nat → Nat => some (.int r)) (fun al' : Nat → Nat → Nat => fun H => al' 0 0 = al 0 0 ∧ LWo D Y A sg2 al' o ar mu ao lT H) noX mc ms) : CT l yL_tax (Cond.codeWith yL_tax cL_tax 4 (some .int) [(0, 9, 12, 25)]) 14 340 D Y A [.ref (al 0 0), .int a, .ref ao] (LWo D Y A sg al o ar mu ao lT) (fun _ : Nat → Nat → Nat => some (.int 0)) (fun al' : Nat → Nat → Nat => fun H => al' 0 0 = al 0 0 ∧ LWo D Y A sg2 al' o ar mu ao (lP 0 r) H) noX mc ms := by
  refine CT.ofH (by decide) (Nat.le_of_ble_eq_true rfl) ?_
  intro p_ e_ s_ m_ below_ meth_ c_ C0 K0 hr hlk htab
  refine k_aload_n C0 dL_tax_0 2 rfl ?_
  refine k_iconst C0 0 dL_tax_1 (by decide) ?_
  refine k_aload_n C0 dL_tax_2 0 rfl ?_
  refine k_iload_n C0 dL_tax_3 1 rfl ?_
  refine k_callV C0 K0 dL_tax_4 hM gkL_40 hyX5_tax (lw_recv K0) rfl (by exact Nat.le_of_ble_eq_true rfl) ⟨Nat.succ_le_succ hF, show 8 + (2 + 11) + LOC ≤ 340 by omega⟩ ⟨Nat.le_of_eq (Nat.zero_add _), Nat.le_of_eq (Nat.zero_add _)⟩ (fun E => kX_no E) (fun al2 => ?_)
  refine k_ex (fun H h => h.1) (fun hal => ?_)
  refine k_W (fun H h => h.2) ?_
  refine k_i2l C0 dL_tax_7 ?_
  refine k_lastO C0 K0 (P' := lP 0 r) dL_tax_8 (fun _ => rfl) ?_
  refine k_goto C0 15 dL_tax_9 (by decide) ?_
  refine k_iconst C0 0 dL_tax_15 (by decide) ?_
  exact k_iret C0 dL_tax_16 hr hlk (Nat.le_of_eq (Nat.zero_add _)) (Nat.le_of_eq (Nat.zero_add _)) al2 rfl (fun H h => ⟨hal, h⟩)
set_option maxRecDepth 100000 in
set_option maxHeartbeats 4000000 in
theorem lx_tax_1 (l : Launch) (D : va_G) (Y : Nat → Nat) (A : Nat → Prop) (sg : Sg) (al : Nat → Nat → Nat) (o ao : Nat) (ar : Nat → Nat) (mu : Rm) (a : Int32) (r : Int32) {F LOC mc ms : Nat} (hF : F ≤ 13) (hL : LOC ≤ 310) (hM : CT l yX5_tax (Cond.code yX5_tax cX5_tax 2 (some .int)) F LOC D Y A [.ref (al 0 0), .int a] (LWo D Y A sg al o ar mu ao lT) (fun _ : Unit => none) (fun (_ : Unit) (_ : Heap) => False) (xE "java/lang/IndexOutOfBoundsException" (LWo D Y A sg al o ar mu ao lT)) mc ms) : CT l yL_tax (Cond.codeWith yL_tax cL_tax 4 (some .int) [(0, 9, 12, 25)]) 14 340 D Y A [.ref (al 0 0), .int a, .ref ao] (LWo D Y A sg al o ar mu ao lT) (fun _ : Nat → Nat → Nat => some (.int 1)) (fun al' : Nat → Nat → Nat => fun H => al' 0 0 = al 0 0 ∧ LWo D Y A sg al' o ar mu ao (lP 1 r) H) noX mc ms := by
  refine CT.ofH (by decide) (Nat.le_of_ble_eq_true rfl) ?_
  intro p_ e_ s_ m_ below_ meth_ c_ C0 K0 hr hlk htab
  refine k_aload_n C0 dL_tax_0 2 rfl ?_
  refine k_iconst C0 0 dL_tax_1 (by decide) ?_
  refine k_aload_n C0 dL_tax_2 0 rfl ?_
  refine k_iload_n C0 dL_tax_3 1 rfl ?_
  refine k_callV C0 K0 dL_tax_4 hM gkL_40 hyX5_tax (lw_recv K0) rfl (by exact Nat.le_of_ble_eq_true rfl) ⟨Nat.succ_le_succ hF, show 8 + (2 + 11) + LOC ≤ 340 by omega⟩ ⟨Nat.le_of_eq (Nat.zero_add _), Nat.le_of_eq (Nat.zero_add _)⟩ (fun E => kX_xE ?_ E) (fun _ => fun _ _ _ h => h.elim)
  refine k_catch C0 K0 [] ⟨0, 9, 12, 25⟩ [] htab (fun _ h => absurd h List.not_mem_nil) (by decide) (by decide) (tB 86 rfl rfl) (by decide) (fun q => ?_)
  refine k_astore_n C0 [(3, _), (0, _), (1, _), (2, _)] dL_tax_12 (by decide) rfl ?_
  refine k_iconst C0 1 dL_tax_13 (by decide) ?_
  exact k_iret C0 dL_tax_14 hr hlk (Nat.le_of_eq (Nat.zero_add _)) (Nat.le_of_eq (Nat.zero_add _)) al rfl (fun H h => ⟨rfl, (h.mono (fun v _ z => absurd z (by decide)))⟩)
set_option maxRecDepth 100000 in
set_option maxHeartbeats 4000000 in
theorem lo_shopShare (l : Launch) (D : va_G) (Y : Nat → Nat) (A : Nat → Prop) (sg sg2 : Sg) (al : Nat → Nat → Nat) (o ao : Nat) (ar : Nat → Nat) (mu : Rm) (a : Int32) (r : Int32) {F LOC mc ms : Nat} (hF : F ≤ 13) (hL : LOC ≤ 310) (hM : CT l yX5_shopShare (Cond.code yX5_shopShare cX5_shopShare 2 (some .int)) F LOC D Y A [.ref (al 0 0), .int a] (LWo D Y A sg al o ar mu ao lT) (fun _ : Nat → Nat → Nat => some (.int r)) (fun al' : Nat → Nat → Nat => fun H => al' 0 0 = al 0 0 ∧ LWo D Y A sg2 al' o ar mu ao lT H) noX mc ms) : CT l yL_shopShare (Cond.codeWith yL_shopShare cL_shopShare 4 (some .int) [(0, 9, 12, 25)]) 14 340 D Y A [.ref (al 0 0), .int a, .ref ao] (LWo D Y A sg al o ar mu ao lT) (fun _ : Nat → Nat → Nat => some (.int 0)) (fun al' : Nat → Nat → Nat => fun H => al' 0 0 = al 0 0 ∧ LWo D Y A sg2 al' o ar mu ao (lP 0 r) H) noX mc ms := by
  refine CT.ofH (by decide) (Nat.le_of_ble_eq_true rfl) ?_
  intro p_ e_ s_ m_ below_ meth_ c_ C0 K0 hr hlk htab
  refine k_aload_n C0 dL_shopShare_0 2 rfl ?_
  refine k_iconst C0 0 dL_shopShare_1 (by decide) ?_
  refine k_aload_n C0 dL_shopShare_2 0 rfl ?_
  refine k_iload_n C0 dL_shopShare_3 1 rfl ?_
  refine k_callV C0 K0 dL_shopShare_4 hM gkL_43 hyX5_shopShare (lw_recv K0) rfl (by exact Nat.le_of_ble_eq_true rfl) ⟨Nat.succ_le_succ hF, show 8 + (2 + 11) + LOC ≤ 340 by omega⟩ ⟨Nat.le_of_eq (Nat.zero_add _), Nat.le_of_eq (Nat.zero_add _)⟩ (fun E => kX_no E) (fun al2 => ?_)
  refine k_ex (fun H h => h.1) (fun hal => ?_)
  refine k_W (fun H h => h.2) ?_
  refine k_i2l C0 dL_shopShare_7 ?_
  refine k_lastO C0 K0 (P' := lP 0 r) dL_shopShare_8 (fun _ => rfl) ?_
  refine k_goto C0 15 dL_shopShare_9 (by decide) ?_
  refine k_iconst C0 0 dL_shopShare_15 (by decide) ?_
  exact k_iret C0 dL_shopShare_16 hr hlk (Nat.le_of_eq (Nat.zero_add _)) (Nat.le_of_eq (Nat.zero_add _)) al2 rfl (fun H h => ⟨hal, h⟩)
set_option maxRecDepth 100000 in
set_option maxHeartbeats 4000000 in
theorem lx_shopShare_1 (l : Launch) (D : va_G) (Y : Nat → Nat) (A : Nat → Prop) (sg : Sg) (al : Nat → Nat → Nat) (o ao : Nat) (ar : Nat → Nat) (mu : Rm) (a : Int32) (r : Int32) {F LOC mc ms : Nat} (hF : F ≤ 13) (hL : LOC ≤ 310) (hM : CT l yX5_shopShare (Cond.code yX5_shopShare cX5_shopShare 2 (some .int)) F LOC D Y A [.ref (al 0 0), .int a] (LWo D Y A sg al o ar mu ao lT) (fun _ : Unit => none) (fun (_ : Unit) (_ : Heap) => False) (xE "java/lang/IndexOutOfBoundsException" (LWo D Y A sg al o ar mu ao lT)) mc ms) : CT l yL_shopShare (Cond.codeWith yL_shopShare cL_shopShare 4 (some .int) [(0, 9, 12, 25)]) 14 340 D Y A [.ref (al 0 0), .int a, .ref ao] (LWo D Y A sg al o ar mu ao lT) (fun _ : Nat → Nat → Nat => some (.int 1)) (fun al' : Nat → Nat → Nat => fun H => al' 0 0 = al 0 0 ∧ LWo D Y A sg al' o ar mu ao (lP 1 r) H) noX mc ms := by
  refine CT.ofH (by decide) (Nat.le_of_ble_eq_true rfl) ?_
  intro p_ e_ s_ m_ below_ meth_ c_ C0 K0 hr hlk htab
  refine k_aload_n C0 dL_shopShare_0 2 rfl ?_
  refine k_iconst C0 0 dL_shopShare_1 (by decide) ?_
  refine k_aload_n C0 dL_shopShare_2 0 rfl ?_
  refine k_iload_n C0 dL_shopShare_3 1 rfl ?_
  refine k_callV C0 K0 dL_shopShare_4 hM gkL_43 hyX5_shopShare (lw_recv K0) rfl (by exact Nat.le_of_ble_eq_true rfl) ⟨Nat.succ_le_succ hF, show 8 + (2 + 11) + LOC ≤ 340 by omega⟩ ⟨Nat.le_of_eq (Nat.zero_add _), Nat.le_of_eq (Nat.zero_add _)⟩ (fun E => kX_xE ?_ E) (fun _ => fun _ _ _ h => h.elim)
  refine k_catch C0 K0 [] ⟨0, 9, 12, 25⟩ [] htab (fun _ h => absurd h List.not_mem_nil) (by decide) (by decide) (tB 86 rfl rfl) (by decide) (fun q => ?_)
  refine k_astore_n C0 [(3, _), (0, _), (1, _), (2, _)] dL_shopShare_12 (by decide) rfl ?_
  refine k_iconst C0 1 dL_shopShare_13 (by decide) ?_
  exact k_iret C0 dL_shopShare_14 hr hlk (Nat.le_of_eq (Nat.zero_add _)) (Nat.le_of_eq (Nat.zero_add _)) al rfl (fun H h => ⟨rfl, (h.mono (fun v _ z => absurd z (by decide)))⟩)
set_option maxRecDepth 100000 in
set_option maxHeartbeats 4000000 in
theorem lo_makerPart (l : Launch) (D : va_G) (Y : Nat → Nat) (A : Nat → Prop) (sg sg2 : Sg) (al : Nat → Nat → Nat) (o ao : Nat) (ar : Nat → Nat) (mu : Rm) (a : Int32) (r : Int32) {F LOC mc ms : Nat} (hF : F ≤ 13) (hL : LOC ≤ 310) (hM : CT l yX5_makerPart (Cond.code yX5_makerPart cX5_makerPart 2 (some .int)) F LOC D Y A [.ref (al 0 0), .int a] (LWo D Y A sg al o ar mu ao lT) (fun _ : Nat → Nat → Nat => some (.int r)) (fun al' : Nat → Nat → Nat => fun H => al' 0 0 = al 0 0 ∧ LWo D Y A sg2 al' o ar mu ao lT H) noX mc ms) : CT l yL_makerPart (Cond.codeWith yL_makerPart cL_makerPart 4 (some .int) [(0, 9, 12, 25)]) 14 340 D Y A [.ref (al 0 0), .int a, .ref ao] (LWo D Y A sg al o ar mu ao lT) (fun _ : Nat → Nat → Nat => some (.int 0)) (fun al' : Nat → Nat → Nat => fun H => al' 0 0 = al 0 0 ∧ LWo D Y A sg2 al' o ar mu ao (lP 0 r) H) noX mc ms := by
  refine CT.ofH (by decide) (Nat.le_of_ble_eq_true rfl) ?_
  intro p_ e_ s_ m_ below_ meth_ c_ C0 K0 hr hlk htab
  refine k_aload_n C0 dL_makerPart_0 2 rfl ?_
  refine k_iconst C0 0 dL_makerPart_1 (by decide) ?_
  refine k_aload_n C0 dL_makerPart_2 0 rfl ?_
  refine k_iload_n C0 dL_makerPart_3 1 rfl ?_
  refine k_callV C0 K0 dL_makerPart_4 hM gkL_46 hyX5_makerPart (lw_recv K0) rfl (by exact Nat.le_of_ble_eq_true rfl) ⟨Nat.succ_le_succ hF, show 8 + (2 + 11) + LOC ≤ 340 by omega⟩ ⟨Nat.le_of_eq (Nat.zero_add _), Nat.le_of_eq (Nat.zero_add _)⟩ (fun E => kX_no E) (fun al2 => ?_)
  refine k_ex (fun H h => h.1) (fun hal => ?_)
  refine k_W (fun H h => h.2) ?_
  refine k_i2l C0 dL_makerPart_7 ?_
  refine k_lastO C0 K0 (P' := lP 0 r) dL_makerPart_8 (fun _ => rfl) ?_
  refine k_goto C0 15 dL_makerPart_9 (by decide) ?_
  refine k_iconst C0 0 dL_makerPart_15 (by decide) ?_
  exact k_iret C0 dL_makerPart_16 hr hlk (Nat.le_of_eq (Nat.zero_add _)) (Nat.le_of_eq (Nat.zero_add _)) al2 rfl (fun H h => ⟨hal, h⟩)
set_option maxRecDepth 100000 in
set_option maxHeartbeats 4000000 in
theorem lx_makerPart_1 (l : Launch) (D : va_G) (Y : Nat → Nat) (A : Nat → Prop) (sg : Sg) (al : Nat → Nat → Nat) (o ao : Nat) (ar : Nat → Nat) (mu : Rm) (a : Int32) (r : Int32) {F LOC mc ms : Nat} (hF : F ≤ 13) (hL : LOC ≤ 310) (hM : CT l yX5_makerPart (Cond.code yX5_makerPart cX5_makerPart 2 (some .int)) F LOC D Y A [.ref (al 0 0), .int a] (LWo D Y A sg al o ar mu ao lT) (fun _ : Unit => none) (fun (_ : Unit) (_ : Heap) => False) (xE "java/lang/IndexOutOfBoundsException" (LWo D Y A sg al o ar mu ao lT)) mc ms) : CT l yL_makerPart (Cond.codeWith yL_makerPart cL_makerPart 4 (some .int) [(0, 9, 12, 25)]) 14 340 D Y A [.ref (al 0 0), .int a, .ref ao] (LWo D Y A sg al o ar mu ao lT) (fun _ : Nat → Nat → Nat => some (.int 1)) (fun al' : Nat → Nat → Nat => fun H => al' 0 0 = al 0 0 ∧ LWo D Y A sg al' o ar mu ao (lP 1 r) H) noX mc ms := by
  refine CT.ofH (by decide) (Nat.le_of_ble_eq_true rfl) ?_
  intro p_ e_ s_ m_ below_ meth_ c_ C0 K0 hr hlk htab
  refine k_aload_n C0 dL_makerPart_0 2 rfl ?_
  refine k_iconst C0 0 dL_makerPart_1 (by decide) ?_
  refine k_aload_n C0 dL_makerPart_2 0 rfl ?_
  refine k_iload_n C0 dL_makerPart_3 1 rfl ?_
  refine k_callV C0 K0 dL_makerPart_4 hM gkL_46 hyX5_makerPart (lw_recv K0) rfl (by exact Nat.le_of_ble_eq_true rfl) ⟨Nat.succ_le_succ hF, show 8 + (2 + 11) + LOC ≤ 340 by omega⟩ ⟨Nat.le_of_eq (Nat.zero_add _), Nat.le_of_eq (Nat.zero_add _)⟩ (fun E => kX_xE ?_ E) (fun _ => fun _ _ _ h => h.elim)
  refine k_catch C0 K0 [] ⟨0, 9, 12, 25⟩ [] htab (fun _ h => absurd h List.not_mem_nil) (by decide) (by decide) (tB 86 rfl rfl) (by decide) (fun q => ?_)
  refine k_astore_n C0 [(3, _), (0, _), (1, _), (2, _)] dL_makerPart_12 (by decide) rfl ?_
  refine k_iconst C0 1 dL_makerPart_13 (by decide) ?_
  exact k_iret C0 dL_makerPart_14 hr hlk (Nat.le_of_eq (Nat.zero_add _)) (Nat.le_of_eq (Nat.zero_add _)) al rfl (fun H h => ⟨rfl, (h.mono (fun v _ z => absurd z (by decide)))⟩)
set_option maxRecDepth 100000 in
set_option maxHeartbeats 4000000 in
theorem lo_subscribe (l : Launch) (D : va_G) (Y : Nat → Nat) (A : Nat → Prop) (sg sg2 : Sg) (al : Nat → Nat → Nat) (o ao : Nat) (ar : Nat → Nat) (mu : Rm) (a b c d : Int32) (r : Int32) {F LOC mc ms : Nat} (hF : F ≤ 13) (hL : LOC ≤ 310) (hM : CT l yX5_subscribe (Cond.code yX5_subscribe cX5_subscribe 7 (some .int)) F LOC D Y A [.ref (al 0 0), .int a, .int b, .int c, .int d] (LWo D Y A sg al o ar mu ao lT) (fun _ : Nat → Nat → Nat => some (.int r)) (fun al' : Nat → Nat → Nat => fun H => al' 0 0 = al 0 0 ∧ LWo D Y A sg2 al' o ar mu ao lT H) noX mc ms) : CT l yL_subscribe (Cond.codeWith yL_subscribe cL_subscribe 7 (some .int) [(0, 14, 17, 25), (0, 14, 21, 13), (0, 14, 25, 19)]) 14 340 D Y A [.ref (al 0 0), .int a, .int b, .int c, .int d, .ref ao] (LWo D Y A sg al o ar mu ao lT) (fun _ : Nat → Nat → Nat => some (.int 0)) (fun al' : Nat → Nat → Nat => fun H => al' 0 0 = al 0 0 ∧ LWo D Y A sg2 al' o ar mu ao (lP 0 r) H) noX mc ms := by
  refine CT.ofH (by decide) (Nat.le_of_ble_eq_true rfl) ?_
  intro p_ e_ s_ m_ below_ meth_ c_ C0 K0 hr hlk htab
  refine k_aload C0 dL_subscribe_0 5 rfl ?_
  refine k_iconst C0 0 dL_subscribe_2 (by decide) ?_
  refine k_aload_n C0 dL_subscribe_3 0 rfl ?_
  refine k_iload_n C0 dL_subscribe_4 1 rfl ?_
  refine k_iload_n C0 dL_subscribe_5 2 rfl ?_
  refine k_iload_n C0 dL_subscribe_6 3 rfl ?_
  refine k_iload C0 dL_subscribe_7 4 rfl ?_
  refine k_callV C0 K0 dL_subscribe_9 hM gkL_49 hyX5_subscribe (lw_recv K0) rfl (by exact Nat.le_of_ble_eq_true rfl) ⟨Nat.succ_le_succ hF, show 8 + (7 + 11) + LOC ≤ 340 by omega⟩ ⟨Nat.le_of_eq (Nat.zero_add _), Nat.le_of_eq (Nat.zero_add _)⟩ (fun E => kX_no E) (fun al2 => ?_)
  refine k_ex (fun H h => h.1) (fun hal => ?_)
  refine k_W (fun H h => h.2) ?_
  refine k_i2l C0 dL_subscribe_12 ?_
  refine k_lastO C0 K0 (P' := lP 0 r) dL_subscribe_13 (fun _ => rfl) ?_
  refine k_goto C0 29 dL_subscribe_14 (by decide) ?_
  refine k_iconst C0 0 dL_subscribe_29 (by decide) ?_
  exact k_iret C0 dL_subscribe_30 hr hlk (Nat.le_of_eq (Nat.zero_add _)) (Nat.le_of_eq (Nat.zero_add _)) al2 rfl (fun H h => ⟨hal, h⟩)
set_option maxRecDepth 100000 in
set_option maxHeartbeats 4000000 in
theorem lx_subscribe_1 (l : Launch) (D : va_G) (Y : Nat → Nat) (A : Nat → Prop) (sg : Sg) (al : Nat → Nat → Nat) (o ao : Nat) (ar : Nat → Nat) (mu : Rm) (a b c d : Int32) (r : Int32) {F LOC mc ms : Nat} (hF : F ≤ 13) (hL : LOC ≤ 310) (hM : CT l yX5_subscribe (Cond.code yX5_subscribe cX5_subscribe 7 (some .int)) F LOC D Y A [.ref (al 0 0), .int a, .int b, .int c, .int d] (LWo D Y A sg al o ar mu ao lT) (fun _ : Unit => none) (fun (_ : Unit) (_ : Heap) => False) (xE "java/lang/IndexOutOfBoundsException" (LWo D Y A sg al o ar mu ao lT)) mc ms) : CT l yL_subscribe (Cond.codeWith yL_subscribe cL_subscribe 7 (some .int) [(0, 14, 17, 25), (0, 14, 21, 13), (0, 14, 25, 19)]) 14 340 D Y A [.ref (al 0 0), .int a, .int b, .int c, .int d, .ref ao] (LWo D Y A sg al o ar mu ao lT) (fun _ : Nat → Nat → Nat => some (.int 1)) (fun al' : Nat → Nat → Nat => fun H => al' 0 0 = al 0 0 ∧ LWo D Y A sg al' o ar mu ao (lP 1 r) H) noX mc ms := by
  refine CT.ofH (by decide) (Nat.le_of_ble_eq_true rfl) ?_
  intro p_ e_ s_ m_ below_ meth_ c_ C0 K0 hr hlk htab
  refine k_aload C0 dL_subscribe_0 5 rfl ?_
  refine k_iconst C0 0 dL_subscribe_2 (by decide) ?_
  refine k_aload_n C0 dL_subscribe_3 0 rfl ?_
  refine k_iload_n C0 dL_subscribe_4 1 rfl ?_
  refine k_iload_n C0 dL_subscribe_5 2 rfl ?_
  refine k_iload_n C0 dL_subscribe_6 3 rfl ?_
  refine k_iload C0 dL_subscribe_7 4 rfl ?_
  refine k_callV C0 K0 dL_subscribe_9 hM gkL_49 hyX5_subscribe (lw_recv K0) rfl (by exact Nat.le_of_ble_eq_true rfl) ⟨Nat.succ_le_succ hF, show 8 + (7 + 11) + LOC ≤ 340 by omega⟩ ⟨Nat.le_of_eq (Nat.zero_add _), Nat.le_of_eq (Nat.zero_add _)⟩ (fun E => kX_xE ?_ E) (fun _ => fun _ _ _ h => h.elim)
  refine k_catch C0 K0 [] ⟨0, 14, 17, 25⟩ [⟨0, 14, 21, 13⟩, ⟨0, 14, 25, 19⟩] htab (fun _ h => absurd h List.not_mem_nil) (by decide) (by decide) (tB 86 rfl rfl) (by decide) (fun q => ?_)
  refine k_astore C0 [(6, _), (0, _), (1, _), (2, _), (3, _), (4, _), (5, _)] dL_subscribe_17 (by decide) rfl ?_
  refine k_iconst C0 1 dL_subscribe_19 (by decide) ?_
  exact k_iret C0 dL_subscribe_20 hr hlk (Nat.le_of_eq (Nat.zero_add _)) (Nat.le_of_eq (Nat.zero_add _)) al rfl (fun H h => ⟨rfl, (h.mono (fun v _ z => absurd z (by decide)))⟩)
set_option maxRecDepth 100000 in
set_option maxHeartbeats 4000000 in
theorem lx_subscribe_2 (l : Launch) (D : va_G) (Y : Nat → Nat) (A : Nat → Prop) (sg : Sg) (al : Nat → Nat → Nat) (o ao : Nat) (ar : Nat → Nat) (mu : Rm) (a b c d : Int32) (r : Int32) {F LOC mc ms : Nat} (hF : F ≤ 13) (hL : LOC ≤ 310) (hM : CT l yX5_subscribe (Cond.code yX5_subscribe cX5_subscribe 7 (some .int)) F LOC D Y A [.ref (al 0 0), .int a, .int b, .int c, .int d] (LWo D Y A sg al o ar mu ao lT) (fun _ : Unit => none) (fun (_ : Unit) (_ : Heap) => False) (xE "java/lang/IllegalArgumentException" (LWo D Y A sg al o ar mu ao lT)) mc ms) : CT l yL_subscribe (Cond.codeWith yL_subscribe cL_subscribe 7 (some .int) [(0, 14, 17, 25), (0, 14, 21, 13), (0, 14, 25, 19)]) 14 340 D Y A [.ref (al 0 0), .int a, .int b, .int c, .int d, .ref ao] (LWo D Y A sg al o ar mu ao lT) (fun _ : Nat → Nat → Nat => some (.int 2)) (fun al' : Nat → Nat → Nat => fun H => al' 0 0 = al 0 0 ∧ LWo D Y A sg al' o ar mu ao (lP 2 r) H) noX mc ms := by
  refine CT.ofH (by decide) (Nat.le_of_ble_eq_true rfl) ?_
  intro p_ e_ s_ m_ below_ meth_ c_ C0 K0 hr hlk htab
  refine k_aload C0 dL_subscribe_0 5 rfl ?_
  refine k_iconst C0 0 dL_subscribe_2 (by decide) ?_
  refine k_aload_n C0 dL_subscribe_3 0 rfl ?_
  refine k_iload_n C0 dL_subscribe_4 1 rfl ?_
  refine k_iload_n C0 dL_subscribe_5 2 rfl ?_
  refine k_iload_n C0 dL_subscribe_6 3 rfl ?_
  refine k_iload C0 dL_subscribe_7 4 rfl ?_
  refine k_callV C0 K0 dL_subscribe_9 hM gkL_49 hyX5_subscribe (lw_recv K0) rfl (by exact Nat.le_of_ble_eq_true rfl) ⟨Nat.succ_le_succ hF, show 8 + (7 + 11) + LOC ≤ 340 by omega⟩ ⟨Nat.le_of_eq (Nat.zero_add _), Nat.le_of_eq (Nat.zero_add _)⟩ (fun E => kX_xE ?_ E) (fun _ => fun _ _ _ h => h.elim)
  refine k_catch C0 K0 [⟨0, 14, 17, 25⟩] ⟨0, 14, 21, 13⟩ [⟨0, 14, 25, 19⟩] htab (List.forall_mem_cons.mpr ⟨Or.inr ⟨by decide, "java/lang/IndexOutOfBoundsException", (tB 86 rfl rfl), by decide⟩, (fun _ h => absurd h List.not_mem_nil)⟩) (by decide) (by decide) (tA 130 rfl rfl) (by decide) (fun q => ?_)
  refine k_astore C0 [(6, _), (0, _), (1, _), (2, _), (3, _), (4, _), (5, _)] dL_subscribe_21 (by decide) rfl ?_
  refine k_iconst C0 2 dL_subscribe_23 (by decide) ?_
  exact k_iret C0 dL_subscribe_24 hr hlk (Nat.le_of_eq (Nat.zero_add _)) (Nat.le_of_eq (Nat.zero_add _)) al rfl (fun H h => ⟨rfl, (h.mono (fun v _ z => absurd z (by decide)))⟩)
set_option maxRecDepth 100000 in
set_option maxHeartbeats 4000000 in
theorem lx_subscribe_3 (l : Launch) (D : va_G) (Y : Nat → Nat) (A : Nat → Prop) (sg : Sg) (al : Nat → Nat → Nat) (o ao : Nat) (ar : Nat → Nat) (mu : Rm) (a b c d : Int32) (r : Int32) {F LOC mc ms : Nat} (hF : F ≤ 13) (hL : LOC ≤ 310) (hM : CT l yX5_subscribe (Cond.code yX5_subscribe cX5_subscribe 7 (some .int)) F LOC D Y A [.ref (al 0 0), .int a, .int b, .int c, .int d] (LWo D Y A sg al o ar mu ao lT) (fun _ : Unit => none) (fun (_ : Unit) (_ : Heap) => False) (xE "java/lang/IllegalStateException" (LWo D Y A sg al o ar mu ao lT)) mc ms) : CT l yL_subscribe (Cond.codeWith yL_subscribe cL_subscribe 7 (some .int) [(0, 14, 17, 25), (0, 14, 21, 13), (0, 14, 25, 19)]) 14 340 D Y A [.ref (al 0 0), .int a, .int b, .int c, .int d, .ref ao] (LWo D Y A sg al o ar mu ao lT) (fun _ : Nat → Nat → Nat => some (.int 3)) (fun al' : Nat → Nat → Nat => fun H => al' 0 0 = al 0 0 ∧ LWo D Y A sg al' o ar mu ao (lP 3 r) H) noX mc ms := by
  refine CT.ofH (by decide) (Nat.le_of_ble_eq_true rfl) ?_
  intro p_ e_ s_ m_ below_ meth_ c_ C0 K0 hr hlk htab
  refine k_aload C0 dL_subscribe_0 5 rfl ?_
  refine k_iconst C0 0 dL_subscribe_2 (by decide) ?_
  refine k_aload_n C0 dL_subscribe_3 0 rfl ?_
  refine k_iload_n C0 dL_subscribe_4 1 rfl ?_
  refine k_iload_n C0 dL_subscribe_5 2 rfl ?_
  refine k_iload_n C0 dL_subscribe_6 3 rfl ?_
  refine k_iload C0 dL_subscribe_7 4 rfl ?_
  refine k_callV C0 K0 dL_subscribe_9 hM gkL_49 hyX5_subscribe (lw_recv K0) rfl (by exact Nat.le_of_ble_eq_true rfl) ⟨Nat.succ_le_succ hF, show 8 + (7 + 11) + LOC ≤ 340 by omega⟩ ⟨Nat.le_of_eq (Nat.zero_add _), Nat.le_of_eq (Nat.zero_add _)⟩ (fun E => kX_xE ?_ E) (fun _ => fun _ _ _ h => h.elim)
  refine k_catch C0 K0 [⟨0, 14, 17, 25⟩, ⟨0, 14, 21, 13⟩] ⟨0, 14, 25, 19⟩ [] htab (List.forall_mem_cons.mpr ⟨Or.inr ⟨by decide, "java/lang/IndexOutOfBoundsException", (tB 86 rfl rfl), by decide⟩, (List.forall_mem_cons.mpr ⟨Or.inr ⟨by decide, "java/lang/IllegalArgumentException", (tA 130 rfl rfl), by decide⟩, (fun _ h => absurd h List.not_mem_nil)⟩)⟩) (by decide) (by decide) (tA 214 rfl rfl) (by decide) (fun q => ?_)
  refine k_astore C0 [(6, _), (0, _), (1, _), (2, _), (3, _), (4, _), (5, _)] dL_subscribe_25 (by decide) rfl ?_
  refine k_iconst C0 3 dL_subscribe_27 (by decide) ?_
  exact k_iret C0 dL_subscribe_28 hr hlk (Nat.le_of_eq (Nat.zero_add _)) (Nat.le_of_eq (Nat.zero_add _)) al rfl (fun H h => ⟨rfl, (h.mono (fun v _ z => absurd z (by decide)))⟩)
set_option maxRecDepth 100000 in
set_option maxHeartbeats 4000000 in
theorem lo_move (l : Launch) (D : va_G) (Y : Nat → Nat) (A : Nat → Prop) (sg sg2 : Sg) (al : Nat → Nat → Nat) (o ao : Nat) (ar : Nat → Nat) (mu : Rm) (a b : Int32) (r : Int32) {F LOC mc ms : Nat} (hF : F ≤ 13) (hL : LOC ≤ 310) (hM : CT l yX5_move (Cond.code yX5_move cX5_move 6 (some .int)) F LOC D Y A [.ref (al 0 0), .int a, .int b] (LWo D Y A sg al o ar mu ao lT) (fun _ : Nat → Nat → Nat => some (.int r)) (fun al' : Nat → Nat → Nat => fun H => al' 0 0 = al 0 0 ∧ LWo D Y A sg2 al' o ar mu ao lT H) noX mc ms) : CT l yL_move (Cond.codeWith yL_move cL_move 5 (some .int) [(0, 10, 13, 25), (0, 10, 17, 13), (0, 10, 21, 19)]) 14 340 D Y A [.ref (al 0 0), .int a, .int b, .ref ao] (LWo D Y A sg al o ar mu ao lT) (fun _ : Nat → Nat → Nat => some (.int 0)) (fun al' : Nat → Nat → Nat => fun H => al' 0 0 = al 0 0 ∧ LWo D Y A sg2 al' o ar mu ao (lP 0 r) H) noX mc ms := by
  refine CT.ofH (by decide) (Nat.le_of_ble_eq_true rfl) ?_
  intro p_ e_ s_ m_ below_ meth_ c_ C0 K0 hr hlk htab
  refine k_aload_n C0 dL_move_0 3 rfl ?_
  refine k_iconst C0 0 dL_move_1 (by decide) ?_
  refine k_aload_n C0 dL_move_2 0 rfl ?_
  refine k_iload_n C0 dL_move_3 1 rfl ?_
  refine k_iload_n C0 dL_move_4 2 rfl ?_
  refine k_callV C0 K0 dL_move_5 hM gkL_53 hyX5_move (lw_recv K0) rfl (by exact Nat.le_of_ble_eq_true rfl) ⟨Nat.succ_le_succ hF, show 8 + (6 + 11) + LOC ≤ 340 by omega⟩ ⟨Nat.le_of_eq (Nat.zero_add _), Nat.le_of_eq (Nat.zero_add _)⟩ (fun E => kX_no E) (fun al2 => ?_)
  refine k_ex (fun H h => h.1) (fun hal => ?_)
  refine k_W (fun H h => h.2) ?_
  refine k_i2l C0 dL_move_8 ?_
  refine k_lastO C0 K0 (P' := lP 0 r) dL_move_9 (fun _ => rfl) ?_
  refine k_goto C0 25 dL_move_10 (by decide) ?_
  refine k_iconst C0 0 dL_move_25 (by decide) ?_
  exact k_iret C0 dL_move_26 hr hlk (Nat.le_of_eq (Nat.zero_add _)) (Nat.le_of_eq (Nat.zero_add _)) al2 rfl (fun H h => ⟨hal, h⟩)
set_option maxRecDepth 100000 in
set_option maxHeartbeats 4000000 in
theorem lx_move_1 (l : Launch) (D : va_G) (Y : Nat → Nat) (A : Nat → Prop) (sg : Sg) (al : Nat → Nat → Nat) (o ao : Nat) (ar : Nat → Nat) (mu : Rm) (a b : Int32) (r : Int32) {F LOC mc ms : Nat} (hF : F ≤ 13) (hL : LOC ≤ 310) (hM : CT l yX5_move (Cond.code yX5_move cX5_move 6 (some .int)) F LOC D Y A [.ref (al 0 0), .int a, .int b] (LWo D Y A sg al o ar mu ao lT) (fun _ : Unit => none) (fun (_ : Unit) (_ : Heap) => False) (xE "java/lang/IndexOutOfBoundsException" (LWo D Y A sg al o ar mu ao lT)) mc ms) : CT l yL_move (Cond.codeWith yL_move cL_move 5 (some .int) [(0, 10, 13, 25), (0, 10, 17, 13), (0, 10, 21, 19)]) 14 340 D Y A [.ref (al 0 0), .int a, .int b, .ref ao] (LWo D Y A sg al o ar mu ao lT) (fun _ : Nat → Nat → Nat => some (.int 1)) (fun al' : Nat → Nat → Nat => fun H => al' 0 0 = al 0 0 ∧ LWo D Y A sg al' o ar mu ao (lP 1 r) H) noX mc ms := by
  refine CT.ofH (by decide) (Nat.le_of_ble_eq_true rfl) ?_
  intro p_ e_ s_ m_ below_ meth_ c_ C0 K0 hr hlk htab
  refine k_aload_n C0 dL_move_0 3 rfl ?_
  refine k_iconst C0 0 dL_move_1 (by decide) ?_
  refine k_aload_n C0 dL_move_2 0 rfl ?_
  refine k_iload_n C0 dL_move_3 1 rfl ?_
  refine k_iload_n C0 dL_move_4 2 rfl ?_
  refine k_callV C0 K0 dL_move_5 hM gkL_53 hyX5_move (lw_recv K0) rfl (by exact Nat.le_of_ble_eq_true rfl) ⟨Nat.succ_le_succ hF, show 8 + (6 + 11) + LOC ≤ 340 by omega⟩ ⟨Nat.le_of_eq (Nat.zero_add _), Nat.le_of_eq (Nat.zero_add _)⟩ (fun E => kX_xE ?_ E) (fun _ => fun _ _ _ h => h.elim)
  refine k_catch C0 K0 [] ⟨0, 10, 13, 25⟩ [⟨0, 10, 17, 13⟩, ⟨0, 10, 21, 19⟩] htab (fun _ h => absurd h List.not_mem_nil) (by decide) (by decide) (tB 86 rfl rfl) (by decide) (fun q => ?_)
  refine k_astore C0 [(4, _), (0, _), (1, _), (2, _), (3, _)] dL_move_13 (by decide) rfl ?_
  refine k_iconst C0 1 dL_move_15 (by decide) ?_
  exact k_iret C0 dL_move_16 hr hlk (Nat.le_of_eq (Nat.zero_add _)) (Nat.le_of_eq (Nat.zero_add _)) al rfl (fun H h => ⟨rfl, (h.mono (fun v _ z => absurd z (by decide)))⟩)
set_option maxRecDepth 100000 in
set_option maxHeartbeats 4000000 in
theorem lx_move_2 (l : Launch) (D : va_G) (Y : Nat → Nat) (A : Nat → Prop) (sg : Sg) (al : Nat → Nat → Nat) (o ao : Nat) (ar : Nat → Nat) (mu : Rm) (a b : Int32) (r : Int32) {F LOC mc ms : Nat} (hF : F ≤ 13) (hL : LOC ≤ 310) (hM : CT l yX5_move (Cond.code yX5_move cX5_move 6 (some .int)) F LOC D Y A [.ref (al 0 0), .int a, .int b] (LWo D Y A sg al o ar mu ao lT) (fun _ : Unit => none) (fun (_ : Unit) (_ : Heap) => False) (xE "java/lang/IllegalArgumentException" (LWo D Y A sg al o ar mu ao lT)) mc ms) : CT l yL_move (Cond.codeWith yL_move cL_move 5 (some .int) [(0, 10, 13, 25), (0, 10, 17, 13), (0, 10, 21, 19)]) 14 340 D Y A [.ref (al 0 0), .int a, .int b, .ref ao] (LWo D Y A sg al o ar mu ao lT) (fun _ : Nat → Nat → Nat => some (.int 2)) (fun al' : Nat → Nat → Nat => fun H => al' 0 0 = al 0 0 ∧ LWo D Y A sg al' o ar mu ao (lP 2 r) H) noX mc ms := by
  refine CT.ofH (by decide) (Nat.le_of_ble_eq_true rfl) ?_
  intro p_ e_ s_ m_ below_ meth_ c_ C0 K0 hr hlk htab
  refine k_aload_n C0 dL_move_0 3 rfl ?_
  refine k_iconst C0 0 dL_move_1 (by decide) ?_
  refine k_aload_n C0 dL_move_2 0 rfl ?_
  refine k_iload_n C0 dL_move_3 1 rfl ?_
  refine k_iload_n C0 dL_move_4 2 rfl ?_
  refine k_callV C0 K0 dL_move_5 hM gkL_53 hyX5_move (lw_recv K0) rfl (by exact Nat.le_of_ble_eq_true rfl) ⟨Nat.succ_le_succ hF, show 8 + (6 + 11) + LOC ≤ 340 by omega⟩ ⟨Nat.le_of_eq (Nat.zero_add _), Nat.le_of_eq (Nat.zero_add _)⟩ (fun E => kX_xE ?_ E) (fun _ => fun _ _ _ h => h.elim)
  refine k_catch C0 K0 [⟨0, 10, 13, 25⟩] ⟨0, 10, 17, 13⟩ [⟨0, 10, 21, 19⟩] htab (List.forall_mem_cons.mpr ⟨Or.inr ⟨by decide, "java/lang/IndexOutOfBoundsException", (tB 86 rfl rfl), by decide⟩, (fun _ h => absurd h List.not_mem_nil)⟩) (by decide) (by decide) (tA 130 rfl rfl) (by decide) (fun q => ?_)
  refine k_astore C0 [(4, _), (0, _), (1, _), (2, _), (3, _)] dL_move_17 (by decide) rfl ?_
  refine k_iconst C0 2 dL_move_19 (by decide) ?_
  exact k_iret C0 dL_move_20 hr hlk (Nat.le_of_eq (Nat.zero_add _)) (Nat.le_of_eq (Nat.zero_add _)) al rfl (fun H h => ⟨rfl, (h.mono (fun v _ z => absurd z (by decide)))⟩)
set_option maxRecDepth 100000 in
set_option maxHeartbeats 4000000 in
theorem lx_move_3 (l : Launch) (D : va_G) (Y : Nat → Nat) (A : Nat → Prop) (sg : Sg) (al : Nat → Nat → Nat) (o ao : Nat) (ar : Nat → Nat) (mu : Rm) (a b : Int32) (r : Int32) {F LOC mc ms : Nat} (hF : F ≤ 13) (hL : LOC ≤ 310) (hM : CT l yX5_move (Cond.code yX5_move cX5_move 6 (some .int)) F LOC D Y A [.ref (al 0 0), .int a, .int b] (LWo D Y A sg al o ar mu ao lT) (fun _ : Unit => none) (fun (_ : Unit) (_ : Heap) => False) (xE "java/lang/IllegalStateException" (LWo D Y A sg al o ar mu ao lT)) mc ms) : CT l yL_move (Cond.codeWith yL_move cL_move 5 (some .int) [(0, 10, 13, 25), (0, 10, 17, 13), (0, 10, 21, 19)]) 14 340 D Y A [.ref (al 0 0), .int a, .int b, .ref ao] (LWo D Y A sg al o ar mu ao lT) (fun _ : Nat → Nat → Nat => some (.int 3)) (fun al' : Nat → Nat → Nat => fun H => al' 0 0 = al 0 0 ∧ LWo D Y A sg al' o ar mu ao (lP 3 r) H) noX mc ms := by
  refine CT.ofH (by decide) (Nat.le_of_ble_eq_true rfl) ?_
  intro p_ e_ s_ m_ below_ meth_ c_ C0 K0 hr hlk htab
  refine k_aload_n C0 dL_move_0 3 rfl ?_
  refine k_iconst C0 0 dL_move_1 (by decide) ?_
  refine k_aload_n C0 dL_move_2 0 rfl ?_
  refine k_iload_n C0 dL_move_3 1 rfl ?_
  refine k_iload_n C0 dL_move_4 2 rfl ?_
  refine k_callV C0 K0 dL_move_5 hM gkL_53 hyX5_move (lw_recv K0) rfl (by exact Nat.le_of_ble_eq_true rfl) ⟨Nat.succ_le_succ hF, show 8 + (6 + 11) + LOC ≤ 340 by omega⟩ ⟨Nat.le_of_eq (Nat.zero_add _), Nat.le_of_eq (Nat.zero_add _)⟩ (fun E => kX_xE ?_ E) (fun _ => fun _ _ _ h => h.elim)
  refine k_catch C0 K0 [⟨0, 10, 13, 25⟩, ⟨0, 10, 17, 13⟩] ⟨0, 10, 21, 19⟩ [] htab (List.forall_mem_cons.mpr ⟨Or.inr ⟨by decide, "java/lang/IndexOutOfBoundsException", (tB 86 rfl rfl), by decide⟩, (List.forall_mem_cons.mpr ⟨Or.inr ⟨by decide, "java/lang/IllegalArgumentException", (tA 130 rfl rfl), by decide⟩, (fun _ h => absurd h List.not_mem_nil)⟩)⟩) (by decide) (by decide) (tA 214 rfl rfl) (by decide) (fun q => ?_)
  refine k_astore C0 [(4, _), (0, _), (1, _), (2, _), (3, _)] dL_move_21 (by decide) rfl ?_
  refine k_iconst C0 3 dL_move_23 (by decide) ?_
  exact k_iret C0 dL_move_24 hr hlk (Nat.le_of_eq (Nat.zero_add _)) (Nat.le_of_eq (Nat.zero_add _)) al rfl (fun H h => ⟨rfl, (h.mono (fun v _ z => absurd z (by decide)))⟩)
set_option maxRecDepth 100000 in
set_option maxHeartbeats 4000000 in
theorem lo_setFailing (l : Launch) (D : va_G) (Y : Nat → Nat) (A : Nat → Prop) (sg sg2 : Sg) (al : Nat → Nat → Nat) (o ao : Nat) (ar : Nat → Nat) (mu : Rm) (a b : Int32) (r : Int32) {F LOC mc ms : Nat} (hF : F ≤ 13) (hL : LOC ≤ 310) (hM : CT l yX5_setFailing (Cond.code yX5_setFailing cX5_setFailing 4 none) F LOC D Y A [.ref (al 0 0), .int a, .int b] (LWo D Y A sg al o ar mu ao lT) (fun _ : Nat → Nat → Nat => none) (fun al' : Nat → Nat → Nat => fun H => al' 0 0 = al 0 0 ∧ LWo D Y A sg2 al' o ar mu ao lT H) noX mc ms) : CT l yL_setFailing (Cond.codeWith yL_setFailing cL_setFailing 4 (some .int) [(0, 6, 9, 25), (0, 6, 12, 19)]) 14 340 D Y A [.ref (al 0 0), .int a, .int b] (LWo D Y A sg al o ar mu ao lT) (fun _ : Nat → Nat → Nat => some (.int 0)) (fun al' : Nat → Nat → Nat => fun H => al' 0 0 = al 0 0 ∧ LWo D Y A sg2 al' o ar mu ao lT H) noX mc ms := by
  refine CT.ofH (by decide) (Nat.le_of_ble_eq_true rfl) ?_
  intro p_ e_ s_ m_ below_ meth_ c_ C0 K0 hr hlk htab
  refine k_aload_n C0 dL_setFailing_0 0 rfl ?_
  refine k_iload_n C0 dL_setFailing_1 1 rfl ?_
  refine k_iload_n C0 dL_setFailing_2 2 rfl ?_
  refine k_callV C0 K0 dL_setFailing_3 hM gkL_56 hyX5_setFailing (lw_recv K0) rfl (by exact Nat.le_of_ble_eq_true rfl) ⟨Nat.succ_le_succ hF, show 8 + (4 + 11) + LOC ≤ 340 by omega⟩ ⟨Nat.le_of_eq (Nat.zero_add _), Nat.le_of_eq (Nat.zero_add _)⟩ (fun E => kX_no E) (fun al2 => ?_)
  refine k_ex (fun H h => h.1) (fun hal => ?_)
  refine k_W (fun H h => h.2) ?_
  refine k_goto C0 15 dL_setFailing_6 (by decide) ?_
  refine k_iconst C0 0 dL_setFailing_15 (by decide) ?_
  exact k_iret C0 dL_setFailing_16 hr hlk (Nat.le_of_eq (Nat.zero_add _)) (Nat.le_of_eq (Nat.zero_add _)) al2 rfl (fun H h => ⟨hal, h⟩)
set_option maxRecDepth 100000 in
set_option maxHeartbeats 4000000 in
theorem lx_setFailing_1 (l : Launch) (D : va_G) (Y : Nat → Nat) (A : Nat → Prop) (sg : Sg) (al : Nat → Nat → Nat) (o ao : Nat) (ar : Nat → Nat) (mu : Rm) (a b : Int32) (r : Int32) {F LOC mc ms : Nat} (hF : F ≤ 13) (hL : LOC ≤ 310) (hM : CT l yX5_setFailing (Cond.code yX5_setFailing cX5_setFailing 4 none) F LOC D Y A [.ref (al 0 0), .int a, .int b] (LWo D Y A sg al o ar mu ao lT) (fun _ : Unit => none) (fun (_ : Unit) (_ : Heap) => False) (xE "java/lang/IndexOutOfBoundsException" (LWo D Y A sg al o ar mu ao lT)) mc ms) : CT l yL_setFailing (Cond.codeWith yL_setFailing cL_setFailing 4 (some .int) [(0, 6, 9, 25), (0, 6, 12, 19)]) 14 340 D Y A [.ref (al 0 0), .int a, .int b] (LWo D Y A sg al o ar mu ao lT) (fun _ : Nat → Nat → Nat => some (.int 1)) (fun al' : Nat → Nat → Nat => fun H => al' 0 0 = al 0 0 ∧ LWo D Y A sg al' o ar mu ao lT H) noX mc ms := by
  refine CT.ofH (by decide) (Nat.le_of_ble_eq_true rfl) ?_
  intro p_ e_ s_ m_ below_ meth_ c_ C0 K0 hr hlk htab
  refine k_aload_n C0 dL_setFailing_0 0 rfl ?_
  refine k_iload_n C0 dL_setFailing_1 1 rfl ?_
  refine k_iload_n C0 dL_setFailing_2 2 rfl ?_
  refine k_callV C0 K0 dL_setFailing_3 hM gkL_56 hyX5_setFailing (lw_recv K0) rfl (by exact Nat.le_of_ble_eq_true rfl) ⟨Nat.succ_le_succ hF, show 8 + (4 + 11) + LOC ≤ 340 by omega⟩ ⟨Nat.le_of_eq (Nat.zero_add _), Nat.le_of_eq (Nat.zero_add _)⟩ (fun E => kX_xE ?_ E) (fun _ => fun _ _ _ h => h.elim)
  refine k_catch C0 K0 [] ⟨0, 6, 9, 25⟩ [⟨0, 6, 12, 19⟩] htab (fun _ h => absurd h List.not_mem_nil) (by decide) (by decide) (tB 86 rfl rfl) (by decide) (fun q => ?_)
  refine k_astore_n C0 [(3, _), (0, _), (1, _), (2, _)] dL_setFailing_9 (by decide) rfl ?_
  refine k_iconst C0 1 dL_setFailing_10 (by decide) ?_
  exact k_iret C0 dL_setFailing_11 hr hlk (Nat.le_of_eq (Nat.zero_add _)) (Nat.le_of_eq (Nat.zero_add _)) al rfl (fun H h => ⟨rfl, h⟩)
set_option maxRecDepth 100000 in
set_option maxHeartbeats 4000000 in
theorem lx_setFailing_2 (l : Launch) (D : va_G) (Y : Nat → Nat) (A : Nat → Prop) (sg : Sg) (al : Nat → Nat → Nat) (o ao : Nat) (ar : Nat → Nat) (mu : Rm) (a b : Int32) (r : Int32) {F LOC mc ms : Nat} (hF : F ≤ 13) (hL : LOC ≤ 310) (hM : CT l yX5_setFailing (Cond.code yX5_setFailing cX5_setFailing 4 none) F LOC D Y A [.ref (al 0 0), .int a, .int b] (LWo D Y A sg al o ar mu ao lT) (fun _ : Unit => none) (fun (_ : Unit) (_ : Heap) => False) (xE "java/lang/IllegalStateException" (LWo D Y A sg al o ar mu ao lT)) mc ms) : CT l yL_setFailing (Cond.codeWith yL_setFailing cL_setFailing 4 (some .int) [(0, 6, 9, 25), (0, 6, 12, 19)]) 14 340 D Y A [.ref (al 0 0), .int a, .int b] (LWo D Y A sg al o ar mu ao lT) (fun _ : Nat → Nat → Nat => some (.int 2)) (fun al' : Nat → Nat → Nat => fun H => al' 0 0 = al 0 0 ∧ LWo D Y A sg al' o ar mu ao lT H) noX mc ms := by
  refine CT.ofH (by decide) (Nat.le_of_ble_eq_true rfl) ?_
  intro p_ e_ s_ m_ below_ meth_ c_ C0 K0 hr hlk htab
  refine k_aload_n C0 dL_setFailing_0 0 rfl ?_
  refine k_iload_n C0 dL_setFailing_1 1 rfl ?_
  refine k_iload_n C0 dL_setFailing_2 2 rfl ?_
  refine k_callV C0 K0 dL_setFailing_3 hM gkL_56 hyX5_setFailing (lw_recv K0) rfl (by exact Nat.le_of_ble_eq_true rfl) ⟨Nat.succ_le_succ hF, show 8 + (4 + 11) + LOC ≤ 340 by omega⟩ ⟨Nat.le_of_eq (Nat.zero_add _), Nat.le_of_eq (Nat.zero_add _)⟩ (fun E => kX_xE ?_ E) (fun _ => fun _ _ _ h => h.elim)
  refine k_catch C0 K0 [⟨0, 6, 9, 25⟩] ⟨0, 6, 12, 19⟩ [] htab (List.forall_mem_cons.mpr ⟨Or.inr ⟨by decide, "java/lang/IndexOutOfBoundsException", (tB 86 rfl rfl), by decide⟩, (fun _ h => absurd h List.not_mem_nil)⟩) (by decide) (by decide) (tA 214 rfl rfl) (by decide) (fun q => ?_)
  refine k_astore_n C0 [(3, _), (0, _), (1, _), (2, _)] dL_setFailing_12 (by decide) rfl ?_
  refine k_iconst C0 2 dL_setFailing_13 (by decide) ?_
  exact k_iret C0 dL_setFailing_14 hr hlk (Nat.le_of_eq (Nat.zero_add _)) (Nat.le_of_eq (Nat.zero_add _)) al rfl (fun H h => ⟨rfl, h⟩)
set_option maxRecDepth 100000 in
set_option maxHeartbeats 4000000 in
theorem lo_cancel (l : Launch) (D : va_G) (Y : Nat → Nat) (A : Nat → Prop) (sg sg2 : Sg) (al : Nat → Nat → Nat) (o ao : Nat) (ar : Nat → Nat) (mu : Rm) (a : Int32) (r : Int32) {F LOC mc ms : Nat} (hF : F ≤ 13) (hL : LOC ≤ 310) (hM : CT l yX5_cancel (Cond.code yX5_cancel cX5_cancel 3 (some .int)) F LOC D Y A [.ref (al 0 0), .int a] (LWo D Y A sg al o ar mu ao lT) (fun _ : Nat → Nat → Nat => some (.int r)) (fun al' : Nat → Nat → Nat => fun H => al' 0 0 = al 0 0 ∧ LWo D Y A sg2 al' o ar mu ao lT H) noX mc ms) : CT l yL_cancel (Cond.codeWith yL_cancel cL_cancel 4 (some .int) [(0, 9, 12, 25), (0, 9, 15, 19)]) 14 340 D Y A [.ref (al 0 0), .int a, .ref ao] (LWo D Y A sg al o ar mu ao lT) (fun _ : Nat → Nat → Nat => some (.int 0)) (fun al' : Nat → Nat → Nat => fun H => al' 0 0 = al 0 0 ∧ LWo D Y A sg2 al' o ar mu ao (lP 0 r) H) noX mc ms := by
  refine CT.ofH (by decide) (Nat.le_of_ble_eq_true rfl) ?_
  intro p_ e_ s_ m_ below_ meth_ c_ C0 K0 hr hlk htab
  refine k_aload_n C0 dL_cancel_0 2 rfl ?_
  refine k_iconst C0 0 dL_cancel_1 (by decide) ?_
  refine k_aload_n C0 dL_cancel_2 0 rfl ?_
  refine k_iload_n C0 dL_cancel_3 1 rfl ?_
  refine k_callV C0 K0 dL_cancel_4 hM gkL_60 hyX5_cancel (lw_recv K0) rfl (by exact Nat.le_of_ble_eq_true rfl) ⟨Nat.succ_le_succ hF, show 8 + (3 + 11) + LOC ≤ 340 by omega⟩ ⟨Nat.le_of_eq (Nat.zero_add _), Nat.le_of_eq (Nat.zero_add _)⟩ (fun E => kX_no E) (fun al2 => ?_)
  refine k_ex (fun H h => h.1) (fun hal => ?_)
  refine k_W (fun H h => h.2) ?_
  refine k_i2l C0 dL_cancel_7 ?_
  refine k_lastO C0 K0 (P' := lP 0 r) dL_cancel_8 (fun _ => rfl) ?_
  refine k_goto C0 18 dL_cancel_9 (by decide) ?_
  refine k_iconst C0 0 dL_cancel_18 (by decide) ?_
  exact k_iret C0 dL_cancel_19 hr hlk (Nat.le_of_eq (Nat.zero_add _)) (Nat.le_of_eq (Nat.zero_add _)) al2 rfl (fun H h => ⟨hal, h⟩)
set_option maxRecDepth 100000 in
set_option maxHeartbeats 4000000 in
theorem lx_cancel_1 (l : Launch) (D : va_G) (Y : Nat → Nat) (A : Nat → Prop) (sg : Sg) (al : Nat → Nat → Nat) (o ao : Nat) (ar : Nat → Nat) (mu : Rm) (a : Int32) (r : Int32) {F LOC mc ms : Nat} (hF : F ≤ 13) (hL : LOC ≤ 310) (hM : CT l yX5_cancel (Cond.code yX5_cancel cX5_cancel 3 (some .int)) F LOC D Y A [.ref (al 0 0), .int a] (LWo D Y A sg al o ar mu ao lT) (fun _ : Unit => none) (fun (_ : Unit) (_ : Heap) => False) (xE "java/lang/IndexOutOfBoundsException" (LWo D Y A sg al o ar mu ao lT)) mc ms) : CT l yL_cancel (Cond.codeWith yL_cancel cL_cancel 4 (some .int) [(0, 9, 12, 25), (0, 9, 15, 19)]) 14 340 D Y A [.ref (al 0 0), .int a, .ref ao] (LWo D Y A sg al o ar mu ao lT) (fun _ : Nat → Nat → Nat => some (.int 1)) (fun al' : Nat → Nat → Nat => fun H => al' 0 0 = al 0 0 ∧ LWo D Y A sg al' o ar mu ao (lP 1 r) H) noX mc ms := by
  refine CT.ofH (by decide) (Nat.le_of_ble_eq_true rfl) ?_
  intro p_ e_ s_ m_ below_ meth_ c_ C0 K0 hr hlk htab
  refine k_aload_n C0 dL_cancel_0 2 rfl ?_
  refine k_iconst C0 0 dL_cancel_1 (by decide) ?_
  refine k_aload_n C0 dL_cancel_2 0 rfl ?_
  refine k_iload_n C0 dL_cancel_3 1 rfl ?_
  refine k_callV C0 K0 dL_cancel_4 hM gkL_60 hyX5_cancel (lw_recv K0) rfl (by exact Nat.le_of_ble_eq_true rfl) ⟨Nat.succ_le_succ hF, show 8 + (3 + 11) + LOC ≤ 340 by omega⟩ ⟨Nat.le_of_eq (Nat.zero_add _), Nat.le_of_eq (Nat.zero_add _)⟩ (fun E => kX_xE ?_ E) (fun _ => fun _ _ _ h => h.elim)
  refine k_catch C0 K0 [] ⟨0, 9, 12, 25⟩ [⟨0, 9, 15, 19⟩] htab (fun _ h => absurd h List.not_mem_nil) (by decide) (by decide) (tB 86 rfl rfl) (by decide) (fun q => ?_)
  refine k_astore_n C0 [(3, _), (0, _), (1, _), (2, _)] dL_cancel_12 (by decide) rfl ?_
  refine k_iconst C0 1 dL_cancel_13 (by decide) ?_
  exact k_iret C0 dL_cancel_14 hr hlk (Nat.le_of_eq (Nat.zero_add _)) (Nat.le_of_eq (Nat.zero_add _)) al rfl (fun H h => ⟨rfl, (h.mono (fun v _ z => absurd z (by decide)))⟩)
set_option maxRecDepth 100000 in
set_option maxHeartbeats 4000000 in
theorem lx_cancel_2 (l : Launch) (D : va_G) (Y : Nat → Nat) (A : Nat → Prop) (sg : Sg) (al : Nat → Nat → Nat) (o ao : Nat) (ar : Nat → Nat) (mu : Rm) (a : Int32) (r : Int32) {F LOC mc ms : Nat} (hF : F ≤ 13) (hL : LOC ≤ 310) (hM : CT l yX5_cancel (Cond.code yX5_cancel cX5_cancel 3 (some .int)) F LOC D Y A [.ref (al 0 0), .int a] (LWo D Y A sg al o ar mu ao lT) (fun _ : Unit => none) (fun (_ : Unit) (_ : Heap) => False) (xE "java/lang/IllegalStateException" (LWo D Y A sg al o ar mu ao lT)) mc ms) : CT l yL_cancel (Cond.codeWith yL_cancel cL_cancel 4 (some .int) [(0, 9, 12, 25), (0, 9, 15, 19)]) 14 340 D Y A [.ref (al 0 0), .int a, .ref ao] (LWo D Y A sg al o ar mu ao lT) (fun _ : Nat → Nat → Nat => some (.int 2)) (fun al' : Nat → Nat → Nat => fun H => al' 0 0 = al 0 0 ∧ LWo D Y A sg al' o ar mu ao (lP 2 r) H) noX mc ms := by
  refine CT.ofH (by decide) (Nat.le_of_ble_eq_true rfl) ?_
  intro p_ e_ s_ m_ below_ meth_ c_ C0 K0 hr hlk htab
  refine k_aload_n C0 dL_cancel_0 2 rfl ?_
  refine k_iconst C0 0 dL_cancel_1 (by decide) ?_
  refine k_aload_n C0 dL_cancel_2 0 rfl ?_
  refine k_iload_n C0 dL_cancel_3 1 rfl ?_
  refine k_callV C0 K0 dL_cancel_4 hM gkL_60 hyX5_cancel (lw_recv K0) rfl (by exact Nat.le_of_ble_eq_true rfl) ⟨Nat.succ_le_succ hF, show 8 + (3 + 11) + LOC ≤ 340 by omega⟩ ⟨Nat.le_of_eq (Nat.zero_add _), Nat.le_of_eq (Nat.zero_add _)⟩ (fun E => kX_xE ?_ E) (fun _ => fun _ _ _ h => h.elim)
  refine k_catch C0 K0 [⟨0, 9, 12, 25⟩] ⟨0, 9, 15, 19⟩ [] htab (List.forall_mem_cons.mpr ⟨Or.inr ⟨by decide, "java/lang/IndexOutOfBoundsException", (tB 86 rfl rfl), by decide⟩, (fun _ h => absurd h List.not_mem_nil)⟩) (by decide) (by decide) (tA 214 rfl rfl) (by decide) (fun q => ?_)
  refine k_astore_n C0 [(3, _), (0, _), (1, _), (2, _)] dL_cancel_15 (by decide) rfl ?_
  refine k_iconst C0 2 dL_cancel_16 (by decide) ?_
  exact k_iret C0 dL_cancel_17 hr hlk (Nat.le_of_eq (Nat.zero_add _)) (Nat.le_of_eq (Nat.zero_add _)) al rfl (fun H h => ⟨rfl, (h.mono (fun v _ z => absurd z (by decide)))⟩)
set_option maxRecDepth 100000 in
set_option maxHeartbeats 4000000 in
theorem lo_payments (l : Launch) (D : va_G) (Y : Nat → Nat) (A : Nat → Prop) (sg sg2 : Sg) (al : Nat → Nat → Nat) (o ao : Nat) (ar : Nat → Nat) (mu : Rm) (a : Int32) (r : Int32) {F LOC mc ms : Nat} (hF : F ≤ 13) (hL : LOC ≤ 310) (hM : CT l yX5_payments (Cond.code yX5_payments cX5_payments 2 (some .int)) F LOC D Y A [.ref (al 0 0), .int a] (LWo D Y A sg al o ar mu ao lT) (fun _ : Nat → Nat → Nat => some (.int r)) (fun al' : Nat → Nat → Nat => fun H => al' 0 0 = al 0 0 ∧ LWo D Y A sg2 al' o ar mu ao lT H) noX mc ms) : CT l yL_payments (Cond.codeWith yL_payments cL_payments 4 (some .int) [(0, 9, 12, 25)]) 14 340 D Y A [.ref (al 0 0), .int a, .ref ao] (LWo D Y A sg al o ar mu ao lT) (fun _ : Nat → Nat → Nat => some (.int 0)) (fun al' : Nat → Nat → Nat => fun H => al' 0 0 = al 0 0 ∧ LWo D Y A sg2 al' o ar mu ao (lP 0 r) H) noX mc ms := by
  refine CT.ofH (by decide) (Nat.le_of_ble_eq_true rfl) ?_
  intro p_ e_ s_ m_ below_ meth_ c_ C0 K0 hr hlk htab
  refine k_aload_n C0 dL_payments_0 2 rfl ?_
  refine k_iconst C0 0 dL_payments_1 (by decide) ?_
  refine k_aload_n C0 dL_payments_2 0 rfl ?_
  refine k_iload_n C0 dL_payments_3 1 rfl ?_
  refine k_callV C0 K0 dL_payments_4 hM gkL_63 hyX5_payments (lw_recv K0) rfl (by exact Nat.le_of_ble_eq_true rfl) ⟨Nat.succ_le_succ hF, show 8 + (2 + 11) + LOC ≤ 340 by omega⟩ ⟨Nat.le_of_eq (Nat.zero_add _), Nat.le_of_eq (Nat.zero_add _)⟩ (fun E => kX_no E) (fun al2 => ?_)
  refine k_ex (fun H h => h.1) (fun hal => ?_)
  refine k_W (fun H h => h.2) ?_
  refine k_i2l C0 dL_payments_7 ?_
  refine k_lastO C0 K0 (P' := lP 0 r) dL_payments_8 (fun _ => rfl) ?_
  refine k_goto C0 15 dL_payments_9 (by decide) ?_
  refine k_iconst C0 0 dL_payments_15 (by decide) ?_
  exact k_iret C0 dL_payments_16 hr hlk (Nat.le_of_eq (Nat.zero_add _)) (Nat.le_of_eq (Nat.zero_add _)) al2 rfl (fun H h => ⟨hal, h⟩)
set_option maxRecDepth 100000 in
set_option maxHeartbeats 4000000 in
theorem lx_payments_1 (l : Launch) (D : va_G) (Y : Nat → Nat) (A : Nat → Prop) (sg : Sg) (al : Nat → Nat → Nat) (o ao : Nat) (ar : Nat → Nat) (mu : Rm) (a : Int32) (r : Int32) {F LOC mc ms : Nat} (hF : F ≤ 13) (hL : LOC ≤ 310) (hM : CT l yX5_payments (Cond.code yX5_payments cX5_payments 2 (some .int)) F LOC D Y A [.ref (al 0 0), .int a] (LWo D Y A sg al o ar mu ao lT) (fun _ : Unit => none) (fun (_ : Unit) (_ : Heap) => False) (xE "java/lang/IndexOutOfBoundsException" (LWo D Y A sg al o ar mu ao lT)) mc ms) : CT l yL_payments (Cond.codeWith yL_payments cL_payments 4 (some .int) [(0, 9, 12, 25)]) 14 340 D Y A [.ref (al 0 0), .int a, .ref ao] (LWo D Y A sg al o ar mu ao lT) (fun _ : Nat → Nat → Nat => some (.int 1)) (fun al' : Nat → Nat → Nat => fun H => al' 0 0 = al 0 0 ∧ LWo D Y A sg al' o ar mu ao (lP 1 r) H) noX mc ms := by
  refine CT.ofH (by decide) (Nat.le_of_ble_eq_true rfl) ?_
  intro p_ e_ s_ m_ below_ meth_ c_ C0 K0 hr hlk htab
  refine k_aload_n C0 dL_payments_0 2 rfl ?_
  refine k_iconst C0 0 dL_payments_1 (by decide) ?_
  refine k_aload_n C0 dL_payments_2 0 rfl ?_
  refine k_iload_n C0 dL_payments_3 1 rfl ?_
  refine k_callV C0 K0 dL_payments_4 hM gkL_63 hyX5_payments (lw_recv K0) rfl (by exact Nat.le_of_ble_eq_true rfl) ⟨Nat.succ_le_succ hF, show 8 + (2 + 11) + LOC ≤ 340 by omega⟩ ⟨Nat.le_of_eq (Nat.zero_add _), Nat.le_of_eq (Nat.zero_add _)⟩ (fun E => kX_xE ?_ E) (fun _ => fun _ _ _ h => h.elim)
  refine k_catch C0 K0 [] ⟨0, 9, 12, 25⟩ [] htab (fun _ h => absurd h List.not_mem_nil) (by decide) (by decide) (tB 86 rfl rfl) (by decide) (fun q => ?_)
  refine k_astore_n C0 [(3, _), (0, _), (1, _), (2, _)] dL_payments_12 (by decide) rfl ?_
  refine k_iconst C0 1 dL_payments_13 (by decide) ?_
  exact k_iret C0 dL_payments_14 hr hlk (Nat.le_of_eq (Nat.zero_add _)) (Nat.le_of_eq (Nat.zero_add _)) al rfl (fun H h => ⟨rfl, (h.mono (fun v _ z => absurd z (by decide)))⟩)
set_option maxRecDepth 100000 in
set_option maxHeartbeats 4000000 in
theorem lo_next (l : Launch) (D : va_G) (Y : Nat → Nat) (A : Nat → Prop) (sg sg2 : Sg) (al : Nat → Nat → Nat) (o ao : Nat) (ar : Nat → Nat) (mu : Rm) (a : Int32) (r : Int32) {F LOC mc ms : Nat} (hF : F ≤ 13) (hL : LOC ≤ 310) (hM : CT l yX5_next (Cond.code yX5_next cX5_next 2 (some .int)) F LOC D Y A [.ref (al 0 0), .int a] (LWo D Y A sg al o ar mu ao lT) (fun _ : Nat → Nat → Nat => some (.int r)) (fun al' : Nat → Nat → Nat => fun H => al' 0 0 = al 0 0 ∧ LWo D Y A sg2 al' o ar mu ao lT H) noX mc ms) : CT l yL_next (Cond.codeWith yL_next cL_next 4 (some .int) [(0, 9, 12, 25)]) 14 340 D Y A [.ref (al 0 0), .int a, .ref ao] (LWo D Y A sg al o ar mu ao lT) (fun _ : Nat → Nat → Nat => some (.int 0)) (fun al' : Nat → Nat → Nat => fun H => al' 0 0 = al 0 0 ∧ LWo D Y A sg2 al' o ar mu ao (lP 0 r) H) noX mc ms := by
  refine CT.ofH (by decide) (Nat.le_of_ble_eq_true rfl) ?_
  intro p_ e_ s_ m_ below_ meth_ c_ C0 K0 hr hlk htab
  refine k_aload_n C0 dL_next_0 2 rfl ?_
  refine k_iconst C0 0 dL_next_1 (by decide) ?_
  refine k_aload_n C0 dL_next_2 0 rfl ?_
  refine k_iload_n C0 dL_next_3 1 rfl ?_
  refine k_callV C0 K0 dL_next_4 hM gkL_66 hyX5_next (lw_recv K0) rfl (by exact Nat.le_of_ble_eq_true rfl) ⟨Nat.succ_le_succ hF, show 8 + (2 + 11) + LOC ≤ 340 by omega⟩ ⟨Nat.le_of_eq (Nat.zero_add _), Nat.le_of_eq (Nat.zero_add _)⟩ (fun E => kX_no E) (fun al2 => ?_)
  refine k_ex (fun H h => h.1) (fun hal => ?_)
  refine k_W (fun H h => h.2) ?_
  refine k_i2l C0 dL_next_7 ?_
  refine k_lastO C0 K0 (P' := lP 0 r) dL_next_8 (fun _ => rfl) ?_
  refine k_goto C0 15 dL_next_9 (by decide) ?_
  refine k_iconst C0 0 dL_next_15 (by decide) ?_
  exact k_iret C0 dL_next_16 hr hlk (Nat.le_of_eq (Nat.zero_add _)) (Nat.le_of_eq (Nat.zero_add _)) al2 rfl (fun H h => ⟨hal, h⟩)
set_option maxRecDepth 100000 in
set_option maxHeartbeats 4000000 in
theorem lx_next_1 (l : Launch) (D : va_G) (Y : Nat → Nat) (A : Nat → Prop) (sg : Sg) (al : Nat → Nat → Nat) (o ao : Nat) (ar : Nat → Nat) (mu : Rm) (a : Int32) (r : Int32) {F LOC mc ms : Nat} (hF : F ≤ 13) (hL : LOC ≤ 310) (hM : CT l yX5_next (Cond.code yX5_next cX5_next 2 (some .int)) F LOC D Y A [.ref (al 0 0), .int a] (LWo D Y A sg al o ar mu ao lT) (fun _ : Unit => none) (fun (_ : Unit) (_ : Heap) => False) (xE "java/lang/IndexOutOfBoundsException" (LWo D Y A sg al o ar mu ao lT)) mc ms) : CT l yL_next (Cond.codeWith yL_next cL_next 4 (some .int) [(0, 9, 12, 25)]) 14 340 D Y A [.ref (al 0 0), .int a, .ref ao] (LWo D Y A sg al o ar mu ao lT) (fun _ : Nat → Nat → Nat => some (.int 1)) (fun al' : Nat → Nat → Nat => fun H => al' 0 0 = al 0 0 ∧ LWo D Y A sg al' o ar mu ao (lP 1 r) H) noX mc ms := by
  refine CT.ofH (by decide) (Nat.le_of_ble_eq_true rfl) ?_
  intro p_ e_ s_ m_ below_ meth_ c_ C0 K0 hr hlk htab
  refine k_aload_n C0 dL_next_0 2 rfl ?_
  refine k_iconst C0 0 dL_next_1 (by decide) ?_
  refine k_aload_n C0 dL_next_2 0 rfl ?_
  refine k_iload_n C0 dL_next_3 1 rfl ?_
  refine k_callV C0 K0 dL_next_4 hM gkL_66 hyX5_next (lw_recv K0) rfl (by exact Nat.le_of_ble_eq_true rfl) ⟨Nat.succ_le_succ hF, show 8 + (2 + 11) + LOC ≤ 340 by omega⟩ ⟨Nat.le_of_eq (Nat.zero_add _), Nat.le_of_eq (Nat.zero_add _)⟩ (fun E => kX_xE ?_ E) (fun _ => fun _ _ _ h => h.elim)
  refine k_catch C0 K0 [] ⟨0, 9, 12, 25⟩ [] htab (fun _ h => absurd h List.not_mem_nil) (by decide) (by decide) (tB 86 rfl rfl) (by decide) (fun q => ?_)
  refine k_astore_n C0 [(3, _), (0, _), (1, _), (2, _)] dL_next_12 (by decide) rfl ?_
  refine k_iconst C0 1 dL_next_13 (by decide) ?_
  exact k_iret C0 dL_next_14 hr hlk (Nat.le_of_eq (Nat.zero_add _)) (Nat.le_of_eq (Nat.zero_add _)) al rfl (fun H h => ⟨rfl, (h.mono (fun v _ z => absurd z (by decide)))⟩)
set_option maxRecDepth 100000 in
set_option maxHeartbeats 4000000 in
theorem lo_payout (l : Launch) (D : va_G) (Y : Nat → Nat) (A : Nat → Prop) (sg sg2 : Sg) (al : Nat → Nat → Nat) (o ao : Nat) (ar : Nat → Nat) (mu : Rm) (a b : Int32) (r : Int32) {F LOC mc ms : Nat} (hF : F ≤ 13) (hL : LOC ≤ 310) (hM : CT l yX5_payout (Cond.code yX5_payout cX5_payout 4 (some .int)) F LOC D Y A [.ref (al 0 0), .int a, .int b] (LWo D Y A sg al o ar mu ao lT) (fun _ : Nat → Nat → Nat => some (.int r)) (fun al' : Nat → Nat → Nat => fun H => al' 0 0 = al 0 0 ∧ LWo D Y A sg2 al' o ar mu ao lT H) noX mc ms) : CT l yL_payout (Cond.codeWith yL_payout cL_payout 5 (some .int) [(0, 10, 13, 25), (0, 10, 17, 13)]) 14 340 D Y A [.ref (al 0 0), .int a, .int b, .ref ao] (LWo D Y A sg al o ar mu ao lT) (fun _ : Nat → Nat → Nat => some (.int 0)) (fun al' : Nat → Nat → Nat => fun H => al' 0 0 = al 0 0 ∧ LWo D Y A sg2 al' o ar mu ao (lP 0 r) H) noX mc ms := by
  refine CT.ofH (by decide) (Nat.le_of_ble_eq_true rfl) ?_
  intro p_ e_ s_ m_ below_ meth_ c_ C0 K0 hr hlk htab
  refine k_aload_n C0 dL_payout_0 3 rfl ?_
  refine k_iconst C0 0 dL_payout_1 (by decide) ?_
  refine k_aload_n C0 dL_payout_2 0 rfl ?_
  refine k_iload_n C0 dL_payout_3 1 rfl ?_
  refine k_iload_n C0 dL_payout_4 2 rfl ?_
  refine k_callV C0 K0 dL_payout_5 hM gkL_69 hyX5_payout (lw_recv K0) rfl (by exact Nat.le_of_ble_eq_true rfl) ⟨Nat.succ_le_succ hF, show 8 + (4 + 11) + LOC ≤ 340 by omega⟩ ⟨Nat.le_of_eq (Nat.zero_add _), Nat.le_of_eq (Nat.zero_add _)⟩ (fun E => kX_no E) (fun al2 => ?_)
  refine k_ex (fun H h => h.1) (fun hal => ?_)
  refine k_W (fun H h => h.2) ?_
  refine k_i2l C0 dL_payout_8 ?_
  refine k_lastO C0 K0 (P' := lP 0 r) dL_payout_9 (fun _ => rfl) ?_
  refine k_goto C0 21 dL_payout_10 (by decide) ?_
  refine k_iconst C0 0 dL_payout_21 (by decide) ?_
  exact k_iret C0 dL_payout_22 hr hlk (Nat.le_of_eq (Nat.zero_add _)) (Nat.le_of_eq (Nat.zero_add _)) al2 rfl (fun H h => ⟨hal, h⟩)
set_option maxRecDepth 100000 in
set_option maxHeartbeats 4000000 in
theorem lx_payout_1 (l : Launch) (D : va_G) (Y : Nat → Nat) (A : Nat → Prop) (sg : Sg) (al : Nat → Nat → Nat) (o ao : Nat) (ar : Nat → Nat) (mu : Rm) (a b : Int32) (r : Int32) {F LOC mc ms : Nat} (hF : F ≤ 13) (hL : LOC ≤ 310) (hM : CT l yX5_payout (Cond.code yX5_payout cX5_payout 4 (some .int)) F LOC D Y A [.ref (al 0 0), .int a, .int b] (LWo D Y A sg al o ar mu ao lT) (fun _ : Unit => none) (fun (_ : Unit) (_ : Heap) => False) (xE "java/lang/IndexOutOfBoundsException" (LWo D Y A sg al o ar mu ao lT)) mc ms) : CT l yL_payout (Cond.codeWith yL_payout cL_payout 5 (some .int) [(0, 10, 13, 25), (0, 10, 17, 13)]) 14 340 D Y A [.ref (al 0 0), .int a, .int b, .ref ao] (LWo D Y A sg al o ar mu ao lT) (fun _ : Nat → Nat → Nat => some (.int 1)) (fun al' : Nat → Nat → Nat => fun H => al' 0 0 = al 0 0 ∧ LWo D Y A sg al' o ar mu ao (lP 1 r) H) noX mc ms := by
  refine CT.ofH (by decide) (Nat.le_of_ble_eq_true rfl) ?_
  intro p_ e_ s_ m_ below_ meth_ c_ C0 K0 hr hlk htab
  refine k_aload_n C0 dL_payout_0 3 rfl ?_
  refine k_iconst C0 0 dL_payout_1 (by decide) ?_
  refine k_aload_n C0 dL_payout_2 0 rfl ?_
  refine k_iload_n C0 dL_payout_3 1 rfl ?_
  refine k_iload_n C0 dL_payout_4 2 rfl ?_
  refine k_callV C0 K0 dL_payout_5 hM gkL_69 hyX5_payout (lw_recv K0) rfl (by exact Nat.le_of_ble_eq_true rfl) ⟨Nat.succ_le_succ hF, show 8 + (4 + 11) + LOC ≤ 340 by omega⟩ ⟨Nat.le_of_eq (Nat.zero_add _), Nat.le_of_eq (Nat.zero_add _)⟩ (fun E => kX_xE ?_ E) (fun _ => fun _ _ _ h => h.elim)
  refine k_catch C0 K0 [] ⟨0, 10, 13, 25⟩ [⟨0, 10, 17, 13⟩] htab (fun _ h => absurd h List.not_mem_nil) (by decide) (by decide) (tB 86 rfl rfl) (by decide) (fun q => ?_)
  refine k_astore C0 [(4, _), (0, _), (1, _), (2, _), (3, _)] dL_payout_13 (by decide) rfl ?_
  refine k_iconst C0 1 dL_payout_15 (by decide) ?_
  exact k_iret C0 dL_payout_16 hr hlk (Nat.le_of_eq (Nat.zero_add _)) (Nat.le_of_eq (Nat.zero_add _)) al rfl (fun H h => ⟨rfl, (h.mono (fun v _ z => absurd z (by decide)))⟩)
set_option maxRecDepth 100000 in
set_option maxHeartbeats 4000000 in
theorem lx_payout_2 (l : Launch) (D : va_G) (Y : Nat → Nat) (A : Nat → Prop) (sg : Sg) (al : Nat → Nat → Nat) (o ao : Nat) (ar : Nat → Nat) (mu : Rm) (a b : Int32) (r : Int32) {F LOC mc ms : Nat} (hF : F ≤ 13) (hL : LOC ≤ 310) (hM : CT l yX5_payout (Cond.code yX5_payout cX5_payout 4 (some .int)) F LOC D Y A [.ref (al 0 0), .int a, .int b] (LWo D Y A sg al o ar mu ao lT) (fun _ : Unit => none) (fun (_ : Unit) (_ : Heap) => False) (xE "java/lang/IllegalArgumentException" (LWo D Y A sg al o ar mu ao lT)) mc ms) : CT l yL_payout (Cond.codeWith yL_payout cL_payout 5 (some .int) [(0, 10, 13, 25), (0, 10, 17, 13)]) 14 340 D Y A [.ref (al 0 0), .int a, .int b, .ref ao] (LWo D Y A sg al o ar mu ao lT) (fun _ : Nat → Nat → Nat => some (.int 2)) (fun al' : Nat → Nat → Nat => fun H => al' 0 0 = al 0 0 ∧ LWo D Y A sg al' o ar mu ao (lP 2 r) H) noX mc ms := by
  refine CT.ofH (by decide) (Nat.le_of_ble_eq_true rfl) ?_
  intro p_ e_ s_ m_ below_ meth_ c_ C0 K0 hr hlk htab
  refine k_aload_n C0 dL_payout_0 3 rfl ?_
  refine k_iconst C0 0 dL_payout_1 (by decide) ?_
  refine k_aload_n C0 dL_payout_2 0 rfl ?_
  refine k_iload_n C0 dL_payout_3 1 rfl ?_
  refine k_iload_n C0 dL_payout_4 2 rfl ?_
  refine k_callV C0 K0 dL_payout_5 hM gkL_69 hyX5_payout (lw_recv K0) rfl (by exact Nat.le_of_ble_eq_true rfl) ⟨Nat.succ_le_succ hF, show 8 + (4 + 11) + LOC ≤ 340 by omega⟩ ⟨Nat.le_of_eq (Nat.zero_add _), Nat.le_of_eq (Nat.zero_add _)⟩ (fun E => kX_xE ?_ E) (fun _ => fun _ _ _ h => h.elim)
  refine k_catch C0 K0 [⟨0, 10, 13, 25⟩] ⟨0, 10, 17, 13⟩ [] htab (List.forall_mem_cons.mpr ⟨Or.inr ⟨by decide, "java/lang/IndexOutOfBoundsException", (tB 86 rfl rfl), by decide⟩, (fun _ h => absurd h List.not_mem_nil)⟩) (by decide) (by decide) (tA 130 rfl rfl) (by decide) (fun q => ?_)
  refine k_astore C0 [(4, _), (0, _), (1, _), (2, _), (3, _)] dL_payout_17 (by decide) rfl ?_
  refine k_iconst C0 2 dL_payout_19 (by decide) ?_
  exact k_iret C0 dL_payout_20 hr hlk (Nat.le_of_eq (Nat.zero_add _)) (Nat.le_of_eq (Nat.zero_add _)) al rfl (fun H h => ⟨rfl, (h.mono (fun v _ z => absurd z (by decide)))⟩)
set_option maxRecDepth 100000 in
set_option maxHeartbeats 4000000 in
theorem lo_carried (l : Launch) (D : va_G) (Y : Nat → Nat) (A : Nat → Prop) (sg sg2 : Sg) (al : Nat → Nat → Nat) (o ao : Nat) (ar : Nat → Nat) (mu : Rm) (a : Int32) (r : Int32) {F LOC mc ms : Nat} (hF : F ≤ 13) (hL : LOC ≤ 310) (hM : CT l yX5_carried (Cond.code yX5_carried cX5_carried 2 (some .int)) F LOC D Y A [.ref (al 0 0), .int a] (LWo D Y A sg al o ar mu ao lT) (fun _ : Nat → Nat → Nat => some (.int r)) (fun al' : Nat → Nat → Nat => fun H => al' 0 0 = al 0 0 ∧ LWo D Y A sg2 al' o ar mu ao lT H) noX mc ms) : CT l yL_carried (Cond.codeWith yL_carried cL_carried 4 (some .int) [(0, 9, 12, 25)]) 14 340 D Y A [.ref (al 0 0), .int a, .ref ao] (LWo D Y A sg al o ar mu ao lT) (fun _ : Nat → Nat → Nat => some (.int 0)) (fun al' : Nat → Nat → Nat => fun H => al' 0 0 = al 0 0 ∧ LWo D Y A sg2 al' o ar mu ao (lP 0 r) H) noX mc ms := by
  refine CT.ofH (by decide) (Nat.le_of_ble_eq_true rfl) ?_
  intro p_ e_ s_ m_ below_ meth_ c_ C0 K0 hr hlk htab
  refine k_aload_n C0 dL_carried_0 2 rfl ?_
  refine k_iconst C0 0 dL_carried_1 (by decide) ?_
  refine k_aload_n C0 dL_carried_2 0 rfl ?_
  refine k_iload_n C0 dL_carried_3 1 rfl ?_
  refine k_callV C0 K0 dL_carried_4 hM gkL_72 hyX5_carried (lw_recv K0) rfl (by exact Nat.le_of_ble_eq_true rfl) ⟨Nat.succ_le_succ hF, show 8 + (2 + 11) + LOC ≤ 340 by omega⟩ ⟨Nat.le_of_eq (Nat.zero_add _), Nat.le_of_eq (Nat.zero_add _)⟩ (fun E => kX_no E) (fun al2 => ?_)
  refine k_ex (fun H h => h.1) (fun hal => ?_)
  refine k_W (fun H h => h.2) ?_
  refine k_i2l C0 dL_carried_7 ?_
  refine k_lastO C0 K0 (P' := lP 0 r) dL_carried_8 (fun _ => rfl) ?_
  refine k_goto C0 15 dL_carried_9 (by decide) ?_
  refine k_iconst C0 0 dL_carried_15 (by decide) ?_
  exact k_iret C0 dL_carried_16 hr hlk (Nat.le_of_eq (Nat.zero_add _)) (Nat.le_of_eq (Nat.zero_add _)) al2 rfl (fun H h => ⟨hal, h⟩)
set_option maxRecDepth 100000 in
set_option maxHeartbeats 4000000 in
theorem lx_carried_1 (l : Launch) (D : va_G) (Y : Nat → Nat) (A : Nat → Prop) (sg : Sg) (al : Nat → Nat → Nat) (o ao : Nat) (ar : Nat → Nat) (mu : Rm) (a : Int32) (r : Int32) {F LOC mc ms : Nat} (hF : F ≤ 13) (hL : LOC ≤ 310) (hM : CT l yX5_carried (Cond.code yX5_carried cX5_carried 2 (some .int)) F LOC D Y A [.ref (al 0 0), .int a] (LWo D Y A sg al o ar mu ao lT) (fun _ : Unit => none) (fun (_ : Unit) (_ : Heap) => False) (xE "java/lang/IndexOutOfBoundsException" (LWo D Y A sg al o ar mu ao lT)) mc ms) : CT l yL_carried (Cond.codeWith yL_carried cL_carried 4 (some .int) [(0, 9, 12, 25)]) 14 340 D Y A [.ref (al 0 0), .int a, .ref ao] (LWo D Y A sg al o ar mu ao lT) (fun _ : Nat → Nat → Nat => some (.int 1)) (fun al' : Nat → Nat → Nat => fun H => al' 0 0 = al 0 0 ∧ LWo D Y A sg al' o ar mu ao (lP 1 r) H) noX mc ms := by
  refine CT.ofH (by decide) (Nat.le_of_ble_eq_true rfl) ?_
  intro p_ e_ s_ m_ below_ meth_ c_ C0 K0 hr hlk htab
  refine k_aload_n C0 dL_carried_0 2 rfl ?_
  refine k_iconst C0 0 dL_carried_1 (by decide) ?_
  refine k_aload_n C0 dL_carried_2 0 rfl ?_
  refine k_iload_n C0 dL_carried_3 1 rfl ?_
  refine k_callV C0 K0 dL_carried_4 hM gkL_72 hyX5_carried (lw_recv K0) rfl (by exact Nat.le_of_ble_eq_true rfl) ⟨Nat.succ_le_succ hF, show 8 + (2 + 11) + LOC ≤ 340 by omega⟩ ⟨Nat.le_of_eq (Nat.zero_add _), Nat.le_of_eq (Nat.zero_add _)⟩ (fun E => kX_xE ?_ E) (fun _ => fun _ _ _ h => h.elim)
  refine k_catch C0 K0 [] ⟨0, 9, 12, 25⟩ [] htab (fun _ h => absurd h List.not_mem_nil) (by decide) (by decide) (tB 86 rfl rfl) (by decide) (fun q => ?_)
  refine k_astore_n C0 [(3, _), (0, _), (1, _), (2, _)] dL_carried_12 (by decide) rfl ?_
  refine k_iconst C0 1 dL_carried_13 (by decide) ?_
  exact k_iret C0 dL_carried_14 hr hlk (Nat.le_of_eq (Nat.zero_add _)) (Nat.le_of_eq (Nat.zero_add _)) al rfl (fun H h => ⟨rfl, (h.mono (fun v _ z => absurd z (by decide)))⟩)
set_option maxRecDepth 100000 in
set_option maxHeartbeats 4000000 in
theorem lo_balance (l : Launch) (D : va_G) (Y : Nat → Nat) (A : Nat → Prop) (sg sg2 : Sg) (al : Nat → Nat → Nat) (o ao : Nat) (ar : Nat → Nat) (mu : Rm) (a : Int32) (r : Int32) {F LOC mc ms : Nat} (hF : F ≤ 13) (hL : LOC ≤ 310) (hM : CT l yX5_balance (Cond.code yX5_balance cX5_balance 2 (some .int)) F LOC D Y A [.ref (al 0 0), .int a] (LWo D Y A sg al o ar mu ao lT) (fun _ : Nat → Nat → Nat => some (.int r)) (fun al' : Nat → Nat → Nat => fun H => al' 0 0 = al 0 0 ∧ LWo D Y A sg2 al' o ar mu ao lT H) noX mc ms) : CT l yL_balance (Cond.codeWith yL_balance cL_balance 4 (some .int) [(0, 9, 12, 25)]) 14 340 D Y A [.ref (al 0 0), .int a, .ref ao] (LWo D Y A sg al o ar mu ao lT) (fun _ : Nat → Nat → Nat => some (.int 0)) (fun al' : Nat → Nat → Nat => fun H => al' 0 0 = al 0 0 ∧ LWo D Y A sg2 al' o ar mu ao (lP 0 r) H) noX mc ms := by
  refine CT.ofH (by decide) (Nat.le_of_ble_eq_true rfl) ?_
  intro p_ e_ s_ m_ below_ meth_ c_ C0 K0 hr hlk htab
  refine k_aload_n C0 dL_balance_0 2 rfl ?_
  refine k_iconst C0 0 dL_balance_1 (by decide) ?_
  refine k_aload_n C0 dL_balance_2 0 rfl ?_
  refine k_iload_n C0 dL_balance_3 1 rfl ?_
  refine k_callV C0 K0 dL_balance_4 hM gkL_75 hyX5_balance (lw_recv K0) rfl (by exact Nat.le_of_ble_eq_true rfl) ⟨Nat.succ_le_succ hF, show 8 + (2 + 11) + LOC ≤ 340 by omega⟩ ⟨Nat.le_of_eq (Nat.zero_add _), Nat.le_of_eq (Nat.zero_add _)⟩ (fun E => kX_no E) (fun al2 => ?_)
  refine k_ex (fun H h => h.1) (fun hal => ?_)
  refine k_W (fun H h => h.2) ?_
  refine k_i2l C0 dL_balance_7 ?_
  refine k_lastO C0 K0 (P' := lP 0 r) dL_balance_8 (fun _ => rfl) ?_
  refine k_goto C0 15 dL_balance_9 (by decide) ?_
  refine k_iconst C0 0 dL_balance_15 (by decide) ?_
  exact k_iret C0 dL_balance_16 hr hlk (Nat.le_of_eq (Nat.zero_add _)) (Nat.le_of_eq (Nat.zero_add _)) al2 rfl (fun H h => ⟨hal, h⟩)
set_option maxRecDepth 100000 in
set_option maxHeartbeats 4000000 in
theorem lx_balance_1 (l : Launch) (D : va_G) (Y : Nat → Nat) (A : Nat → Prop) (sg : Sg) (al : Nat → Nat → Nat) (o ao : Nat) (ar : Nat → Nat) (mu : Rm) (a : Int32) (r : Int32) {F LOC mc ms : Nat} (hF : F ≤ 13) (hL : LOC ≤ 310) (hM : CT l yX5_balance (Cond.code yX5_balance cX5_balance 2 (some .int)) F LOC D Y A [.ref (al 0 0), .int a] (LWo D Y A sg al o ar mu ao lT) (fun _ : Unit => none) (fun (_ : Unit) (_ : Heap) => False) (xE "java/lang/IndexOutOfBoundsException" (LWo D Y A sg al o ar mu ao lT)) mc ms) : CT l yL_balance (Cond.codeWith yL_balance cL_balance 4 (some .int) [(0, 9, 12, 25)]) 14 340 D Y A [.ref (al 0 0), .int a, .ref ao] (LWo D Y A sg al o ar mu ao lT) (fun _ : Nat → Nat → Nat => some (.int 1)) (fun al' : Nat → Nat → Nat => fun H => al' 0 0 = al 0 0 ∧ LWo D Y A sg al' o ar mu ao (lP 1 r) H) noX mc ms := by
  refine CT.ofH (by decide) (Nat.le_of_ble_eq_true rfl) ?_
  intro p_ e_ s_ m_ below_ meth_ c_ C0 K0 hr hlk htab
  refine k_aload_n C0 dL_balance_0 2 rfl ?_
  refine k_iconst C0 0 dL_balance_1 (by decide) ?_
  refine k_aload_n C0 dL_balance_2 0 rfl ?_
  refine k_iload_n C0 dL_balance_3 1 rfl ?_
  refine k_callV C0 K0 dL_balance_4 hM gkL_75 hyX5_balance (lw_recv K0) rfl (by exact Nat.le_of_ble_eq_true rfl) ⟨Nat.succ_le_succ hF, show 8 + (2 + 11) + LOC ≤ 340 by omega⟩ ⟨Nat.le_of_eq (Nat.zero_add _), Nat.le_of_eq (Nat.zero_add _)⟩ (fun E => kX_xE ?_ E) (fun _ => fun _ _ _ h => h.elim)
  refine k_catch C0 K0 [] ⟨0, 9, 12, 25⟩ [] htab (fun _ h => absurd h List.not_mem_nil) (by decide) (by decide) (tB 86 rfl rfl) (by decide) (fun q => ?_)
  refine k_astore_n C0 [(3, _), (0, _), (1, _), (2, _)] dL_balance_12 (by decide) rfl ?_
  refine k_iconst C0 1 dL_balance_13 (by decide) ?_
  exact k_iret C0 dL_balance_14 hr hlk (Nat.le_of_eq (Nat.zero_add _)) (Nat.le_of_eq (Nat.zero_add _)) al rfl (fun H h => ⟨rfl, (h.mono (fun v _ z => absurd z (by decide)))⟩)
set_option maxRecDepth 100000 in
set_option maxHeartbeats 4000000 in
theorem lo_heldTax (l : Launch) (D : va_G) (Y : Nat → Nat) (A : Nat → Prop) (sg sg2 : Sg) (al : Nat → Nat → Nat) (o ao : Nat) (ar : Nat → Nat) (mu : Rm) (a : Int32) (r : Int32) {F LOC mc ms : Nat} (hF : F ≤ 13) (hL : LOC ≤ 310) (hM : CT l yX5_heldTax (Cond.code yX5_heldTax cX5_heldTax 2 (some .int)) F LOC D Y A [.ref (al 0 0), .int a] (LWo D Y A sg al o ar mu ao lT) (fun _ : Nat → Nat → Nat => some (.int r)) (fun al' : Nat → Nat → Nat => fun H => al' 0 0 = al 0 0 ∧ LWo D Y A sg2 al' o ar mu ao lT H) noX mc ms) : CT l yL_heldTax (Cond.codeWith yL_heldTax cL_heldTax 4 (some .int) [(0, 9, 12, 13)]) 14 340 D Y A [.ref (al 0 0), .int a, .ref ao] (LWo D Y A sg al o ar mu ao lT) (fun _ : Nat → Nat → Nat => some (.int 0)) (fun al' : Nat → Nat → Nat => fun H => al' 0 0 = al 0 0 ∧ LWo D Y A sg2 al' o ar mu ao (lP 0 r) H) noX mc ms := by
  refine CT.ofH (by decide) (Nat.le_of_ble_eq_true rfl) ?_
  intro p_ e_ s_ m_ below_ meth_ c_ C0 K0 hr hlk htab
  refine k_aload_n C0 dL_heldTax_0 2 rfl ?_
  refine k_iconst C0 0 dL_heldTax_1 (by decide) ?_
  refine k_aload_n C0 dL_heldTax_2 0 rfl ?_
  refine k_iload_n C0 dL_heldTax_3 1 rfl ?_
  refine k_callV C0 K0 dL_heldTax_4 hM gkL_78 hyX5_heldTax (lw_recv K0) rfl (by exact Nat.le_of_ble_eq_true rfl) ⟨Nat.succ_le_succ hF, show 8 + (2 + 11) + LOC ≤ 340 by omega⟩ ⟨Nat.le_of_eq (Nat.zero_add _), Nat.le_of_eq (Nat.zero_add _)⟩ (fun E => kX_no E) (fun al2 => ?_)
  refine k_ex (fun H h => h.1) (fun hal => ?_)
  refine k_W (fun H h => h.2) ?_
  refine k_i2l C0 dL_heldTax_7 ?_
  refine k_lastO C0 K0 (P' := lP 0 r) dL_heldTax_8 (fun _ => rfl) ?_
  refine k_goto C0 15 dL_heldTax_9 (by decide) ?_
  refine k_iconst C0 0 dL_heldTax_15 (by decide) ?_
  exact k_iret C0 dL_heldTax_16 hr hlk (Nat.le_of_eq (Nat.zero_add _)) (Nat.le_of_eq (Nat.zero_add _)) al2 rfl (fun H h => ⟨hal, h⟩)
set_option maxRecDepth 100000 in
set_option maxHeartbeats 4000000 in
theorem lx_heldTax_1 (l : Launch) (D : va_G) (Y : Nat → Nat) (A : Nat → Prop) (sg : Sg) (al : Nat → Nat → Nat) (o ao : Nat) (ar : Nat → Nat) (mu : Rm) (a : Int32) (r : Int32) {F LOC mc ms : Nat} (hF : F ≤ 13) (hL : LOC ≤ 310) (hM : CT l yX5_heldTax (Cond.code yX5_heldTax cX5_heldTax 2 (some .int)) F LOC D Y A [.ref (al 0 0), .int a] (LWo D Y A sg al o ar mu ao lT) (fun _ : Unit => none) (fun (_ : Unit) (_ : Heap) => False) (xE "java/lang/IllegalArgumentException" (LWo D Y A sg al o ar mu ao lT)) mc ms) : CT l yL_heldTax (Cond.codeWith yL_heldTax cL_heldTax 4 (some .int) [(0, 9, 12, 13)]) 14 340 D Y A [.ref (al 0 0), .int a, .ref ao] (LWo D Y A sg al o ar mu ao lT) (fun _ : Nat → Nat → Nat => some (.int 1)) (fun al' : Nat → Nat → Nat => fun H => al' 0 0 = al 0 0 ∧ LWo D Y A sg al' o ar mu ao (lP 1 r) H) noX mc ms := by
  refine CT.ofH (by decide) (Nat.le_of_ble_eq_true rfl) ?_
  intro p_ e_ s_ m_ below_ meth_ c_ C0 K0 hr hlk htab
  refine k_aload_n C0 dL_heldTax_0 2 rfl ?_
  refine k_iconst C0 0 dL_heldTax_1 (by decide) ?_
  refine k_aload_n C0 dL_heldTax_2 0 rfl ?_
  refine k_iload_n C0 dL_heldTax_3 1 rfl ?_
  refine k_callV C0 K0 dL_heldTax_4 hM gkL_78 hyX5_heldTax (lw_recv K0) rfl (by exact Nat.le_of_ble_eq_true rfl) ⟨Nat.succ_le_succ hF, show 8 + (2 + 11) + LOC ≤ 340 by omega⟩ ⟨Nat.le_of_eq (Nat.zero_add _), Nat.le_of_eq (Nat.zero_add _)⟩ (fun E => kX_xE ?_ E) (fun _ => fun _ _ _ h => h.elim)
  refine k_catch C0 K0 [] ⟨0, 9, 12, 13⟩ [] htab (fun _ h => absurd h List.not_mem_nil) (by decide) (by decide) (tA 130 rfl rfl) (by decide) (fun q => ?_)
  refine k_astore_n C0 [(3, _), (0, _), (1, _), (2, _)] dL_heldTax_12 (by decide) rfl ?_
  refine k_iconst C0 1 dL_heldTax_13 (by decide) ?_
  exact k_iret C0 dL_heldTax_14 hr hlk (Nat.le_of_eq (Nat.zero_add _)) (Nat.le_of_eq (Nat.zero_add _)) al rfl (fun H h => ⟨rfl, (h.mono (fun v _ z => absurd z (by decide)))⟩)
set_option maxRecDepth 100000 in
set_option maxHeartbeats 4000000 in
theorem lo_pass (l : Launch) (D : va_G) (Y : Nat → Nat) (A : Nat → Prop) (sg sg2 : Sg) (al : Nat → Nat → Nat) (o ao : Nat) (ar : Nat → Nat) (mu : Rm) (a : Int32) (r : Int32) {F LOC mc ms : Nat} (hF : F ≤ 13) (hL : LOC ≤ 310) (hM : CT l yX5_pass (Cond.code yX5_pass cX5_pass 4 (some .int)) F LOC D Y A [.ref (al 0 0), .int a] (LWo D Y A sg al o ar mu ao lT) (fun _ : Nat → Nat → Nat => some (.int r)) (fun al' : Nat → Nat → Nat => fun H => al' 0 0 = al 0 0 ∧ LWo D Y A sg2 al' o ar mu ao lT H) noX mc ms) : CT l yL_pass (Cond.codeWith yL_pass cL_pass 4 (some .int) [(0, 9, 12, 13), (0, 9, 15, 19)]) 14 340 D Y A [.ref (al 0 0), .int a, .ref ao] (LWo D Y A sg al o ar mu ao lT) (fun _ : Nat → Nat → Nat => some (.int 0)) (fun al' : Nat → Nat → Nat => fun H => al' 0 0 = al 0 0 ∧ LWo D Y A sg2 al' o ar mu ao (lP 0 r) H) noX mc ms := by
  refine CT.ofH (by decide) (Nat.le_of_ble_eq_true rfl) ?_
  intro p_ e_ s_ m_ below_ meth_ c_ C0 K0 hr hlk htab
  refine k_aload_n C0 dL_pass_0 2 rfl ?_
  refine k_iconst C0 0 dL_pass_1 (by decide) ?_
  refine k_aload_n C0 dL_pass_2 0 rfl ?_
  refine k_iload_n C0 dL_pass_3 1 rfl ?_
  refine k_callV C0 K0 dL_pass_4 hM gkL_81 hyX5_pass (lw_recv K0) rfl (by exact Nat.le_of_ble_eq_true rfl) ⟨Nat.succ_le_succ hF, show 8 + (4 + 11) + LOC ≤ 340 by omega⟩ ⟨Nat.le_of_eq (Nat.zero_add _), Nat.le_of_eq (Nat.zero_add _)⟩ (fun E => kX_no E) (fun al2 => ?_)
  refine k_ex (fun H h => h.1) (fun hal => ?_)
  refine k_W (fun H h => h.2) ?_
  refine k_i2l C0 dL_pass_7 ?_
  refine k_lastO C0 K0 (P' := lP 0 r) dL_pass_8 (fun _ => rfl) ?_
  refine k_goto C0 18 dL_pass_9 (by decide) ?_
  refine k_iconst C0 0 dL_pass_18 (by decide) ?_
  exact k_iret C0 dL_pass_19 hr hlk (Nat.le_of_eq (Nat.zero_add _)) (Nat.le_of_eq (Nat.zero_add _)) al2 rfl (fun H h => ⟨hal, h⟩)
set_option maxRecDepth 100000 in
set_option maxHeartbeats 4000000 in
theorem lx_pass_1 (l : Launch) (D : va_G) (Y : Nat → Nat) (A : Nat → Prop) (sg : Sg) (al : Nat → Nat → Nat) (o ao : Nat) (ar : Nat → Nat) (mu : Rm) (a : Int32) (r : Int32) {F LOC mc ms : Nat} (hF : F ≤ 13) (hL : LOC ≤ 310) (hM : CT l yX5_pass (Cond.code yX5_pass cX5_pass 4 (some .int)) F LOC D Y A [.ref (al 0 0), .int a] (LWo D Y A sg al o ar mu ao lT) (fun _ : Unit => none) (fun (_ : Unit) (_ : Heap) => False) (xE "java/lang/IllegalArgumentException" (LWo D Y A sg al o ar mu ao lT)) mc ms) : CT l yL_pass (Cond.codeWith yL_pass cL_pass 4 (some .int) [(0, 9, 12, 13), (0, 9, 15, 19)]) 14 340 D Y A [.ref (al 0 0), .int a, .ref ao] (LWo D Y A sg al o ar mu ao lT) (fun _ : Nat → Nat → Nat => some (.int 1)) (fun al' : Nat → Nat → Nat => fun H => al' 0 0 = al 0 0 ∧ LWo D Y A sg al' o ar mu ao (lP 1 r) H) noX mc ms := by
  refine CT.ofH (by decide) (Nat.le_of_ble_eq_true rfl) ?_
  intro p_ e_ s_ m_ below_ meth_ c_ C0 K0 hr hlk htab
  refine k_aload_n C0 dL_pass_0 2 rfl ?_
  refine k_iconst C0 0 dL_pass_1 (by decide) ?_
  refine k_aload_n C0 dL_pass_2 0 rfl ?_
  refine k_iload_n C0 dL_pass_3 1 rfl ?_
  refine k_callV C0 K0 dL_pass_4 hM gkL_81 hyX5_pass (lw_recv K0) rfl (by exact Nat.le_of_ble_eq_true rfl) ⟨Nat.succ_le_succ hF, show 8 + (4 + 11) + LOC ≤ 340 by omega⟩ ⟨Nat.le_of_eq (Nat.zero_add _), Nat.le_of_eq (Nat.zero_add _)⟩ (fun E => kX_xE ?_ E) (fun _ => fun _ _ _ h => h.elim)
  refine k_catch C0 K0 [] ⟨0, 9, 12, 13⟩ [⟨0, 9, 15, 19⟩] htab (fun _ h => absurd h List.not_mem_nil) (by decide) (by decide) (tA 130 rfl rfl) (by decide) (fun q => ?_)
  refine k_astore_n C0 [(3, _), (0, _), (1, _), (2, _)] dL_pass_12 (by decide) rfl ?_
  refine k_iconst C0 1 dL_pass_13 (by decide) ?_
  exact k_iret C0 dL_pass_14 hr hlk (Nat.le_of_eq (Nat.zero_add _)) (Nat.le_of_eq (Nat.zero_add _)) al rfl (fun H h => ⟨rfl, (h.mono (fun v _ z => absurd z (by decide)))⟩)
set_option maxRecDepth 100000 in
set_option maxHeartbeats 4000000 in
theorem lx_pass_2 (l : Launch) (D : va_G) (Y : Nat → Nat) (A : Nat → Prop) (sg : Sg) (al : Nat → Nat → Nat) (o ao : Nat) (ar : Nat → Nat) (mu : Rm) (a : Int32) (r : Int32) {F LOC mc ms : Nat} (hF : F ≤ 13) (hL : LOC ≤ 310) (hM : CT l yX5_pass (Cond.code yX5_pass cX5_pass 4 (some .int)) F LOC D Y A [.ref (al 0 0), .int a] (LWo D Y A sg al o ar mu ao lT) (fun _ : Unit => none) (fun (_ : Unit) (_ : Heap) => False) (xE "java/lang/IllegalStateException" (LWo D Y A sg al o ar mu ao lT)) mc ms) : CT l yL_pass (Cond.codeWith yL_pass cL_pass 4 (some .int) [(0, 9, 12, 13), (0, 9, 15, 19)]) 14 340 D Y A [.ref (al 0 0), .int a, .ref ao] (LWo D Y A sg al o ar mu ao lT) (fun _ : Nat → Nat → Nat => some (.int 2)) (fun al' : Nat → Nat → Nat => fun H => al' 0 0 = al 0 0 ∧ LWo D Y A sg al' o ar mu ao (lP 2 r) H) noX mc ms := by
  refine CT.ofH (by decide) (Nat.le_of_ble_eq_true rfl) ?_
  intro p_ e_ s_ m_ below_ meth_ c_ C0 K0 hr hlk htab
  refine k_aload_n C0 dL_pass_0 2 rfl ?_
  refine k_iconst C0 0 dL_pass_1 (by decide) ?_
  refine k_aload_n C0 dL_pass_2 0 rfl ?_
  refine k_iload_n C0 dL_pass_3 1 rfl ?_
  refine k_callV C0 K0 dL_pass_4 hM gkL_81 hyX5_pass (lw_recv K0) rfl (by exact Nat.le_of_ble_eq_true rfl) ⟨Nat.succ_le_succ hF, show 8 + (4 + 11) + LOC ≤ 340 by omega⟩ ⟨Nat.le_of_eq (Nat.zero_add _), Nat.le_of_eq (Nat.zero_add _)⟩ (fun E => kX_xE ?_ E) (fun _ => fun _ _ _ h => h.elim)
  refine k_catch C0 K0 [⟨0, 9, 12, 13⟩] ⟨0, 9, 15, 19⟩ [] htab (List.forall_mem_cons.mpr ⟨Or.inr ⟨by decide, "java/lang/IllegalArgumentException", (tA 130 rfl rfl), by decide⟩, (fun _ h => absurd h List.not_mem_nil)⟩) (by decide) (by decide) (tA 214 rfl rfl) (by decide) (fun q => ?_)
  refine k_astore_n C0 [(3, _), (0, _), (1, _), (2, _)] dL_pass_15 (by decide) rfl ?_
  refine k_iconst C0 2 dL_pass_16 (by decide) ?_
  exact k_iret C0 dL_pass_17 hr hlk (Nat.le_of_eq (Nat.zero_add _)) (Nat.le_of_eq (Nat.zero_add _)) al rfl (fun H h => ⟨rfl, (h.mono (fun v _ z => absurd z (by decide)))⟩)
