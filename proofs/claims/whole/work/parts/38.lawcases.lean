/-! the law's cases -/
theorem gkL_88 : GoodIn TT (va_wsS RL 88 yL_setTax (Cond.codeWith yL_setTax cL_setTax 6 (some .int) [(0, 12, 15, 13)] :: TT)) := goodTS (tA 127 rfl rfl) (tA 128 rfl rfl) (tA 0 rfl rfl) (goodTW (tA 129 rfl rfl))
theorem hyL_setTax : yL_setTax.cls ≠ "java/lang/invoke/MethodHandle" ∧ yL_setTax.cls ≠ "java/lang/invoke/VarHandle" ∧ (parseMethodDescriptor yL_setTax.desc).map (fun d => d.parameters.length) = some 5 := by decide +kernel
theorem gkL_93 : GoodIn TT (wsV RL 93 yX6_setTax.cls yX6_setTax (Cond.code yX6_setTax cX6_setTax 5 (some .int) :: TT)) := goodTV (tD 60 rfl rfl) (tD 61 rfl rfl) (tD 62 rfl rfl) (tA 6 rfl rfl) (tD 63 rfl rfl)
theorem hyX6_setTax : yX6_setTax.cls ≠ "java/lang/invoke/MethodHandle" ∧ yX6_setTax.cls ≠ "java/lang/invoke/VarHandle" ∧ (parseMethodDescriptor yX6_setTax.desc).map (fun d => d.parameters.length) = some 3 := by decide +kernel
theorem gkL_98 : GoodIn TT (va_wsS RL 98 yL_addMaker (Cond.codeWith yL_addMaker cL_addMaker 4 (some .int) [(0, 9, 12, 13), (0, 9, 15, 19)] :: TT)) := goodTS (tA 211 rfl rfl) (tA 212 rfl rfl) (tA 0 rfl rfl) (goodTW (tA 213 rfl rfl))
theorem hyL_addMaker : yL_addMaker.cls ≠ "java/lang/invoke/MethodHandle" ∧ yL_addMaker.cls ≠ "java/lang/invoke/VarHandle" ∧ (parseMethodDescriptor yL_addMaker.desc).map (fun d => d.parameters.length) = some 3 := by decide +kernel
theorem gkL_101 : GoodIn TT (wsV RL 101 yX6_addMaker.cls yX6_addMaker (Cond.code yX6_addMaker cX6_addMaker 2 (some .int) :: TT)) := goodTV (tD 67 rfl rfl) (tD 68 rfl rfl) (tD 69 rfl rfl) (tA 6 rfl rfl) (tD 70 rfl rfl)
theorem hyX6_addMaker : yX6_addMaker.cls ≠ "java/lang/invoke/MethodHandle" ∧ yX6_addMaker.cls ≠ "java/lang/invoke/VarHandle" ∧ (parseMethodDescriptor yX6_addMaker.desc).map (fun d => d.parameters.length) = some 1 := by decide +kernel
theorem gkL_102 : GoodIn TT (va_wsS RL 102 yL_addProduct (Cond.codeWith yL_addProduct cL_addProduct 5 (some .int) [(0, 10, 13, 25), (0, 10, 17, 13), (0, 10, 21, 19)] :: TT)) := goodTS (tB 83 rfl rfl) (tB 84 rfl rfl) (tA 0 rfl rfl) (goodTW (tB 85 rfl rfl))
theorem hyL_addProduct : yL_addProduct.cls ≠ "java/lang/invoke/MethodHandle" ∧ yL_addProduct.cls ≠ "java/lang/invoke/VarHandle" ∧ (parseMethodDescriptor yL_addProduct.desc).map (fun d => d.parameters.length) = some 4 := by decide +kernel
theorem gkL_105 : GoodIn TT (wsV RL 105 yX6_addProduct.cls yX6_addProduct (Cond.code yX6_addProduct cX6_addProduct 4 (some .int) :: TT)) := goodTV (tD 72 rfl rfl) (tD 73 rfl rfl) (tD 74 rfl rfl) (tA 6 rfl rfl) (tD 75 rfl rfl)
theorem hyX6_addProduct : yX6_addProduct.cls ≠ "java/lang/invoke/MethodHandle" ∧ yX6_addProduct.cls ≠ "java/lang/invoke/VarHandle" ∧ (parseMethodDescriptor yX6_addProduct.desc).map (fun d => d.parameters.length) = some 2 := by decide +kernel
theorem gkL_106 : GoodIn TT (va_wsS RL 106 yL_setPrice (Cond.codeWith yL_setPrice cL_setPrice 6 (some .int) [(0, 12, 15, 25), (0, 12, 19, 13)] :: TT)) := goodTS (tB 144 rfl rfl) (tB 145 rfl rfl) (tA 0 rfl rfl) (goodTW (tB 146 rfl rfl))
theorem hyL_setPrice : yL_setPrice.cls ≠ "java/lang/invoke/MethodHandle" ∧ yL_setPrice.cls ≠ "java/lang/invoke/VarHandle" ∧ (parseMethodDescriptor yL_setPrice.desc).map (fun d => d.parameters.length) = some 5 := by decide +kernel
theorem gkL_109 : GoodIn TT (wsV RL 109 yX6_setPrice.cls yX6_setPrice (Cond.code yX6_setPrice cX6_setPrice 5 (some .int) :: TT)) := goodTV (tD 77 rfl rfl) (tD 78 rfl rfl) (tD 79 rfl rfl) (tA 6 rfl rfl) (tD 80 rfl rfl)
theorem hyX6_setPrice : yX6_setPrice.cls ≠ "java/lang/invoke/MethodHandle" ∧ yX6_setPrice.cls ≠ "java/lang/invoke/VarHandle" ∧ (parseMethodDescriptor yX6_setPrice.desc).map (fun d => d.parameters.length) = some 3 := by decide +kernel
theorem gkL_110 : GoodIn TT (va_wsS RL 110 yL_buy (Cond.codeWith yL_buy cL_buy 5 (some .int) [(0, 10, 13, 25), (0, 10, 17, 13)] :: TT)) := goodTS (tB 164 rfl rfl) (tB 165 rfl rfl) (tA 0 rfl rfl) (goodTW (tB 166 rfl rfl))
theorem hyL_buy : yL_buy.cls ≠ "java/lang/invoke/MethodHandle" ∧ yL_buy.cls ≠ "java/lang/invoke/VarHandle" ∧ (parseMethodDescriptor yL_buy.desc).map (fun d => d.parameters.length) = some 4 := by decide +kernel
theorem gkL_112 : GoodIn TT (wsV RL 112 yX6_buy.cls yX6_buy (Cond.code yX6_buy cX6_buy 3 (some .int) :: TT)) := goodTV (tD 81 rfl rfl) (tD 82 rfl rfl) (tD 83 rfl rfl) (tA 6 rfl rfl) (tD 84 rfl rfl)
theorem hyX6_buy : yX6_buy.cls ≠ "java/lang/invoke/MethodHandle" ∧ yX6_buy.cls ≠ "java/lang/invoke/VarHandle" ∧ (parseMethodDescriptor yX6_buy.desc).map (fun d => d.parameters.length) = some 2 := by decide +kernel
theorem gkL_113 : GoodIn TT (va_wsS RL 113 yL_refund (Cond.codeWith yL_refund cL_refund 4 (some .int) [(0, 9, 12, 25), (0, 9, 15, 19)] :: TT)) := goodTS (tB 231 rfl rfl) (tB 232 rfl rfl) (tA 0 rfl rfl) (goodTW (tB 233 rfl rfl))
theorem hyL_refund : yL_refund.cls ≠ "java/lang/invoke/MethodHandle" ∧ yL_refund.cls ≠ "java/lang/invoke/VarHandle" ∧ (parseMethodDescriptor yL_refund.desc).map (fun d => d.parameters.length) = some 3 := by decide +kernel
theorem gkL_115 : GoodIn TT (wsV RL 115 yX6_refund.cls yX6_refund (Cond.code yX6_refund cX6_refund 2 (some .int) :: TT)) := goodTV (tD 108 rfl rfl) (tD 109 rfl rfl) (tD 110 rfl rfl) (tA 6 rfl rfl) (tD 111 rfl rfl)
theorem hyX6_refund : yX6_refund.cls ≠ "java/lang/invoke/MethodHandle" ∧ yX6_refund.cls ≠ "java/lang/invoke/VarHandle" ∧ (parseMethodDescriptor yX6_refund.desc).map (fun d => d.parameters.length) = some 1 := by decide +kernel
theorem gkL_116 : GoodIn TT (wsV RL 116 yX5_sales.cls yX5_sales (Cond.code yX5_sales cX5_sales 1 (some .int) :: TT)) := goodTV (tA 107 rfl rfl) (tA 108 rfl rfl) (tA 109 rfl rfl) (tA 1 rfl rfl) (tA 110 rfl rfl)
theorem hyX5_sales : yX5_sales.cls ≠ "java/lang/invoke/MethodHandle" ∧ yX5_sales.cls ≠ "java/lang/invoke/VarHandle" ∧ (parseMethodDescriptor yX5_sales.desc).map (fun d => d.parameters.length) = some 0 := by decide +kernel
theorem gkL_119 : GoodIn TT (wsV RL 119 yX6_sales.cls yX6_sales (Cond.code yX6_sales cX6_sales 1 (some .int) :: TT)) := goodTV (tD 121 rfl rfl) (tD 122 rfl rfl) (tD 123 rfl rfl) (tA 6 rfl rfl) (tD 124 rfl rfl)
theorem hyX6_sales : yX6_sales.cls ≠ "java/lang/invoke/MethodHandle" ∧ yX6_sales.cls ≠ "java/lang/invoke/VarHandle" ∧ (parseMethodDescriptor yX6_sales.desc).map (fun d => d.parameters.length) = some 0 := by decide +kernel
theorem gkL_120 : GoodIn TT (va_wsS RL 120 yL_paid (Cond.codeWith yL_paid cL_paid 4 (some .int) [(0, 9, 12, 25)] :: TT)) := goodTS (tC 5 rfl rfl) (tC 6 rfl rfl) (tA 0 rfl rfl) (goodTW (tC 7 rfl rfl))
theorem hyL_paid : yL_paid.cls ≠ "java/lang/invoke/MethodHandle" ∧ yL_paid.cls ≠ "java/lang/invoke/VarHandle" ∧ (parseMethodDescriptor yL_paid.desc).map (fun d => d.parameters.length) = some 3 := by decide +kernel
theorem gkL_122 : GoodIn TT (wsV RL 122 yX6_paid.cls yX6_paid (Cond.code yX6_paid cX6_paid 2 (some .int) :: TT)) := goodTV (tD 125 rfl rfl) (tD 126 rfl rfl) (tD 127 rfl rfl) (tA 6 rfl rfl) (tD 128 rfl rfl)
theorem hyX6_paid : yX6_paid.cls ≠ "java/lang/invoke/MethodHandle" ∧ yX6_paid.cls ≠ "java/lang/invoke/VarHandle" ∧ (parseMethodDescriptor yX6_paid.desc).map (fun d => d.parameters.length) = some 1 := by decide +kernel
theorem gkL_123 : GoodIn TT (va_wsS RL 123 yL_tax (Cond.codeWith yL_tax cL_tax 4 (some .int) [(0, 9, 12, 25)] :: TT)) := goodTS (tC 12 rfl rfl) (tC 13 rfl rfl) (tA 0 rfl rfl) (goodTW (tC 14 rfl rfl))
theorem hyL_tax : yL_tax.cls ≠ "java/lang/invoke/MethodHandle" ∧ yL_tax.cls ≠ "java/lang/invoke/VarHandle" ∧ (parseMethodDescriptor yL_tax.desc).map (fun d => d.parameters.length) = some 3 := by decide +kernel
theorem gkL_125 : GoodIn TT (wsV RL 125 yX6_tax.cls yX6_tax (Cond.code yX6_tax cX6_tax 2 (some .int) :: TT)) := goodTV (tD 129 rfl rfl) (tD 130 rfl rfl) (tD 131 rfl rfl) (tA 6 rfl rfl) (tD 132 rfl rfl)
theorem hyX6_tax : yX6_tax.cls ≠ "java/lang/invoke/MethodHandle" ∧ yX6_tax.cls ≠ "java/lang/invoke/VarHandle" ∧ (parseMethodDescriptor yX6_tax.desc).map (fun d => d.parameters.length) = some 1 := by decide +kernel
theorem gkL_126 : GoodIn TT (va_wsS RL 126 yL_shopShare (Cond.codeWith yL_shopShare cL_shopShare 4 (some .int) [(0, 9, 12, 25)] :: TT)) := goodTS (tC 19 rfl rfl) (tC 20 rfl rfl) (tA 0 rfl rfl) (goodTW (tC 21 rfl rfl))
theorem hyL_shopShare : yL_shopShare.cls ≠ "java/lang/invoke/MethodHandle" ∧ yL_shopShare.cls ≠ "java/lang/invoke/VarHandle" ∧ (parseMethodDescriptor yL_shopShare.desc).map (fun d => d.parameters.length) = some 3 := by decide +kernel
theorem gkL_128 : GoodIn TT (wsV RL 128 yX6_shopShare.cls yX6_shopShare (Cond.code yX6_shopShare cX6_shopShare 2 (some .int) :: TT)) := goodTV (tD 133 rfl rfl) (tD 134 rfl rfl) (tD 135 rfl rfl) (tA 6 rfl rfl) (tD 136 rfl rfl)
theorem hyX6_shopShare : yX6_shopShare.cls ≠ "java/lang/invoke/MethodHandle" ∧ yX6_shopShare.cls ≠ "java/lang/invoke/VarHandle" ∧ (parseMethodDescriptor yX6_shopShare.desc).map (fun d => d.parameters.length) = some 1 := by decide +kernel
theorem gkL_129 : GoodIn TT (va_wsS RL 129 yL_makerPart (Cond.codeWith yL_makerPart cL_makerPart 4 (some .int) [(0, 9, 12, 25)] :: TT)) := goodTS (tC 26 rfl rfl) (tC 27 rfl rfl) (tA 0 rfl rfl) (goodTW (tC 28 rfl rfl))
theorem hyL_makerPart : yL_makerPart.cls ≠ "java/lang/invoke/MethodHandle" ∧ yL_makerPart.cls ≠ "java/lang/invoke/VarHandle" ∧ (parseMethodDescriptor yL_makerPart.desc).map (fun d => d.parameters.length) = some 3 := by decide +kernel
theorem gkL_131 : GoodIn TT (wsV RL 131 yX6_makerPart.cls yX6_makerPart (Cond.code yX6_makerPart cX6_makerPart 2 (some .int) :: TT)) := goodTV (tD 137 rfl rfl) (tD 138 rfl rfl) (tD 139 rfl rfl) (tA 6 rfl rfl) (tD 140 rfl rfl)
theorem hyX6_makerPart : yX6_makerPart.cls ≠ "java/lang/invoke/MethodHandle" ∧ yX6_makerPart.cls ≠ "java/lang/invoke/VarHandle" ∧ (parseMethodDescriptor yX6_makerPart.desc).map (fun d => d.parameters.length) = some 1 := by decide +kernel
theorem gkL_132 : GoodIn TT (va_wsS RL 132 yL_subscribe (Cond.codeWith yL_subscribe cL_subscribe 7 (some .int) [(0, 14, 17, 25), (0, 14, 21, 13), (0, 14, 25, 19)] :: TT)) := goodTS (tC 33 rfl rfl) (tC 34 rfl rfl) (tA 0 rfl rfl) (goodTW (tC 35 rfl rfl))
theorem hyL_subscribe : yL_subscribe.cls ≠ "java/lang/invoke/MethodHandle" ∧ yL_subscribe.cls ≠ "java/lang/invoke/VarHandle" ∧ (parseMethodDescriptor yL_subscribe.desc).map (fun d => d.parameters.length) = some 6 := by decide +kernel
theorem gkL_135 : GoodIn TT (wsV RL 135 yX6_subscribe.cls yX6_subscribe (Cond.code yX6_subscribe cX6_subscribe 5 (some .int) :: TT)) := goodTV (tD 141 rfl rfl) (tD 142 rfl rfl) (tD 143 rfl rfl) (tA 6 rfl rfl) (tD 144 rfl rfl)
theorem hyX6_subscribe : yX6_subscribe.cls ≠ "java/lang/invoke/MethodHandle" ∧ yX6_subscribe.cls ≠ "java/lang/invoke/VarHandle" ∧ (parseMethodDescriptor yX6_subscribe.desc).map (fun d => d.parameters.length) = some 4 := by decide +kernel
theorem gkL_136 : GoodIn TT (va_wsS RL 136 yL_move (Cond.codeWith yL_move cL_move 5 (some .int) [(0, 10, 13, 25), (0, 10, 17, 13), (0, 10, 21, 19)] :: TT)) := goodTS (tC 73 rfl rfl) (tC 74 rfl rfl) (tA 0 rfl rfl) (goodTW (tC 75 rfl rfl))
theorem hyL_move : yL_move.cls ≠ "java/lang/invoke/MethodHandle" ∧ yL_move.cls ≠ "java/lang/invoke/VarHandle" ∧ (parseMethodDescriptor yL_move.desc).map (fun d => d.parameters.length) = some 4 := by decide +kernel
theorem gkL_138 : GoodIn TT (wsV RL 138 yX6_move.cls yX6_move (Cond.code yX6_move cX6_move 4 (some .int) :: TT)) := goodTV (tD 145 rfl rfl) (tD 146 rfl rfl) (tD 147 rfl rfl) (tA 6 rfl rfl) (tD 148 rfl rfl)
theorem hyX6_move : yX6_move.cls ≠ "java/lang/invoke/MethodHandle" ∧ yX6_move.cls ≠ "java/lang/invoke/VarHandle" ∧ (parseMethodDescriptor yX6_move.desc).map (fun d => d.parameters.length) = some 2 := by decide +kernel
theorem gkL_139 : GoodIn TT (va_wsS RL 139 yL_setFailing (Cond.codeWith yL_setFailing cL_setFailing 4 (some .int) [(0, 6, 9, 25), (0, 6, 12, 19)] :: TT)) := goodTS (tC 95 rfl rfl) (tC 96 rfl rfl) (tA 0 rfl rfl) (goodTW (tC 97 rfl rfl))
theorem hyL_setFailing : yL_setFailing.cls ≠ "java/lang/invoke/MethodHandle" ∧ yL_setFailing.cls ≠ "java/lang/invoke/VarHandle" ∧ (parseMethodDescriptor yL_setFailing.desc).map (fun d => d.parameters.length) = some 3 := by decide +kernel
theorem gkL_142 : GoodIn TT (wsV RL 142 yX6_setFailing.cls yX6_setFailing (Cond.code yX6_setFailing cX6_setFailing 3 none :: TT)) := goodTV (tD 149 rfl rfl) (tD 150 rfl rfl) (tD 151 rfl rfl) (tA 6 rfl rfl) (tD 152 rfl rfl)
theorem hyX6_setFailing : yX6_setFailing.cls ≠ "java/lang/invoke/MethodHandle" ∧ yX6_setFailing.cls ≠ "java/lang/invoke/VarHandle" ∧ (parseMethodDescriptor yX6_setFailing.desc).map (fun d => d.parameters.length) = some 2 := by decide +kernel
theorem gkL_143 : GoodIn TT (va_wsS RL 143 yL_cancel (Cond.codeWith yL_cancel cL_cancel 4 (some .int) [(0, 9, 12, 25), (0, 9, 15, 19)] :: TT)) := goodTS (tC 102 rfl rfl) (tC 103 rfl rfl) (tA 0 rfl rfl) (goodTW (tC 104 rfl rfl))
theorem hyL_cancel : yL_cancel.cls ≠ "java/lang/invoke/MethodHandle" ∧ yL_cancel.cls ≠ "java/lang/invoke/VarHandle" ∧ (parseMethodDescriptor yL_cancel.desc).map (fun d => d.parameters.length) = some 3 := by decide +kernel
theorem gkL_145 : GoodIn TT (wsV RL 145 yX6_cancel.cls yX6_cancel (Cond.code yX6_cancel cX6_cancel 2 (some .int) :: TT)) := goodTV (tD 157 rfl rfl) (tD 158 rfl rfl) (tD 159 rfl rfl) (tA 6 rfl rfl) (tD 160 rfl rfl)
theorem hyX6_cancel : yX6_cancel.cls ≠ "java/lang/invoke/MethodHandle" ∧ yX6_cancel.cls ≠ "java/lang/invoke/VarHandle" ∧ (parseMethodDescriptor yX6_cancel.desc).map (fun d => d.parameters.length) = some 1 := by decide +kernel
theorem gkL_146 : GoodIn TT (va_wsS RL 146 yL_payments (Cond.codeWith yL_payments cL_payments 4 (some .int) [(0, 9, 12, 25)] :: TT)) := goodTS (tC 113 rfl rfl) (tC 114 rfl rfl) (tA 0 rfl rfl) (goodTW (tC 115 rfl rfl))
theorem hyL_payments : yL_payments.cls ≠ "java/lang/invoke/MethodHandle" ∧ yL_payments.cls ≠ "java/lang/invoke/VarHandle" ∧ (parseMethodDescriptor yL_payments.desc).map (fun d => d.parameters.length) = some 3 := by decide +kernel
theorem gkL_148 : GoodIn TT (wsV RL 148 yX6_payments.cls yX6_payments (Cond.code yX6_payments cX6_payments 2 (some .int) :: TT)) := goodTV (tD 161 rfl rfl) (tD 162 rfl rfl) (tD 163 rfl rfl) (tA 6 rfl rfl) (tD 164 rfl rfl)
theorem hyX6_payments : yX6_payments.cls ≠ "java/lang/invoke/MethodHandle" ∧ yX6_payments.cls ≠ "java/lang/invoke/VarHandle" ∧ (parseMethodDescriptor yX6_payments.desc).map (fun d => d.parameters.length) = some 1 := by decide +kernel
theorem gkL_149 : GoodIn TT (va_wsS RL 149 yL_next (Cond.codeWith yL_next cL_next 4 (some .int) [(0, 9, 12, 25)] :: TT)) := goodTS (tC 120 rfl rfl) (tC 121 rfl rfl) (tA 0 rfl rfl) (goodTW (tC 122 rfl rfl))
theorem hyL_next : yL_next.cls ≠ "java/lang/invoke/MethodHandle" ∧ yL_next.cls ≠ "java/lang/invoke/VarHandle" ∧ (parseMethodDescriptor yL_next.desc).map (fun d => d.parameters.length) = some 3 := by decide +kernel
theorem gkL_151 : GoodIn TT (wsV RL 151 yX6_next.cls yX6_next (Cond.code yX6_next cX6_next 2 (some .int) :: TT)) := goodTV (tD 165 rfl rfl) (tD 166 rfl rfl) (tD 167 rfl rfl) (tA 6 rfl rfl) (tD 168 rfl rfl)
theorem hyX6_next : yX6_next.cls ≠ "java/lang/invoke/MethodHandle" ∧ yX6_next.cls ≠ "java/lang/invoke/VarHandle" ∧ (parseMethodDescriptor yX6_next.desc).map (fun d => d.parameters.length) = some 1 := by decide +kernel
theorem gkL_152 : GoodIn TT (va_wsS RL 152 yL_payout (Cond.codeWith yL_payout cL_payout 5 (some .int) [(0, 10, 13, 25), (0, 10, 17, 13)] :: TT)) := goodTS (tC 127 rfl rfl) (tC 128 rfl rfl) (tA 0 rfl rfl) (goodTW (tC 129 rfl rfl))
theorem hyL_payout : yL_payout.cls ≠ "java/lang/invoke/MethodHandle" ∧ yL_payout.cls ≠ "java/lang/invoke/VarHandle" ∧ (parseMethodDescriptor yL_payout.desc).map (fun d => d.parameters.length) = some 4 := by decide +kernel
theorem gkL_154 : GoodIn TT (wsV RL 154 yX6_payout.cls yX6_payout (Cond.code yX6_payout cX6_payout 3 (some .int) :: TT)) := goodTV (tD 169 rfl rfl) (tD 170 rfl rfl) (tD 171 rfl rfl) (tA 6 rfl rfl) (tD 172 rfl rfl)
theorem hyX6_payout : yX6_payout.cls ≠ "java/lang/invoke/MethodHandle" ∧ yX6_payout.cls ≠ "java/lang/invoke/VarHandle" ∧ (parseMethodDescriptor yX6_payout.desc).map (fun d => d.parameters.length) = some 2 := by decide +kernel
theorem gkL_155 : GoodIn TT (va_wsS RL 155 yL_carried (Cond.codeWith yL_carried cL_carried 4 (some .int) [(0, 9, 12, 25)] :: TT)) := goodTS (tC 138 rfl rfl) (tC 139 rfl rfl) (tA 0 rfl rfl) (goodTW (tC 140 rfl rfl))
theorem hyL_carried : yL_carried.cls ≠ "java/lang/invoke/MethodHandle" ∧ yL_carried.cls ≠ "java/lang/invoke/VarHandle" ∧ (parseMethodDescriptor yL_carried.desc).map (fun d => d.parameters.length) = some 3 := by decide +kernel
theorem gkL_157 : GoodIn TT (wsV RL 157 yX6_carried.cls yX6_carried (Cond.code yX6_carried cX6_carried 2 (some .int) :: TT)) := goodTV (tD 173 rfl rfl) (tD 174 rfl rfl) (tD 175 rfl rfl) (tA 6 rfl rfl) (tD 176 rfl rfl)
theorem hyX6_carried : yX6_carried.cls ≠ "java/lang/invoke/MethodHandle" ∧ yX6_carried.cls ≠ "java/lang/invoke/VarHandle" ∧ (parseMethodDescriptor yX6_carried.desc).map (fun d => d.parameters.length) = some 1 := by decide +kernel
theorem gkL_158 : GoodIn TT (va_wsS RL 158 yL_balance (Cond.codeWith yL_balance cL_balance 4 (some .int) [(0, 9, 12, 25)] :: TT)) := goodTS (tC 145 rfl rfl) (tC 146 rfl rfl) (tA 0 rfl rfl) (goodTW (tC 147 rfl rfl))
theorem hyL_balance : yL_balance.cls ≠ "java/lang/invoke/MethodHandle" ∧ yL_balance.cls ≠ "java/lang/invoke/VarHandle" ∧ (parseMethodDescriptor yL_balance.desc).map (fun d => d.parameters.length) = some 3 := by decide +kernel
theorem gkL_160 : GoodIn TT (wsV RL 160 yX6_balance.cls yX6_balance (Cond.code yX6_balance cX6_balance 2 (some .int) :: TT)) := goodTV (tD 181 rfl rfl) (tD 182 rfl rfl) (tD 183 rfl rfl) (tA 6 rfl rfl) (tD 184 rfl rfl)
theorem hyX6_balance : yX6_balance.cls ≠ "java/lang/invoke/MethodHandle" ∧ yX6_balance.cls ≠ "java/lang/invoke/VarHandle" ∧ (parseMethodDescriptor yX6_balance.desc).map (fun d => d.parameters.length) = some 1 := by decide +kernel
theorem gkL_161 : GoodIn TT (va_wsS RL 161 yL_heldTax (Cond.codeWith yL_heldTax cL_heldTax 4 (some .int) [(0, 9, 12, 13)] :: TT)) := goodTS (tC 156 rfl rfl) (tC 157 rfl rfl) (tA 0 rfl rfl) (goodTW (tC 158 rfl rfl))
theorem hyL_heldTax : yL_heldTax.cls ≠ "java/lang/invoke/MethodHandle" ∧ yL_heldTax.cls ≠ "java/lang/invoke/VarHandle" ∧ (parseMethodDescriptor yL_heldTax.desc).map (fun d => d.parameters.length) = some 3 := by decide +kernel
theorem gkL_163 : GoodIn TT (wsV RL 163 yX6_heldTax.cls yX6_heldTax (Cond.code yX6_heldTax cX6_heldTax 2 (some .int) :: TT)) := goodTV (tD 185 rfl rfl) (tD 186 rfl rfl) (tD 187 rfl rfl) (tA 6 rfl rfl) (tD 188 rfl rfl)
theorem hyX6_heldTax : yX6_heldTax.cls ≠ "java/lang/invoke/MethodHandle" ∧ yX6_heldTax.cls ≠ "java/lang/invoke/VarHandle" ∧ (parseMethodDescriptor yX6_heldTax.desc).map (fun d => d.parameters.length) = some 1 := by decide +kernel
theorem gkL_164 : GoodIn TT (wsV RL 164 yX5_shop.cls yX5_shop (Cond.code yX5_shop cX5_shop 1 (some .int) :: TT)) := goodTV (tA 115 rfl rfl) (tA 116 rfl rfl) (tA 117 rfl rfl) (tA 1 rfl rfl) (tA 118 rfl rfl)
theorem hyX5_shop : yX5_shop.cls ≠ "java/lang/invoke/MethodHandle" ∧ yX5_shop.cls ≠ "java/lang/invoke/VarHandle" ∧ (parseMethodDescriptor yX5_shop.desc).map (fun d => d.parameters.length) = some 0 := by decide +kernel
theorem gkL_167 : GoodIn TT (wsV RL 167 yX6_shop.cls yX6_shop (Cond.code yX6_shop cX6_shop 1 (some .int) :: TT)) := goodTV (tD 189 rfl rfl) (tD 190 rfl rfl) (tD 191 rfl rfl) (tA 6 rfl rfl) (tD 192 rfl rfl)
theorem hyX6_shop : yX6_shop.cls ≠ "java/lang/invoke/MethodHandle" ∧ yX6_shop.cls ≠ "java/lang/invoke/VarHandle" ∧ (parseMethodDescriptor yX6_shop.desc).map (fun d => d.parameters.length) = some 0 := by decide +kernel
theorem gkL_168 : GoodIn TT (wsV RL 168 yX5_takings.cls yX5_takings (Cond.code yX5_takings cX5_takings 1 (some .int) :: TT)) := goodTV (tA 119 rfl rfl) (tA 120 rfl rfl) (tA 121 rfl rfl) (tA 1 rfl rfl) (tA 122 rfl rfl)
theorem hyX5_takings : yX5_takings.cls ≠ "java/lang/invoke/MethodHandle" ∧ yX5_takings.cls ≠ "java/lang/invoke/VarHandle" ∧ (parseMethodDescriptor yX5_takings.desc).map (fun d => d.parameters.length) = some 0 := by decide +kernel
theorem gkL_171 : GoodIn TT (wsV RL 171 yX6_takings.cls yX6_takings (Cond.code yX6_takings cX6_takings 1 (some .int) :: TT)) := goodTV (tD 193 rfl rfl) (tD 194 rfl rfl) (tD 195 rfl rfl) (tA 6 rfl rfl) (tD 196 rfl rfl)
theorem hyX6_takings : yX6_takings.cls ≠ "java/lang/invoke/MethodHandle" ∧ yX6_takings.cls ≠ "java/lang/invoke/VarHandle" ∧ (parseMethodDescriptor yX6_takings.desc).map (fun d => d.parameters.length) = some 0 := by decide +kernel
theorem gkL_172 : GoodIn TT (va_wsS RL 172 yL_pass (Cond.codeWith yL_pass cL_pass 4 (some .int) [(0, 9, 12, 13), (0, 9, 15, 19)] :: TT)) := goodTS (tC 163 rfl rfl) (tC 164 rfl rfl) (tA 0 rfl rfl) (goodTW (tC 165 rfl rfl))
theorem hyL_pass : yL_pass.cls ≠ "java/lang/invoke/MethodHandle" ∧ yL_pass.cls ≠ "java/lang/invoke/VarHandle" ∧ (parseMethodDescriptor yL_pass.desc).map (fun d => d.parameters.length) = some 3 := by decide +kernel
theorem gkL_174 : GoodIn TT (wsV RL 174 yX6_pass.cls yX6_pass (Cond.code yX6_pass cX6_pass 5 (some .int) :: TT)) := goodTV (tD 197 rfl rfl) (tD 198 rfl rfl) (tD 199 rfl rfl) (tA 6 rfl rfl) (tD 200 rfl rfl)
theorem hyX6_pass : yX6_pass.cls ≠ "java/lang/invoke/MethodHandle" ∧ yX6_pass.cls ≠ "java/lang/invoke/VarHandle" ∧ (parseMethodDescriptor yX6_pass.desc).map (fun d => d.parameters.length) = some 1 := by decide +kernel
theorem gkL_175 : GoodIn TT (wsV RL 175 yX5_day.cls yX5_day (Cond.code yX5_day cX5_day 1 (some .int) :: TT)) := goodTV (tA 123 rfl rfl) (tA 124 rfl rfl) (tA 125 rfl rfl) (tA 1 rfl rfl) (tA 126 rfl rfl)
theorem hyX5_day : yX5_day.cls ≠ "java/lang/invoke/MethodHandle" ∧ yX5_day.cls ≠ "java/lang/invoke/VarHandle" ∧ (parseMethodDescriptor yX5_day.desc).map (fun d => d.parameters.length) = some 0 := by decide +kernel
theorem gkL_178 : GoodIn TT (wsV RL 178 yX6_day.cls yX6_day (Cond.code yX6_day cX6_day 1 (some .int) :: TT)) := goodTV (tD 209 rfl rfl) (tD 210 rfl rfl) (tD 211 rfl rfl) (tA 6 rfl rfl) (tD 212 rfl rfl)
theorem hyX6_day : yX6_day.cls ≠ "java/lang/invoke/MethodHandle" ∧ yX6_day.cls ≠ "java/lang/invoke/VarHandle" ∧ (parseMethodDescriptor yX6_day.desc).map (fun d => d.parameters.length) = some 0 := by decide +kernel
set_option maxRecDepth 100000 in
set_option maxHeartbeats 4000000 in
theorem lc_0 {p : Program} {l : Launch} {e : Env} {s : State} {m : MethodId} {below : List Frame} {meth : Method} {c0 : Code} {Q : State → Prop} {A : Nat → Prop} {D : va_G} {Y : Nat → Nat} {b L : Nat} {xs : Nat → Int32} {sg : Sg} {al : Nat → Nat → Nat} {o ao : Nat} {ar : Nat → Nat} {mu : Rm} {c q : Nat} (C0 : CallFix p m c0 cL_law 7 s #[Value.ref b] TT RL) (K0 : PK D Y A s) (X0 : SX s A b L xs) (hlt : l.stackTraces = false) (R : RI c sg mu) (hc : c < 590) (hq : q + 4 < L) (gE : ∀ (sg' : Sg) (al' : Nat → Nat → Nat) (mu' : Rm), RI (c + 1) sg' mu' → al' 0 0 = al 0 0 → kG p l e room_1 s m #[Value.ref b] below meth c0 Q A 7 (LWo D Y A sg' al' o ar mu' ao lT) (kkC (c + 1) sg') (kkS (c + 1) sg') 1552 [(4, .int (nI q)), (3, .ref ao), (2, .ref o), (1, .ref (al 0 0)), (0, .ref b)] []) : kG p l e room_1 s m #[Value.ref b] below meth c0 Q A 7 (LWo D Y A sg al o ar mu ao lT) (kkC c sg) (kkS c sg) 152 [(4, .int (nI q)), (3, .ref ao), (2, .ref o), (1, .ref (al 0 0)), (0, .ref b)] [] := by
  obtain ⟨k, r, b0, sg2, mu2, mc, ms, FR, LR, R2, hph, h25, hb, hW, hFR, hLR, hRf⟩ := st_setTax (D := D) (Y := Y) (A := A) (al := al) (o := o) (ao := ao) (ar := ar) hlt R (by omega) (xs (q + 1)) (xs (q + 2)) (bz (xs (q + 3))) (bz_cs _)
  obtain ⟨⟨h1, h2⟩, ⟨h3, h4⟩, h5, h6⟩ := kk_up hph R2 hc
  refine k_aload_n C0 dL_law_152 3 rfl ?_
  refine k_arg C0 X0 (jz := 1) 1 4 0 dL_law_153 dL_law_154 dL_law_156 dL_law_157 dL_law_158 (by decide) rfl rfl (by omega) ?_
  refine k_arg C0 X0 (jz := 2) 2 4 0 dL_law_159 dL_law_160 dL_law_162 dL_law_163 dL_law_164 (by decide) rfl rfl (by omega) ?_
  refine k_arg C0 X0 (jz := 3) 3 4 0 dL_law_165 dL_law_166 dL_law_168 dL_law_169 dL_law_170 (by decide) rfl rfl (by omega) ?_
  refine k_bool C0 dL_law_171 dL_law_174 dL_law_175 dL_law_178 ?_
  refine k_aload_n C0 dL_law_179 1 rfl ?_
  refine k_callSW C0 K0 dL_law_180 hW gkL_88 hyL_setTax rfl (by exact (Nat.le_of_ble_eq_true rfl)) ⟨(Nat.le_of_ble_eq_true rfl), (Nat.le_of_ble_eq_true rfl)⟩ ⟨h3, h4⟩ (fun E => kX_no E) (fun al2 => ?_)
  refine k_ex (fun H h => h.1) (fun hal => ?_)
  refine k_W (fun H h => h.2) ?_
  refine k_wid h1 h2 ?_
  refine k_istore C0 [(5, _), (4, _), (3, _), (2, _), (1, _), (0, _)] dL_law_183 (by decide) rfl ?_
  refine k_aload_n C0 dL_law_185 3 rfl ?_
  refine k_arg C0 X0 (jz := 1) 1 5 1 dL_law_186 dL_law_187 dL_law_189 dL_law_190 dL_law_191 (by decide) rfl rfl (by omega) ?_
  refine k_arg C0 X0 (jz := 2) 2 5 1 dL_law_192 dL_law_193 dL_law_195 dL_law_196 dL_law_197 (by decide) rfl rfl (by omega) ?_
  refine k_arg C0 X0 (jz := 3) 3 5 1 dL_law_198 dL_law_199 dL_law_201 dL_law_202 dL_law_203 (by decide) rfl rfl (by omega) ?_
  refine k_bool C0 dL_law_204 dL_law_207 dL_law_208 dL_law_211 ?_
  refine k_callV C0 K0 dL_law_212 (hRf al2 _) gkL_93 hyX6_setTax (lw_recR K0) rfl (by exact (Nat.le_of_ble_eq_true rfl)) ⟨Nat.le_trans (Nat.succ_le_succ hFR) (Nat.le_of_ble_eq_true rfl), Nat.le_trans (Nat.add_le_add_left hLR _) (Nat.le_of_ble_eq_true rfl)⟩ ⟨h5, h6⟩ (fun E => kX_no E) (fun _ => ?_)
  refine k_istore C0 [(6, _), (5, _), (4, _), (3, _), (2, _), (1, _), (0, _)] dL_law_215 (by decide) rfl ?_
  exact k_tail C0 K0 1552 4 3 1 0 (Nat.le_of_ble_eq_true rfl) (Nat.le_of_ble_eq_true rfl) h5 h6 dL_law_217 dL_law_218 dL_law_221 dL_law_223 dL_law_228 dL_law_230 dL_law_233 dL_law_234 dL_law_235 dL_law_236 dL_law_238 dL_law_239 dL_law_240 dL_law_245 (by decide) rfl rfl rfl rfl h25 hb (k_lv [2, 3, 4, 5, 6] rfl (gE sg2 al2 mu2 R2 hal))
set_option maxRecDepth 100000 in
set_option maxHeartbeats 4000000 in
theorem lc_1 {p : Program} {l : Launch} {e : Env} {s : State} {m : MethodId} {below : List Frame} {meth : Method} {c0 : Code} {Q : State → Prop} {A : Nat → Prop} {D : va_G} {Y : Nat → Nat} {b L : Nat} {xs : Nat → Int32} {sg : Sg} {al : Nat → Nat → Nat} {o ao : Nat} {ar : Nat → Nat} {mu : Rm} {c q : Nat} (C0 : CallFix p m c0 cL_law 7 s #[Value.ref b] TT RL) (K0 : PK D Y A s) (X0 : SX s A b L xs) (hlt : l.stackTraces = false) (R : RI c sg mu) (hc : c < 590) (hq : q + 4 < L) (gE : ∀ (sg' : Sg) (al' : Nat → Nat → Nat) (mu' : Rm), RI (c + 1) sg' mu' → al' 0 0 = al 0 0 → kG p l e room_1 s m #[Value.ref b] below meth c0 Q A 7 (LWo D Y A sg' al' o ar mu' ao lT) (kkC (c + 1) sg') (kkS (c + 1) sg') 1552 [(4, .int (nI q)), (3, .ref ao), (2, .ref o), (1, .ref (al 0 0)), (0, .ref b)] []) : kG p l e room_1 s m #[Value.ref b] below meth c0 Q A 7 (LWo D Y A sg al o ar mu ao lT) (kkC c sg) (kkS c sg) 248 [(4, .int (nI q)), (3, .ref ao), (2, .ref o), (1, .ref (al 0 0)), (0, .ref b)] [] := by
  obtain ⟨k, r, b0, sg2, mu2, mc, ms, FR, LR, R2, hph, h25, hb, hW, hFR, hLR, hRf⟩ := st_addMaker (D := D) (Y := Y) (A := A) (al := al) (o := o) (ao := ao) (ar := ar) hlt R (by omega) (xs (q + 1))
  obtain ⟨⟨h1, h2⟩, ⟨h3, h4⟩, h5, h6⟩ := kk_up hph R2 hc
  refine k_aload_n C0 dL_law_248 3 rfl ?_
  refine k_arg C0 X0 (jz := 1) 1 4 0 dL_law_249 dL_law_250 dL_law_252 dL_law_253 dL_law_254 (by decide) rfl rfl (by omega) ?_
  refine k_aload_n C0 dL_law_255 1 rfl ?_
  refine k_callSW C0 K0 dL_law_256 hW gkL_98 hyL_addMaker rfl (by exact (Nat.le_of_ble_eq_true rfl)) ⟨(Nat.le_of_ble_eq_true rfl), (Nat.le_of_ble_eq_true rfl)⟩ ⟨h3, h4⟩ (fun E => kX_no E) (fun al2 => ?_)
  refine k_ex (fun H h => h.1) (fun hal => ?_)
  refine k_W (fun H h => h.2) ?_
  refine k_wid h1 h2 ?_
  refine k_istore C0 [(5, _), (4, _), (3, _), (2, _), (1, _), (0, _)] dL_law_259 (by decide) rfl ?_
  refine k_aload_n C0 dL_law_261 3 rfl ?_
  refine k_arg C0 X0 (jz := 1) 1 5 1 dL_law_262 dL_law_263 dL_law_265 dL_law_266 dL_law_267 (by decide) rfl rfl (by omega) ?_
  refine k_callV C0 K0 dL_law_268 (hRf al2 _) gkL_101 hyX6_addMaker (lw_recR K0) rfl (by exact (Nat.le_of_ble_eq_true rfl)) ⟨Nat.le_trans (Nat.succ_le_succ hFR) (Nat.le_of_ble_eq_true rfl), Nat.le_trans (Nat.add_le_add_left hLR _) (Nat.le_of_ble_eq_true rfl)⟩ ⟨h5, h6⟩ (fun E => kX_no E) (fun _ => ?_)
  refine k_istore C0 [(6, _), (5, _), (4, _), (3, _), (2, _), (1, _), (0, _)] dL_law_271 (by decide) rfl ?_
  exact k_tail C0 K0 1552 4 3 1 0 (Nat.le_of_ble_eq_true rfl) (Nat.le_of_ble_eq_true rfl) h5 h6 dL_law_273 dL_law_274 dL_law_277 dL_law_279 dL_law_284 dL_law_286 dL_law_289 dL_law_290 dL_law_291 dL_law_292 dL_law_294 dL_law_295 dL_law_296 dL_law_301 (by decide) rfl rfl rfl rfl h25 hb (k_lv [2, 3, 4, 5, 6] rfl (gE sg2 al2 mu2 R2 hal))
set_option maxRecDepth 100000 in
set_option maxHeartbeats 4000000 in
theorem lc_2 {p : Program} {l : Launch} {e : Env} {s : State} {m : MethodId} {below : List Frame} {meth : Method} {c0 : Code} {Q : State → Prop} {A : Nat → Prop} {D : va_G} {Y : Nat → Nat} {b L : Nat} {xs : Nat → Int32} {sg : Sg} {al : Nat → Nat → Nat} {o ao : Nat} {ar : Nat → Nat} {mu : Rm} {c q : Nat} (C0 : CallFix p m c0 cL_law 7 s #[Value.ref b] TT RL) (K0 : PK D Y A s) (X0 : SX s A b L xs) (hlt : l.stackTraces = false) (R : RI c sg mu) (hc : c < 590) (hq : q + 4 < L) (gE : ∀ (sg' : Sg) (al' : Nat → Nat → Nat) (mu' : Rm), RI (c + 1) sg' mu' → al' 0 0 = al 0 0 → kG p l e room_1 s m #[Value.ref b] below meth c0 Q A 7 (LWo D Y A sg' al' o ar mu' ao lT) (kkC (c + 1) sg') (kkS (c + 1) sg') 1552 [(4, .int (nI q)), (3, .ref ao), (2, .ref o), (1, .ref (al 0 0)), (0, .ref b)] []) : kG p l e room_1 s m #[Value.ref b] below meth c0 Q A 7 (LWo D Y A sg al o ar mu ao lT) (kkC c sg) (kkS c sg) 304 [(4, .int (nI q)), (3, .ref ao), (2, .ref o), (1, .ref (al 0 0)), (0, .ref b)] [] := by
  obtain ⟨k, r, b0, sg2, mu2, mc, ms, FR, LR, R2, hph, h25, hb, hW, hFR, hLR, hRf⟩ := st_addProduct (D := D) (Y := Y) (A := A) (al := al) (o := o) (ao := ao) (ar := ar) hlt R (by omega) (xs (q + 1)) (xs (q + 2))
  obtain ⟨⟨h1, h2⟩, ⟨h3, h4⟩, h5, h6⟩ := kk_up hph R2 hc
  refine k_aload_n C0 dL_law_304 3 rfl ?_
  refine k_arg C0 X0 (jz := 1) 1 4 0 dL_law_305 dL_law_306 dL_law_308 dL_law_309 dL_law_310 (by decide) rfl rfl (by omega) ?_
  refine k_arg C0 X0 (jz := 2) 2 4 0 dL_law_311 dL_law_312 dL_law_314 dL_law_315 dL_law_316 (by decide) rfl rfl (by omega) ?_
  refine k_aload_n C0 dL_law_317 1 rfl ?_
  refine k_callSW C0 K0 dL_law_318 hW gkL_102 hyL_addProduct rfl (by exact (Nat.le_of_ble_eq_true rfl)) ⟨(Nat.le_of_ble_eq_true rfl), (Nat.le_of_ble_eq_true rfl)⟩ ⟨h3, h4⟩ (fun E => kX_no E) (fun al2 => ?_)
  refine k_ex (fun H h => h.1) (fun hal => ?_)
  refine k_W (fun H h => h.2) ?_
  refine k_wid h1 h2 ?_
  refine k_istore C0 [(5, _), (4, _), (3, _), (2, _), (1, _), (0, _)] dL_law_321 (by decide) rfl ?_
  refine k_aload_n C0 dL_law_323 3 rfl ?_
  refine k_arg C0 X0 (jz := 1) 1 5 1 dL_law_324 dL_law_325 dL_law_327 dL_law_328 dL_law_329 (by decide) rfl rfl (by omega) ?_
  refine k_arg C0 X0 (jz := 2) 2 5 1 dL_law_330 dL_law_331 dL_law_333 dL_law_334 dL_law_335 (by decide) rfl rfl (by omega) ?_
  refine k_callV C0 K0 dL_law_336 (hRf al2 _) gkL_105 hyX6_addProduct (lw_recR K0) rfl (by exact (Nat.le_of_ble_eq_true rfl)) ⟨Nat.le_trans (Nat.succ_le_succ hFR) (Nat.le_of_ble_eq_true rfl), Nat.le_trans (Nat.add_le_add_left hLR _) (Nat.le_of_ble_eq_true rfl)⟩ ⟨h5, h6⟩ (fun E => kX_no E) (fun _ => ?_)
  refine k_istore C0 [(6, _), (5, _), (4, _), (3, _), (2, _), (1, _), (0, _)] dL_law_339 (by decide) rfl ?_
  exact k_tail C0 K0 1552 4 3 1 0 (Nat.le_of_ble_eq_true rfl) (Nat.le_of_ble_eq_true rfl) h5 h6 dL_law_341 dL_law_342 dL_law_345 dL_law_347 dL_law_352 dL_law_354 dL_law_357 dL_law_358 dL_law_359 dL_law_360 dL_law_362 dL_law_363 dL_law_364 dL_law_369 (by decide) rfl rfl rfl rfl h25 hb (k_lv [2, 3, 4, 5, 6] rfl (gE sg2 al2 mu2 R2 hal))
set_option maxRecDepth 100000 in
set_option maxHeartbeats 4000000 in
theorem lc_3 {p : Program} {l : Launch} {e : Env} {s : State} {m : MethodId} {below : List Frame} {meth : Method} {c0 : Code} {Q : State → Prop} {A : Nat → Prop} {D : va_G} {Y : Nat → Nat} {b L : Nat} {xs : Nat → Int32} {sg : Sg} {al : Nat → Nat → Nat} {o ao : Nat} {ar : Nat → Nat} {mu : Rm} {c q : Nat} (C0 : CallFix p m c0 cL_law 7 s #[Value.ref b] TT RL) (K0 : PK D Y A s) (X0 : SX s A b L xs) (hlt : l.stackTraces = false) (R : RI c sg mu) (hc : c < 590) (hq : q + 4 < L) (gE : ∀ (sg' : Sg) (al' : Nat → Nat → Nat) (mu' : Rm), RI (c + 1) sg' mu' → al' 0 0 = al 0 0 → kG p l e room_1 s m #[Value.ref b] below meth c0 Q A 7 (LWo D Y A sg' al' o ar mu' ao lT) (kkC (c + 1) sg') (kkS (c + 1) sg') 1552 [(4, .int (nI q)), (3, .ref ao), (2, .ref o), (1, .ref (al 0 0)), (0, .ref b)] []) : kG p l e room_1 s m #[Value.ref b] below meth c0 Q A 7 (LWo D Y A sg al o ar mu ao lT) (kkC c sg) (kkS c sg) 372 [(4, .int (nI q)), (3, .ref ao), (2, .ref o), (1, .ref (al 0 0)), (0, .ref b)] [] := by
  obtain ⟨k, r, b0, sg2, mu2, mc, ms, FR, LR, R2, hph, h25, hb, hW, hFR, hLR, hRf⟩ := st_setPrice (D := D) (Y := Y) (A := A) (al := al) (o := o) (ao := ao) (ar := ar) hlt R (by omega) (xs (q + 1)) (xs (q + 2)) (xs (q + 3))
  obtain ⟨⟨h1, h2⟩, ⟨h3, h4⟩, h5, h6⟩ := kk_up hph R2 hc
  refine k_aload_n C0 dL_law_372 3 rfl ?_
  refine k_arg C0 X0 (jz := 1) 1 4 0 dL_law_373 dL_law_374 dL_law_376 dL_law_377 dL_law_378 (by decide) rfl rfl (by omega) ?_
  refine k_arg C0 X0 (jz := 2) 2 4 0 dL_law_379 dL_law_380 dL_law_382 dL_law_383 dL_law_384 (by decide) rfl rfl (by omega) ?_
  refine k_arg C0 X0 (jz := 3) 3 4 0 dL_law_385 dL_law_386 dL_law_388 dL_law_389 dL_law_390 (by decide) rfl rfl (by omega) ?_
  refine k_aload_n C0 dL_law_391 1 rfl ?_
  refine k_callSW C0 K0 dL_law_392 hW gkL_106 hyL_setPrice rfl (by exact (Nat.le_of_ble_eq_true rfl)) ⟨(Nat.le_of_ble_eq_true rfl), (Nat.le_of_ble_eq_true rfl)⟩ ⟨h3, h4⟩ (fun E => kX_no E) (fun al2 => ?_)
  refine k_ex (fun H h => h.1) (fun hal => ?_)
  refine k_W (fun H h => h.2) ?_
  refine k_wid h1 h2 ?_
  refine k_istore C0 [(5, _), (4, _), (3, _), (2, _), (1, _), (0, _)] dL_law_395 (by decide) rfl ?_
  refine k_aload_n C0 dL_law_397 3 rfl ?_
  refine k_arg C0 X0 (jz := 1) 1 5 1 dL_law_398 dL_law_399 dL_law_401 dL_law_402 dL_law_403 (by decide) rfl rfl (by omega) ?_
  refine k_arg C0 X0 (jz := 2) 2 5 1 dL_law_404 dL_law_405 dL_law_407 dL_law_408 dL_law_409 (by decide) rfl rfl (by omega) ?_
  refine k_arg C0 X0 (jz := 3) 3 5 1 dL_law_410 dL_law_411 dL_law_413 dL_law_414 dL_law_415 (by decide) rfl rfl (by omega) ?_
  refine k_callV C0 K0 dL_law_416 (hRf al2 _) gkL_109 hyX6_setPrice (lw_recR K0) rfl (by exact (Nat.le_of_ble_eq_true rfl)) ⟨Nat.le_trans (Nat.succ_le_succ hFR) (Nat.le_of_ble_eq_true rfl), Nat.le_trans (Nat.add_le_add_left hLR _) (Nat.le_of_ble_eq_true rfl)⟩ ⟨h5, h6⟩ (fun E => kX_no E) (fun _ => ?_)
  refine k_istore C0 [(6, _), (5, _), (4, _), (3, _), (2, _), (1, _), (0, _)] dL_law_419 (by decide) rfl ?_
  exact k_tail C0 K0 1552 4 3 1 0 (Nat.le_of_ble_eq_true rfl) (Nat.le_of_ble_eq_true rfl) h5 h6 dL_law_421 dL_law_422 dL_law_425 dL_law_427 dL_law_432 dL_law_434 dL_law_437 dL_law_438 dL_law_439 dL_law_440 dL_law_442 dL_law_443 dL_law_444 dL_law_449 (by decide) rfl rfl rfl rfl h25 hb (k_lv [2, 3, 4, 5, 6] rfl (gE sg2 al2 mu2 R2 hal))
set_option maxRecDepth 100000 in
set_option maxHeartbeats 4000000 in
theorem lc_4 {p : Program} {l : Launch} {e : Env} {s : State} {m : MethodId} {below : List Frame} {meth : Method} {c0 : Code} {Q : State → Prop} {A : Nat → Prop} {D : va_G} {Y : Nat → Nat} {b L : Nat} {xs : Nat → Int32} {sg : Sg} {al : Nat → Nat → Nat} {o ao : Nat} {ar : Nat → Nat} {mu : Rm} {c q : Nat} (C0 : CallFix p m c0 cL_law 7 s #[Value.ref b] TT RL) (K0 : PK D Y A s) (X0 : SX s A b L xs) (hlt : l.stackTraces = false) (R : RI c sg mu) (hc : c < 590) (hq : q + 4 < L) (gE : ∀ (sg' : Sg) (al' : Nat → Nat → Nat) (mu' : Rm), RI (c + 1) sg' mu' → al' 0 0 = al 0 0 → kG p l e room_1 s m #[Value.ref b] below meth c0 Q A 7 (LWo D Y A sg' al' o ar mu' ao lT) (kkC (c + 1) sg') (kkS (c + 1) sg') 1552 [(4, .int (nI q)), (3, .ref ao), (2, .ref o), (1, .ref (al 0 0)), (0, .ref b)] []) : kG p l e room_1 s m #[Value.ref b] below meth c0 Q A 7 (LWo D Y A sg al o ar mu ao lT) (kkC c sg) (kkS c sg) 452 [(4, .int (nI q)), (3, .ref ao), (2, .ref o), (1, .ref (al 0 0)), (0, .ref b)] [] := by
  obtain ⟨k, r, b0, sg2, mu2, mc, ms, FR, LR, R2, hph, h25, hb, hW, hFR, hLR, hRf⟩ := st_buy (D := D) (Y := Y) (A := A) (al := al) (o := o) (ao := ao) (ar := ar) hlt R (by omega) (xs (q + 1)) (xs (q + 2))
  obtain ⟨⟨h1, h2⟩, ⟨h3, h4⟩, h5, h6⟩ := kk_up hph R2 hc
  refine k_aload_n C0 dL_law_452 3 rfl ?_
  refine k_arg C0 X0 (jz := 1) 1 4 0 dL_law_453 dL_law_454 dL_law_456 dL_law_457 dL_law_458 (by decide) rfl rfl (by omega) ?_
  refine k_arg C0 X0 (jz := 2) 2 4 0 dL_law_459 dL_law_460 dL_law_462 dL_law_463 dL_law_464 (by decide) rfl rfl (by omega) ?_
  refine k_aload_n C0 dL_law_465 1 rfl ?_
  refine k_callSW C0 K0 dL_law_466 hW gkL_110 hyL_buy rfl (by exact (Nat.le_of_ble_eq_true rfl)) ⟨(Nat.le_of_ble_eq_true rfl), (Nat.le_of_ble_eq_true rfl)⟩ ⟨h3, h4⟩ (fun E => kX_no E) (fun al2 => ?_)
  refine k_ex (fun H h => h.1) (fun hal => ?_)
  refine k_W (fun H h => h.2) ?_
  refine k_wid h1 h2 ?_
  refine k_istore C0 [(5, _), (4, _), (3, _), (2, _), (1, _), (0, _)] dL_law_469 (by decide) rfl ?_
  refine k_aload_n C0 dL_law_471 3 rfl ?_
  refine k_arg C0 X0 (jz := 1) 1 5 1 dL_law_472 dL_law_473 dL_law_475 dL_law_476 dL_law_477 (by decide) rfl rfl (by omega) ?_
  refine k_arg C0 X0 (jz := 2) 2 5 1 dL_law_478 dL_law_479 dL_law_481 dL_law_482 dL_law_483 (by decide) rfl rfl (by omega) ?_
  refine k_callV C0 K0 dL_law_484 (hRf al2 _) gkL_112 hyX6_buy (lw_recR K0) rfl (by exact (Nat.le_of_ble_eq_true rfl)) ⟨Nat.le_trans (Nat.succ_le_succ hFR) (Nat.le_of_ble_eq_true rfl), Nat.le_trans (Nat.add_le_add_left hLR _) (Nat.le_of_ble_eq_true rfl)⟩ ⟨h5, h6⟩ (fun E => kX_no E) (fun _ => ?_)
  refine k_istore C0 [(6, _), (5, _), (4, _), (3, _), (2, _), (1, _), (0, _)] dL_law_487 (by decide) rfl ?_
  exact k_tail C0 K0 1552 4 3 1 0 (Nat.le_of_ble_eq_true rfl) (Nat.le_of_ble_eq_true rfl) h5 h6 dL_law_489 dL_law_490 dL_law_493 dL_law_495 dL_law_500 dL_law_502 dL_law_505 dL_law_506 dL_law_507 dL_law_508 dL_law_510 dL_law_511 dL_law_512 dL_law_517 (by decide) rfl rfl rfl rfl h25 hb (k_lv [2, 3, 4, 5, 6] rfl (gE sg2 al2 mu2 R2 hal))
set_option maxRecDepth 100000 in
set_option maxHeartbeats 4000000 in
theorem lc_5 {p : Program} {l : Launch} {e : Env} {s : State} {m : MethodId} {below : List Frame} {meth : Method} {c0 : Code} {Q : State → Prop} {A : Nat → Prop} {D : va_G} {Y : Nat → Nat} {b L : Nat} {xs : Nat → Int32} {sg : Sg} {al : Nat → Nat → Nat} {o ao : Nat} {ar : Nat → Nat} {mu : Rm} {c q : Nat} (C0 : CallFix p m c0 cL_law 7 s #[Value.ref b] TT RL) (K0 : PK D Y A s) (X0 : SX s A b L xs) (hlt : l.stackTraces = false) (R : RI c sg mu) (hc : c < 590) (hq : q + 4 < L) (gE : ∀ (sg' : Sg) (al' : Nat → Nat → Nat) (mu' : Rm), RI (c + 1) sg' mu' → al' 0 0 = al 0 0 → kG p l e room_1 s m #[Value.ref b] below meth c0 Q A 7 (LWo D Y A sg' al' o ar mu' ao lT) (kkC (c + 1) sg') (kkS (c + 1) sg') 1552 [(4, .int (nI q)), (3, .ref ao), (2, .ref o), (1, .ref (al 0 0)), (0, .ref b)] []) : kG p l e room_1 s m #[Value.ref b] below meth c0 Q A 7 (LWo D Y A sg al o ar mu ao lT) (kkC c sg) (kkS c sg) 520 [(4, .int (nI q)), (3, .ref ao), (2, .ref o), (1, .ref (al 0 0)), (0, .ref b)] [] := by
  obtain ⟨k, r, b0, sg2, mu2, mc, ms, FR, LR, R2, hph, h25, hb, hW, hFR, hLR, hRf⟩ := st_refund (D := D) (Y := Y) (A := A) (al := al) (o := o) (ao := ao) (ar := ar) hlt R (by omega) (xs (q + 1))
  obtain ⟨⟨h1, h2⟩, ⟨h3, h4⟩, h5, h6⟩ := kk_up hph R2 hc
  refine k_aload_n C0 dL_law_520 3 rfl ?_
  refine k_arg C0 X0 (jz := 1) 1 4 0 dL_law_521 dL_law_522 dL_law_524 dL_law_525 dL_law_526 (by decide) rfl rfl (by omega) ?_
  refine k_aload_n C0 dL_law_527 1 rfl ?_
  refine k_callSW C0 K0 dL_law_528 hW gkL_113 hyL_refund rfl (by exact (Nat.le_of_ble_eq_true rfl)) ⟨(Nat.le_of_ble_eq_true rfl), (Nat.le_of_ble_eq_true rfl)⟩ ⟨h3, h4⟩ (fun E => kX_no E) (fun al2 => ?_)
  refine k_ex (fun H h => h.1) (fun hal => ?_)
  refine k_W (fun H h => h.2) ?_
  refine k_wid h1 h2 ?_
  refine k_istore C0 [(5, _), (4, _), (3, _), (2, _), (1, _), (0, _)] dL_law_531 (by decide) rfl ?_
  refine k_aload_n C0 dL_law_533 3 rfl ?_
  refine k_arg C0 X0 (jz := 1) 1 5 1 dL_law_534 dL_law_535 dL_law_537 dL_law_538 dL_law_539 (by decide) rfl rfl (by omega) ?_
  refine k_callV C0 K0 dL_law_540 (hRf al2 _) gkL_115 hyX6_refund (lw_recR K0) rfl (by exact (Nat.le_of_ble_eq_true rfl)) ⟨Nat.le_trans (Nat.succ_le_succ hFR) (Nat.le_of_ble_eq_true rfl), Nat.le_trans (Nat.add_le_add_left hLR _) (Nat.le_of_ble_eq_true rfl)⟩ ⟨h5, h6⟩ (fun E => kX_no E) (fun _ => ?_)
  refine k_istore C0 [(6, _), (5, _), (4, _), (3, _), (2, _), (1, _), (0, _)] dL_law_543 (by decide) rfl ?_
  exact k_tail C0 K0 1552 4 3 1 0 (Nat.le_of_ble_eq_true rfl) (Nat.le_of_ble_eq_true rfl) h5 h6 dL_law_545 dL_law_546 dL_law_549 dL_law_551 dL_law_556 dL_law_558 dL_law_561 dL_law_562 dL_law_563 dL_law_564 dL_law_566 dL_law_567 dL_law_568 dL_law_573 (by decide) rfl rfl rfl rfl h25 hb (k_lv [2, 3, 4, 5, 6] rfl (gE sg2 al2 mu2 R2 hal))
set_option maxRecDepth 100000 in
set_option maxHeartbeats 4000000 in
theorem lc_6 {p : Program} {l : Launch} {e : Env} {s : State} {m : MethodId} {below : List Frame} {meth : Method} {c0 : Code} {Q : State → Prop} {A : Nat → Prop} {D : va_G} {Y : Nat → Nat} {b L : Nat} {xs : Nat → Int32} {sg : Sg} {al : Nat → Nat → Nat} {o ao : Nat} {ar : Nat → Nat} {mu : Rm} {c q : Nat} (C0 : CallFix p m c0 cL_law 7 s #[Value.ref b] TT RL) (K0 : PK D Y A s) (X0 : SX s A b L xs) (hlt : l.stackTraces = false) (R : RI c sg mu) (hc : c < 590) (hq : q + 4 < L) (gE : ∀ (sg' : Sg) (al' : Nat → Nat → Nat) (mu' : Rm), RI (c + 1) sg' mu' → al' 0 0 = al 0 0 → kG p l e room_1 s m #[Value.ref b] below meth c0 Q A 7 (LWo D Y A sg' al' o ar mu' ao lT) (kkC (c + 1) sg') (kkS (c + 1) sg') 1552 [(4, .int (nI q)), (3, .ref ao), (2, .ref o), (1, .ref (al 0 0)), (0, .ref b)] []) : kG p l e room_1 s m #[Value.ref b] below meth c0 Q A 7 (LWo D Y A sg al o ar mu ao lT) (kkC c sg) (kkS c sg) 576 [(4, .int (nI q)), (3, .ref ao), (2, .ref o), (1, .ref (al 0 0)), (0, .ref b)] [] := by
  obtain ⟨⟨h1, h2⟩, ⟨h3, h4⟩, h5, h6⟩ := kk_up (mc := 0) (ms := 0) (ph_same (sg' := sg) rfl (by decide) (by decide)) (R.thr 0) hc
  refine k_aload_n C0 dL_law_576 3 rfl ?_
  refine k_callV (as := []) C0 K0 dL_law_577 (CT.cls0 fun B => cc_sales l D Y B sg al []) gkL_116 hyX5_sales (lw_recv K0) rfl (by exact (Nat.le_of_ble_eq_true rfl)) ⟨(Nat.le_of_ble_eq_true rfl), (Nat.le_of_ble_eq_true rfl)⟩ ⟨h3, h4⟩ (fun E => kX_no E) (fun al2 => ?_)
  refine k_ex (fun H h => h.1) (fun hal => ?_)
  refine k_W (fun H h => h.2) ?_
  refine k_wid h1 h2 ?_
  refine k_aload_n C0 dL_law_580 2 rfl ?_
  refine k_callV (as := []) C0 K0 dL_law_581 (CT.rf fun B => ct_sales l D Y B o ar mu) gkL_119 hyX6_sales (lw_recR K0) rfl (by exact (Nat.le_of_ble_eq_true rfl)) ⟨(Nat.le_of_ble_eq_true rfl), (Nat.le_of_ble_eq_true rfl)⟩ ⟨h5, h6⟩ (fun E => kX_no E) (fun _ => ?_)
  exact k_icmp_eq C0 1552 dL_law_584 (by decide) (fun _ => gE sg al2 _ (R.thr 0) hal) (fun z => absurd (by rw [R.n4]; exact congrArg nI (R.lw 2 (by decide)).1) z)
set_option maxRecDepth 100000 in
set_option maxHeartbeats 4000000 in
theorem lc_7 {p : Program} {l : Launch} {e : Env} {s : State} {m : MethodId} {below : List Frame} {meth : Method} {c0 : Code} {Q : State → Prop} {A : Nat → Prop} {D : va_G} {Y : Nat → Nat} {b L : Nat} {xs : Nat → Int32} {sg : Sg} {al : Nat → Nat → Nat} {o ao : Nat} {ar : Nat → Nat} {mu : Rm} {c q : Nat} (C0 : CallFix p m c0 cL_law 7 s #[Value.ref b] TT RL) (K0 : PK D Y A s) (X0 : SX s A b L xs) (hlt : l.stackTraces = false) (R : RI c sg mu) (hc : c < 590) (hq : q + 4 < L) (gE : ∀ (sg' : Sg) (al' : Nat → Nat → Nat) (mu' : Rm), RI (c + 1) sg' mu' → al' 0 0 = al 0 0 → kG p l e room_1 s m #[Value.ref b] below meth c0 Q A 7 (LWo D Y A sg' al' o ar mu' ao lT) (kkC (c + 1) sg') (kkS (c + 1) sg') 1552 [(4, .int (nI q)), (3, .ref ao), (2, .ref o), (1, .ref (al 0 0)), (0, .ref b)] []) : kG p l e room_1 s m #[Value.ref b] below meth c0 Q A 7 (LWo D Y A sg al o ar mu ao lT) (kkC c sg) (kkS c sg) 589 [(4, .int (nI q)), (3, .ref ao), (2, .ref o), (1, .ref (al 0 0)), (0, .ref b)] [] := by
  obtain ⟨k, r, b0, sg2, mu2, mc, ms, FR, LR, R2, hph, h25, hb, hW, hFR, hLR, hRf⟩ := st_paid (D := D) (Y := Y) (A := A) (al := al) (o := o) (ao := ao) (ar := ar) hlt R (by omega) (xs (q + 1))
  obtain ⟨⟨h1, h2⟩, ⟨h3, h4⟩, h5, h6⟩ := kk_up hph R2 hc
  refine k_aload_n C0 dL_law_589 3 rfl ?_
  refine k_arg C0 X0 (jz := 1) 1 4 0 dL_law_590 dL_law_591 dL_law_593 dL_law_594 dL_law_595 (by decide) rfl rfl (by omega) ?_
  refine k_aload_n C0 dL_law_596 1 rfl ?_
  refine k_callSW C0 K0 dL_law_597 hW gkL_120 hyL_paid rfl (by exact (Nat.le_of_ble_eq_true rfl)) ⟨(Nat.le_of_ble_eq_true rfl), (Nat.le_of_ble_eq_true rfl)⟩ ⟨h3, h4⟩ (fun E => kX_no E) (fun al2 => ?_)
  refine k_ex (fun H h => h.1) (fun hal => ?_)
  refine k_W (fun H h => h.2) ?_
  refine k_wid h1 h2 ?_
  refine k_istore C0 [(5, _), (4, _), (3, _), (2, _), (1, _), (0, _)] dL_law_600 (by decide) rfl ?_
  refine k_aload_n C0 dL_law_602 3 rfl ?_
  refine k_arg C0 X0 (jz := 1) 1 5 1 dL_law_603 dL_law_604 dL_law_606 dL_law_607 dL_law_608 (by decide) rfl rfl (by omega) ?_
  refine k_callV C0 K0 dL_law_609 (hRf al2 _) gkL_122 hyX6_paid (lw_recR K0) rfl (by exact (Nat.le_of_ble_eq_true rfl)) ⟨Nat.le_trans (Nat.succ_le_succ hFR) (Nat.le_of_ble_eq_true rfl), Nat.le_trans (Nat.add_le_add_left hLR _) (Nat.le_of_ble_eq_true rfl)⟩ ⟨h5, h6⟩ (fun E => kX_no E) (fun _ => ?_)
  refine k_istore C0 [(6, _), (5, _), (4, _), (3, _), (2, _), (1, _), (0, _)] dL_law_612 (by decide) rfl ?_
  exact k_tail C0 K0 1552 4 3 1 0 (Nat.le_of_ble_eq_true rfl) (Nat.le_of_ble_eq_true rfl) h5 h6 dL_law_614 dL_law_615 dL_law_618 dL_law_620 dL_law_625 dL_law_627 dL_law_630 dL_law_631 dL_law_632 dL_law_633 dL_law_635 dL_law_636 dL_law_637 dL_law_642 (by decide) rfl rfl rfl rfl h25 hb (k_lv [2, 3, 4, 5, 6] rfl (gE sg2 al2 mu2 R2 hal))
set_option maxRecDepth 100000 in
set_option maxHeartbeats 4000000 in
theorem lc_8 {p : Program} {l : Launch} {e : Env} {s : State} {m : MethodId} {below : List Frame} {meth : Method} {c0 : Code} {Q : State → Prop} {A : Nat → Prop} {D : va_G} {Y : Nat → Nat} {b L : Nat} {xs : Nat → Int32} {sg : Sg} {al : Nat → Nat → Nat} {o ao : Nat} {ar : Nat → Nat} {mu : Rm} {c q : Nat} (C0 : CallFix p m c0 cL_law 7 s #[Value.ref b] TT RL) (K0 : PK D Y A s) (X0 : SX s A b L xs) (hlt : l.stackTraces = false) (R : RI c sg mu) (hc : c < 590) (hq : q + 4 < L) (gE : ∀ (sg' : Sg) (al' : Nat → Nat → Nat) (mu' : Rm), RI (c + 1) sg' mu' → al' 0 0 = al 0 0 → kG p l e room_1 s m #[Value.ref b] below meth c0 Q A 7 (LWo D Y A sg' al' o ar mu' ao lT) (kkC (c + 1) sg') (kkS (c + 1) sg') 1552 [(4, .int (nI q)), (3, .ref ao), (2, .ref o), (1, .ref (al 0 0)), (0, .ref b)] []) : kG p l e room_1 s m #[Value.ref b] below meth c0 Q A 7 (LWo D Y A sg al o ar mu ao lT) (kkC c sg) (kkS c sg) 645 [(4, .int (nI q)), (3, .ref ao), (2, .ref o), (1, .ref (al 0 0)), (0, .ref b)] [] := by
  obtain ⟨k, r, b0, sg2, mu2, mc, ms, FR, LR, R2, hph, h25, hb, hW, hFR, hLR, hRf⟩ := st_tax (D := D) (Y := Y) (A := A) (al := al) (o := o) (ao := ao) (ar := ar) hlt R (by omega) (xs (q + 1))
  obtain ⟨⟨h1, h2⟩, ⟨h3, h4⟩, h5, h6⟩ := kk_up hph R2 hc
  refine k_aload_n C0 dL_law_645 3 rfl ?_
  refine k_arg C0 X0 (jz := 1) 1 4 0 dL_law_646 dL_law_647 dL_law_649 dL_law_650 dL_law_651 (by decide) rfl rfl (by omega) ?_
  refine k_aload_n C0 dL_law_652 1 rfl ?_
  refine k_callSW C0 K0 dL_law_653 hW gkL_123 hyL_tax rfl (by exact (Nat.le_of_ble_eq_true rfl)) ⟨(Nat.le_of_ble_eq_true rfl), (Nat.le_of_ble_eq_true rfl)⟩ ⟨h3, h4⟩ (fun E => kX_no E) (fun al2 => ?_)
  refine k_ex (fun H h => h.1) (fun hal => ?_)
  refine k_W (fun H h => h.2) ?_
  refine k_wid h1 h2 ?_
  refine k_istore C0 [(5, _), (4, _), (3, _), (2, _), (1, _), (0, _)] dL_law_656 (by decide) rfl ?_
  refine k_aload_n C0 dL_law_658 3 rfl ?_
  refine k_arg C0 X0 (jz := 1) 1 5 1 dL_law_659 dL_law_660 dL_law_662 dL_law_663 dL_law_664 (by decide) rfl rfl (by omega) ?_
  refine k_callV C0 K0 dL_law_665 (hRf al2 _) gkL_125 hyX6_tax (lw_recR K0) rfl (by exact (Nat.le_of_ble_eq_true rfl)) ⟨Nat.le_trans (Nat.succ_le_succ hFR) (Nat.le_of_ble_eq_true rfl), Nat.le_trans (Nat.add_le_add_left hLR _) (Nat.le_of_ble_eq_true rfl)⟩ ⟨h5, h6⟩ (fun E => kX_no E) (fun _ => ?_)
  refine k_istore C0 [(6, _), (5, _), (4, _), (3, _), (2, _), (1, _), (0, _)] dL_law_668 (by decide) rfl ?_
  exact k_tail C0 K0 1552 4 3 1 0 (Nat.le_of_ble_eq_true rfl) (Nat.le_of_ble_eq_true rfl) h5 h6 dL_law_670 dL_law_671 dL_law_674 dL_law_676 dL_law_681 dL_law_683 dL_law_686 dL_law_687 dL_law_688 dL_law_689 dL_law_691 dL_law_692 dL_law_693 dL_law_698 (by decide) rfl rfl rfl rfl h25 hb (k_lv [2, 3, 4, 5, 6] rfl (gE sg2 al2 mu2 R2 hal))
set_option maxRecDepth 100000 in
set_option maxHeartbeats 4000000 in
theorem lc_9 {p : Program} {l : Launch} {e : Env} {s : State} {m : MethodId} {below : List Frame} {meth : Method} {c0 : Code} {Q : State → Prop} {A : Nat → Prop} {D : va_G} {Y : Nat → Nat} {b L : Nat} {xs : Nat → Int32} {sg : Sg} {al : Nat → Nat → Nat} {o ao : Nat} {ar : Nat → Nat} {mu : Rm} {c q : Nat} (C0 : CallFix p m c0 cL_law 7 s #[Value.ref b] TT RL) (K0 : PK D Y A s) (X0 : SX s A b L xs) (hlt : l.stackTraces = false) (R : RI c sg mu) (hc : c < 590) (hq : q + 4 < L) (gE : ∀ (sg' : Sg) (al' : Nat → Nat → Nat) (mu' : Rm), RI (c + 1) sg' mu' → al' 0 0 = al 0 0 → kG p l e room_1 s m #[Value.ref b] below meth c0 Q A 7 (LWo D Y A sg' al' o ar mu' ao lT) (kkC (c + 1) sg') (kkS (c + 1) sg') 1552 [(4, .int (nI q)), (3, .ref ao), (2, .ref o), (1, .ref (al 0 0)), (0, .ref b)] []) : kG p l e room_1 s m #[Value.ref b] below meth c0 Q A 7 (LWo D Y A sg al o ar mu ao lT) (kkC c sg) (kkS c sg) 701 [(4, .int (nI q)), (3, .ref ao), (2, .ref o), (1, .ref (al 0 0)), (0, .ref b)] [] := by
  obtain ⟨k, r, b0, sg2, mu2, mc, ms, FR, LR, R2, hph, h25, hb, hW, hFR, hLR, hRf⟩ := st_shopShare (D := D) (Y := Y) (A := A) (al := al) (o := o) (ao := ao) (ar := ar) hlt R (by omega) (xs (q + 1))
  obtain ⟨⟨h1, h2⟩, ⟨h3, h4⟩, h5, h6⟩ := kk_up hph R2 hc
  refine k_aload_n C0 dL_law_701 3 rfl ?_
  refine k_arg C0 X0 (jz := 1) 1 4 0 dL_law_702 dL_law_703 dL_law_705 dL_law_706 dL_law_707 (by decide) rfl rfl (by omega) ?_
  refine k_aload_n C0 dL_law_708 1 rfl ?_
  refine k_callSW C0 K0 dL_law_709 hW gkL_126 hyL_shopShare rfl (by exact (Nat.le_of_ble_eq_true rfl)) ⟨(Nat.le_of_ble_eq_true rfl), (Nat.le_of_ble_eq_true rfl)⟩ ⟨h3, h4⟩ (fun E => kX_no E) (fun al2 => ?_)
  refine k_ex (fun H h => h.1) (fun hal => ?_)
  refine k_W (fun H h => h.2) ?_
  refine k_wid h1 h2 ?_
  refine k_istore C0 [(5, _), (4, _), (3, _), (2, _), (1, _), (0, _)] dL_law_712 (by decide) rfl ?_
  refine k_aload_n C0 dL_law_714 3 rfl ?_
  refine k_arg C0 X0 (jz := 1) 1 5 1 dL_law_715 dL_law_716 dL_law_718 dL_law_719 dL_law_720 (by decide) rfl rfl (by omega) ?_
  refine k_callV C0 K0 dL_law_721 (hRf al2 _) gkL_128 hyX6_shopShare (lw_recR K0) rfl (by exact (Nat.le_of_ble_eq_true rfl)) ⟨Nat.le_trans (Nat.succ_le_succ hFR) (Nat.le_of_ble_eq_true rfl), Nat.le_trans (Nat.add_le_add_left hLR _) (Nat.le_of_ble_eq_true rfl)⟩ ⟨h5, h6⟩ (fun E => kX_no E) (fun _ => ?_)
  refine k_istore C0 [(6, _), (5, _), (4, _), (3, _), (2, _), (1, _), (0, _)] dL_law_724 (by decide) rfl ?_
  exact k_tail C0 K0 1552 4 3 1 0 (Nat.le_of_ble_eq_true rfl) (Nat.le_of_ble_eq_true rfl) h5 h6 dL_law_726 dL_law_727 dL_law_730 dL_law_732 dL_law_737 dL_law_739 dL_law_742 dL_law_743 dL_law_744 dL_law_745 dL_law_747 dL_law_748 dL_law_749 dL_law_754 (by decide) rfl rfl rfl rfl h25 hb (k_lv [2, 3, 4, 5, 6] rfl (gE sg2 al2 mu2 R2 hal))
set_option maxRecDepth 100000 in
set_option maxHeartbeats 4000000 in
theorem lc_10 {p : Program} {l : Launch} {e : Env} {s : State} {m : MethodId} {below : List Frame} {meth : Method} {c0 : Code} {Q : State → Prop} {A : Nat → Prop} {D : va_G} {Y : Nat → Nat} {b L : Nat} {xs : Nat → Int32} {sg : Sg} {al : Nat → Nat → Nat} {o ao : Nat} {ar : Nat → Nat} {mu : Rm} {c q : Nat} (C0 : CallFix p m c0 cL_law 7 s #[Value.ref b] TT RL) (K0 : PK D Y A s) (X0 : SX s A b L xs) (hlt : l.stackTraces = false) (R : RI c sg mu) (hc : c < 590) (hq : q + 4 < L) (gE : ∀ (sg' : Sg) (al' : Nat → Nat → Nat) (mu' : Rm), RI (c + 1) sg' mu' → al' 0 0 = al 0 0 → kG p l e room_1 s m #[Value.ref b] below meth c0 Q A 7 (LWo D Y A sg' al' o ar mu' ao lT) (kkC (c + 1) sg') (kkS (c + 1) sg') 1552 [(4, .int (nI q)), (3, .ref ao), (2, .ref o), (1, .ref (al 0 0)), (0, .ref b)] []) : kG p l e room_1 s m #[Value.ref b] below meth c0 Q A 7 (LWo D Y A sg al o ar mu ao lT) (kkC c sg) (kkS c sg) 757 [(4, .int (nI q)), (3, .ref ao), (2, .ref o), (1, .ref (al 0 0)), (0, .ref b)] [] := by
  obtain ⟨k, r, b0, sg2, mu2, mc, ms, FR, LR, R2, hph, h25, hb, hW, hFR, hLR, hRf⟩ := st_makerPart (D := D) (Y := Y) (A := A) (al := al) (o := o) (ao := ao) (ar := ar) hlt R (by omega) (xs (q + 1))
  obtain ⟨⟨h1, h2⟩, ⟨h3, h4⟩, h5, h6⟩ := kk_up hph R2 hc
  refine k_aload_n C0 dL_law_757 3 rfl ?_
  refine k_arg C0 X0 (jz := 1) 1 4 0 dL_law_758 dL_law_759 dL_law_761 dL_law_762 dL_law_763 (by decide) rfl rfl (by omega) ?_
  refine k_aload_n C0 dL_law_764 1 rfl ?_
  refine k_callSW C0 K0 dL_law_765 hW gkL_129 hyL_makerPart rfl (by exact (Nat.le_of_ble_eq_true rfl)) ⟨(Nat.le_of_ble_eq_true rfl), (Nat.le_of_ble_eq_true rfl)⟩ ⟨h3, h4⟩ (fun E => kX_no E) (fun al2 => ?_)
  refine k_ex (fun H h => h.1) (fun hal => ?_)
  refine k_W (fun H h => h.2) ?_
  refine k_wid h1 h2 ?_
  refine k_istore C0 [(5, _), (4, _), (3, _), (2, _), (1, _), (0, _)] dL_law_768 (by decide) rfl ?_
  refine k_aload_n C0 dL_law_770 3 rfl ?_
  refine k_arg C0 X0 (jz := 1) 1 5 1 dL_law_771 dL_law_772 dL_law_774 dL_law_775 dL_law_776 (by decide) rfl rfl (by omega) ?_
  refine k_callV C0 K0 dL_law_777 (hRf al2 _) gkL_131 hyX6_makerPart (lw_recR K0) rfl (by exact (Nat.le_of_ble_eq_true rfl)) ⟨Nat.le_trans (Nat.succ_le_succ hFR) (Nat.le_of_ble_eq_true rfl), Nat.le_trans (Nat.add_le_add_left hLR _) (Nat.le_of_ble_eq_true rfl)⟩ ⟨h5, h6⟩ (fun E => kX_no E) (fun _ => ?_)
  refine k_istore C0 [(6, _), (5, _), (4, _), (3, _), (2, _), (1, _), (0, _)] dL_law_780 (by decide) rfl ?_
  exact k_tail C0 K0 1552 4 3 1 0 (Nat.le_of_ble_eq_true rfl) (Nat.le_of_ble_eq_true rfl) h5 h6 dL_law_782 dL_law_783 dL_law_786 dL_law_788 dL_law_793 dL_law_795 dL_law_798 dL_law_799 dL_law_800 dL_law_801 dL_law_803 dL_law_804 dL_law_805 dL_law_810 (by decide) rfl rfl rfl rfl h25 hb (k_lv [2, 3, 4, 5, 6] rfl (gE sg2 al2 mu2 R2 hal))
set_option maxRecDepth 100000 in
set_option maxHeartbeats 4000000 in
theorem lc_11 {p : Program} {l : Launch} {e : Env} {s : State} {m : MethodId} {below : List Frame} {meth : Method} {c0 : Code} {Q : State → Prop} {A : Nat → Prop} {D : va_G} {Y : Nat → Nat} {b L : Nat} {xs : Nat → Int32} {sg : Sg} {al : Nat → Nat → Nat} {o ao : Nat} {ar : Nat → Nat} {mu : Rm} {c q : Nat} (C0 : CallFix p m c0 cL_law 7 s #[Value.ref b] TT RL) (K0 : PK D Y A s) (X0 : SX s A b L xs) (hlt : l.stackTraces = false) (R : RI c sg mu) (hc : c < 590) (hq : q + 4 < L) (gE : ∀ (sg' : Sg) (al' : Nat → Nat → Nat) (mu' : Rm), RI (c + 1) sg' mu' → al' 0 0 = al 0 0 → kG p l e room_1 s m #[Value.ref b] below meth c0 Q A 7 (LWo D Y A sg' al' o ar mu' ao lT) (kkC (c + 1) sg') (kkS (c + 1) sg') 1552 [(4, .int (nI q)), (3, .ref ao), (2, .ref o), (1, .ref (al 0 0)), (0, .ref b)] []) : kG p l e room_1 s m #[Value.ref b] below meth c0 Q A 7 (LWo D Y A sg al o ar mu ao lT) (kkC c sg) (kkS c sg) 813 [(4, .int (nI q)), (3, .ref ao), (2, .ref o), (1, .ref (al 0 0)), (0, .ref b)] [] := by
  obtain ⟨k, r, b0, sg2, mu2, mc, ms, FR, LR, R2, hph, h25, hb, hW, hFR, hLR, hRf⟩ := st_subscribe (D := D) (Y := Y) (A := A) (al := al) (o := o) (ao := ao) (ar := ar) hlt R (by omega) (xs (q + 1)) (xs (q + 2)) (xs (q + 3)) (bz (xs (q + 4))) (bz_cs _)
  obtain ⟨⟨h1, h2⟩, ⟨h3, h4⟩, h5, h6⟩ := kk_up hph R2 hc
  refine k_aload_n C0 dL_law_813 3 rfl ?_
  refine k_arg C0 X0 (jz := 1) 1 4 0 dL_law_814 dL_law_815 dL_law_817 dL_law_818 dL_law_819 (by decide) rfl rfl (by omega) ?_
  refine k_arg C0 X0 (jz := 2) 2 4 0 dL_law_820 dL_law_821 dL_law_823 dL_law_824 dL_law_825 (by decide) rfl rfl (by omega) ?_
  refine k_arg C0 X0 (jz := 3) 3 4 0 dL_law_826 dL_law_827 dL_law_829 dL_law_830 dL_law_831 (by decide) rfl rfl (by omega) ?_
  refine k_arg C0 X0 (jz := 4) 4 4 0 dL_law_832 dL_law_833 dL_law_835 dL_law_836 dL_law_837 (by decide) rfl rfl (by omega) ?_
  refine k_bool C0 dL_law_838 dL_law_841 dL_law_842 dL_law_845 ?_
  refine k_aload_n C0 dL_law_846 1 rfl ?_
  refine k_callSW C0 K0 dL_law_847 hW gkL_132 hyL_subscribe rfl (by exact (Nat.le_of_ble_eq_true rfl)) ⟨(Nat.le_of_ble_eq_true rfl), (Nat.le_of_ble_eq_true rfl)⟩ ⟨h3, h4⟩ (fun E => kX_no E) (fun al2 => ?_)
  refine k_ex (fun H h => h.1) (fun hal => ?_)
  refine k_W (fun H h => h.2) ?_
  refine k_wid h1 h2 ?_
  refine k_istore C0 [(5, _), (4, _), (3, _), (2, _), (1, _), (0, _)] dL_law_850 (by decide) rfl ?_
  refine k_aload_n C0 dL_law_852 3 rfl ?_
  refine k_arg C0 X0 (jz := 1) 1 5 1 dL_law_853 dL_law_854 dL_law_856 dL_law_857 dL_law_858 (by decide) rfl rfl (by omega) ?_
  refine k_arg C0 X0 (jz := 2) 2 5 1 dL_law_859 dL_law_860 dL_law_862 dL_law_863 dL_law_864 (by decide) rfl rfl (by omega) ?_
  refine k_arg C0 X0 (jz := 3) 3 5 1 dL_law_865 dL_law_866 dL_law_868 dL_law_869 dL_law_870 (by decide) rfl rfl (by omega) ?_
  refine k_arg C0 X0 (jz := 4) 4 5 1 dL_law_871 dL_law_872 dL_law_874 dL_law_875 dL_law_876 (by decide) rfl rfl (by omega) ?_
  refine k_bool C0 dL_law_877 dL_law_880 dL_law_881 dL_law_884 ?_
  refine k_callV C0 K0 dL_law_885 (hRf al2 _) gkL_135 hyX6_subscribe (lw_recR K0) rfl (by exact (Nat.le_of_ble_eq_true rfl)) ⟨Nat.le_trans (Nat.succ_le_succ hFR) (Nat.le_of_ble_eq_true rfl), Nat.le_trans (Nat.add_le_add_left hLR _) (Nat.le_of_ble_eq_true rfl)⟩ ⟨h5, h6⟩ (fun E => kX_no E) (fun _ => ?_)
  refine k_istore C0 [(6, _), (5, _), (4, _), (3, _), (2, _), (1, _), (0, _)] dL_law_888 (by decide) rfl ?_
  exact k_tail C0 K0 1552 4 3 1 0 (Nat.le_of_ble_eq_true rfl) (Nat.le_of_ble_eq_true rfl) h5 h6 dL_law_890 dL_law_891 dL_law_894 dL_law_896 dL_law_901 dL_law_903 dL_law_906 dL_law_907 dL_law_908 dL_law_909 dL_law_911 dL_law_912 dL_law_913 dL_law_918 (by decide) rfl rfl rfl rfl h25 hb (k_lv [2, 3, 4, 5, 6] rfl (gE sg2 al2 mu2 R2 hal))
set_option maxRecDepth 100000 in
set_option maxHeartbeats 4000000 in
theorem lc_12 {p : Program} {l : Launch} {e : Env} {s : State} {m : MethodId} {below : List Frame} {meth : Method} {c0 : Code} {Q : State → Prop} {A : Nat → Prop} {D : va_G} {Y : Nat → Nat} {b L : Nat} {xs : Nat → Int32} {sg : Sg} {al : Nat → Nat → Nat} {o ao : Nat} {ar : Nat → Nat} {mu : Rm} {c q : Nat} (C0 : CallFix p m c0 cL_law 7 s #[Value.ref b] TT RL) (K0 : PK D Y A s) (X0 : SX s A b L xs) (hlt : l.stackTraces = false) (R : RI c sg mu) (hc : c < 590) (hq : q + 4 < L) (gE : ∀ (sg' : Sg) (al' : Nat → Nat → Nat) (mu' : Rm), RI (c + 1) sg' mu' → al' 0 0 = al 0 0 → kG p l e room_1 s m #[Value.ref b] below meth c0 Q A 7 (LWo D Y A sg' al' o ar mu' ao lT) (kkC (c + 1) sg') (kkS (c + 1) sg') 1552 [(4, .int (nI q)), (3, .ref ao), (2, .ref o), (1, .ref (al 0 0)), (0, .ref b)] []) : kG p l e room_1 s m #[Value.ref b] below meth c0 Q A 7 (LWo D Y A sg al o ar mu ao lT) (kkC c sg) (kkS c sg) 921 [(4, .int (nI q)), (3, .ref ao), (2, .ref o), (1, .ref (al 0 0)), (0, .ref b)] [] := by
  obtain ⟨k, r, b0, sg2, mu2, mc, ms, FR, LR, R2, hph, h25, hb, hW, hFR, hLR, hRf⟩ := st_move (D := D) (Y := Y) (A := A) (al := al) (o := o) (ao := ao) (ar := ar) hlt R (by omega) (xs (q + 1)) (xs (q + 2))
  obtain ⟨⟨h1, h2⟩, ⟨h3, h4⟩, h5, h6⟩ := kk_up hph R2 hc
  refine k_aload_n C0 dL_law_921 3 rfl ?_
  refine k_arg C0 X0 (jz := 1) 1 4 0 dL_law_922 dL_law_923 dL_law_925 dL_law_926 dL_law_927 (by decide) rfl rfl (by omega) ?_
  refine k_arg C0 X0 (jz := 2) 2 4 0 dL_law_928 dL_law_929 dL_law_931 dL_law_932 dL_law_933 (by decide) rfl rfl (by omega) ?_
  refine k_aload_n C0 dL_law_934 1 rfl ?_
  refine k_callSW C0 K0 dL_law_935 hW gkL_136 hyL_move rfl (by exact (Nat.le_of_ble_eq_true rfl)) ⟨(Nat.le_of_ble_eq_true rfl), (Nat.le_of_ble_eq_true rfl)⟩ ⟨h3, h4⟩ (fun E => kX_no E) (fun al2 => ?_)
  refine k_ex (fun H h => h.1) (fun hal => ?_)
  refine k_W (fun H h => h.2) ?_
  refine k_wid h1 h2 ?_
  refine k_istore C0 [(5, _), (4, _), (3, _), (2, _), (1, _), (0, _)] dL_law_938 (by decide) rfl ?_
  refine k_aload_n C0 dL_law_940 3 rfl ?_
  refine k_arg C0 X0 (jz := 1) 1 5 1 dL_law_941 dL_law_942 dL_law_944 dL_law_945 dL_law_946 (by decide) rfl rfl (by omega) ?_
  refine k_arg C0 X0 (jz := 2) 2 5 1 dL_law_947 dL_law_948 dL_law_950 dL_law_951 dL_law_952 (by decide) rfl rfl (by omega) ?_
  refine k_callV C0 K0 dL_law_953 (hRf al2 _) gkL_138 hyX6_move (lw_recR K0) rfl (by exact (Nat.le_of_ble_eq_true rfl)) ⟨Nat.le_trans (Nat.succ_le_succ hFR) (Nat.le_of_ble_eq_true rfl), Nat.le_trans (Nat.add_le_add_left hLR _) (Nat.le_of_ble_eq_true rfl)⟩ ⟨h5, h6⟩ (fun E => kX_no E) (fun _ => ?_)
  refine k_istore C0 [(6, _), (5, _), (4, _), (3, _), (2, _), (1, _), (0, _)] dL_law_956 (by decide) rfl ?_
  exact k_tail C0 K0 1552 4 3 1 0 (Nat.le_of_ble_eq_true rfl) (Nat.le_of_ble_eq_true rfl) h5 h6 dL_law_958 dL_law_959 dL_law_962 dL_law_964 dL_law_969 dL_law_971 dL_law_974 dL_law_975 dL_law_976 dL_law_977 dL_law_979 dL_law_980 dL_law_981 dL_law_986 (by decide) rfl rfl rfl rfl h25 hb (k_lv [2, 3, 4, 5, 6] rfl (gE sg2 al2 mu2 R2 hal))
set_option maxRecDepth 100000 in
set_option maxHeartbeats 4000000 in
theorem lc_13 {p : Program} {l : Launch} {e : Env} {s : State} {m : MethodId} {below : List Frame} {meth : Method} {c0 : Code} {Q : State → Prop} {A : Nat → Prop} {D : va_G} {Y : Nat → Nat} {b L : Nat} {xs : Nat → Int32} {sg : Sg} {al : Nat → Nat → Nat} {o ao : Nat} {ar : Nat → Nat} {mu : Rm} {c q : Nat} (C0 : CallFix p m c0 cL_law 7 s #[Value.ref b] TT RL) (K0 : PK D Y A s) (X0 : SX s A b L xs) (hlt : l.stackTraces = false) (R : RI c sg mu) (hc : c < 590) (hq : q + 4 < L) (gE : ∀ (sg' : Sg) (al' : Nat → Nat → Nat) (mu' : Rm), RI (c + 1) sg' mu' → al' 0 0 = al 0 0 → kG p l e room_1 s m #[Value.ref b] below meth c0 Q A 7 (LWo D Y A sg' al' o ar mu' ao lT) (kkC (c + 1) sg') (kkS (c + 1) sg') 1552 [(4, .int (nI q)), (3, .ref ao), (2, .ref o), (1, .ref (al 0 0)), (0, .ref b)] []) : kG p l e room_1 s m #[Value.ref b] below meth c0 Q A 7 (LWo D Y A sg al o ar mu ao lT) (kkC c sg) (kkS c sg) 989 [(4, .int (nI q)), (3, .ref ao), (2, .ref o), (1, .ref (al 0 0)), (0, .ref b)] [] := by
  obtain ⟨k, sg2, mu2, mc, ms, FR, LR, R2, hph, h25, hW, hFR, hLR, hRf⟩ := st_setFailing (D := D) (Y := Y) (A := A) (al := al) (o := o) (ao := ao) (ar := ar) hlt R (by omega) (xs (q + 1)) (bz (xs (q + 2))) (bz_cs _)
  obtain ⟨⟨h1, h2⟩, ⟨h3, h4⟩, h5, h6⟩ := kk_up hph R2 hc
  refine k_aload_n C0 dL_law_989 3 rfl ?_
  refine k_arg C0 X0 (jz := 1) 1 4 0 dL_law_990 dL_law_991 dL_law_993 dL_law_994 dL_law_995 (by decide) rfl rfl (by omega) ?_
  refine k_arg C0 X0 (jz := 2) 2 4 0 dL_law_996 dL_law_997 dL_law_999 dL_law_1000 dL_law_1001 (by decide) rfl rfl (by omega) ?_
  refine k_bool C0 dL_law_1002 dL_law_1005 dL_law_1006 dL_law_1009 ?_
  refine k_callSW C0 K0 dL_law_1010 hW gkL_139 hyL_setFailing rfl (by exact (Nat.le_of_ble_eq_true rfl)) ⟨(Nat.le_of_ble_eq_true rfl), (Nat.le_of_ble_eq_true rfl)⟩ ⟨h3, h4⟩ (fun E => kX_no E) (fun al2 => ?_)
  refine k_ex (fun H h => h.1) (fun hal => ?_)
  refine k_W (fun H h => h.2) ?_
  refine k_wid h1 h2 ?_
  refine k_istore C0 [(5, _), (4, _), (3, _), (2, _), (1, _), (0, _)] dL_law_1013 (by decide) rfl ?_
  refine k_aload_n C0 dL_law_1015 3 rfl ?_
  refine k_arg C0 X0 (jz := 1) 1 5 1 dL_law_1016 dL_law_1017 dL_law_1019 dL_law_1020 dL_law_1021 (by decide) rfl rfl (by omega) ?_
  refine k_arg C0 X0 (jz := 2) 2 5 1 dL_law_1022 dL_law_1023 dL_law_1025 dL_law_1026 dL_law_1027 (by decide) rfl rfl (by omega) ?_
  refine k_bool C0 dL_law_1028 dL_law_1031 dL_law_1032 dL_law_1035 ?_
  refine k_callV C0 K0 dL_law_1036 (hRf al2 _) gkL_142 hyX6_setFailing (lw_recR K0) rfl (by exact (Nat.le_of_ble_eq_true rfl)) ⟨Nat.le_trans (Nat.succ_le_succ hFR) (Nat.le_of_ble_eq_true rfl), Nat.le_trans (Nat.add_le_add_left hLR _) (Nat.le_of_ble_eq_true rfl)⟩ ⟨h5, h6⟩ (fun E => kX_no E) (fun _ => ?_)
  refine k_thrown C0 K0 1050 1552 3 0 (Nat.le_of_ble_eq_true rfl) (Nat.le_of_ble_eq_true rfl) h5 h6 dL_law_1039 dL_law_1040 dL_law_1043 dL_law_1045 (by decide) rfl rfl h25 ?_
  exact k_goto C0 1552 dL_law_1050 (by decide) (k_lv [1, 2, 3, 4, 5] rfl (gE sg2 al2 mu2 R2 hal))
set_option maxRecDepth 100000 in
set_option maxHeartbeats 4000000 in
theorem lc_14 {p : Program} {l : Launch} {e : Env} {s : State} {m : MethodId} {below : List Frame} {meth : Method} {c0 : Code} {Q : State → Prop} {A : Nat → Prop} {D : va_G} {Y : Nat → Nat} {b L : Nat} {xs : Nat → Int32} {sg : Sg} {al : Nat → Nat → Nat} {o ao : Nat} {ar : Nat → Nat} {mu : Rm} {c q : Nat} (C0 : CallFix p m c0 cL_law 7 s #[Value.ref b] TT RL) (K0 : PK D Y A s) (X0 : SX s A b L xs) (hlt : l.stackTraces = false) (R : RI c sg mu) (hc : c < 590) (hq : q + 4 < L) (gE : ∀ (sg' : Sg) (al' : Nat → Nat → Nat) (mu' : Rm), RI (c + 1) sg' mu' → al' 0 0 = al 0 0 → kG p l e room_1 s m #[Value.ref b] below meth c0 Q A 7 (LWo D Y A sg' al' o ar mu' ao lT) (kkC (c + 1) sg') (kkS (c + 1) sg') 1552 [(4, .int (nI q)), (3, .ref ao), (2, .ref o), (1, .ref (al 0 0)), (0, .ref b)] []) : kG p l e room_1 s m #[Value.ref b] below meth c0 Q A 7 (LWo D Y A sg al o ar mu ao lT) (kkC c sg) (kkS c sg) 1053 [(4, .int (nI q)), (3, .ref ao), (2, .ref o), (1, .ref (al 0 0)), (0, .ref b)] [] := by
  obtain ⟨k, r, b0, sg2, mu2, mc, ms, FR, LR, R2, hph, h25, hb, hW, hFR, hLR, hRf⟩ := st_cancel (D := D) (Y := Y) (A := A) (al := al) (o := o) (ao := ao) (ar := ar) hlt R (by omega) (xs (q + 1))
  obtain ⟨⟨h1, h2⟩, ⟨h3, h4⟩, h5, h6⟩ := kk_up hph R2 hc
  refine k_aload_n C0 dL_law_1053 3 rfl ?_
  refine k_arg C0 X0 (jz := 1) 1 4 0 dL_law_1054 dL_law_1055 dL_law_1057 dL_law_1058 dL_law_1059 (by decide) rfl rfl (by omega) ?_
  refine k_aload_n C0 dL_law_1060 1 rfl ?_
  refine k_callSW C0 K0 dL_law_1061 hW gkL_143 hyL_cancel rfl (by exact (Nat.le_of_ble_eq_true rfl)) ⟨(Nat.le_of_ble_eq_true rfl), (Nat.le_of_ble_eq_true rfl)⟩ ⟨h3, h4⟩ (fun E => kX_no E) (fun al2 => ?_)
  refine k_ex (fun H h => h.1) (fun hal => ?_)
  refine k_W (fun H h => h.2) ?_
  refine k_wid h1 h2 ?_
  refine k_istore C0 [(5, _), (4, _), (3, _), (2, _), (1, _), (0, _)] dL_law_1064 (by decide) rfl ?_
  refine k_aload_n C0 dL_law_1066 3 rfl ?_
  refine k_arg C0 X0 (jz := 1) 1 5 1 dL_law_1067 dL_law_1068 dL_law_1070 dL_law_1071 dL_law_1072 (by decide) rfl rfl (by omega) ?_
  refine k_callV C0 K0 dL_law_1073 (hRf al2 _) gkL_145 hyX6_cancel (lw_recR K0) rfl (by exact (Nat.le_of_ble_eq_true rfl)) ⟨Nat.le_trans (Nat.succ_le_succ hFR) (Nat.le_of_ble_eq_true rfl), Nat.le_trans (Nat.add_le_add_left hLR _) (Nat.le_of_ble_eq_true rfl)⟩ ⟨h5, h6⟩ (fun E => kX_no E) (fun _ => ?_)
  refine k_istore C0 [(6, _), (5, _), (4, _), (3, _), (2, _), (1, _), (0, _)] dL_law_1076 (by decide) rfl ?_
  exact k_tail C0 K0 1552 4 3 1 0 (Nat.le_of_ble_eq_true rfl) (Nat.le_of_ble_eq_true rfl) h5 h6 dL_law_1078 dL_law_1079 dL_law_1082 dL_law_1084 dL_law_1089 dL_law_1091 dL_law_1094 dL_law_1095 dL_law_1096 dL_law_1097 dL_law_1099 dL_law_1100 dL_law_1101 dL_law_1106 (by decide) rfl rfl rfl rfl h25 hb (k_lv [2, 3, 4, 5, 6] rfl (gE sg2 al2 mu2 R2 hal))
set_option maxRecDepth 100000 in
set_option maxHeartbeats 4000000 in
theorem lc_15 {p : Program} {l : Launch} {e : Env} {s : State} {m : MethodId} {below : List Frame} {meth : Method} {c0 : Code} {Q : State → Prop} {A : Nat → Prop} {D : va_G} {Y : Nat → Nat} {b L : Nat} {xs : Nat → Int32} {sg : Sg} {al : Nat → Nat → Nat} {o ao : Nat} {ar : Nat → Nat} {mu : Rm} {c q : Nat} (C0 : CallFix p m c0 cL_law 7 s #[Value.ref b] TT RL) (K0 : PK D Y A s) (X0 : SX s A b L xs) (hlt : l.stackTraces = false) (R : RI c sg mu) (hc : c < 590) (hq : q + 4 < L) (gE : ∀ (sg' : Sg) (al' : Nat → Nat → Nat) (mu' : Rm), RI (c + 1) sg' mu' → al' 0 0 = al 0 0 → kG p l e room_1 s m #[Value.ref b] below meth c0 Q A 7 (LWo D Y A sg' al' o ar mu' ao lT) (kkC (c + 1) sg') (kkS (c + 1) sg') 1552 [(4, .int (nI q)), (3, .ref ao), (2, .ref o), (1, .ref (al 0 0)), (0, .ref b)] []) : kG p l e room_1 s m #[Value.ref b] below meth c0 Q A 7 (LWo D Y A sg al o ar mu ao lT) (kkC c sg) (kkS c sg) 1109 [(4, .int (nI q)), (3, .ref ao), (2, .ref o), (1, .ref (al 0 0)), (0, .ref b)] [] := by
  obtain ⟨k, r, b0, sg2, mu2, mc, ms, FR, LR, R2, hph, h25, hb, hW, hFR, hLR, hRf⟩ := st_payments (D := D) (Y := Y) (A := A) (al := al) (o := o) (ao := ao) (ar := ar) hlt R (by omega) (xs (q + 1))
  obtain ⟨⟨h1, h2⟩, ⟨h3, h4⟩, h5, h6⟩ := kk_up hph R2 hc
  refine k_aload_n C0 dL_law_1109 3 rfl ?_
  refine k_arg C0 X0 (jz := 1) 1 4 0 dL_law_1110 dL_law_1111 dL_law_1113 dL_law_1114 dL_law_1115 (by decide) rfl rfl (by omega) ?_
  refine k_aload_n C0 dL_law_1116 1 rfl ?_
  refine k_callSW C0 K0 dL_law_1117 hW gkL_146 hyL_payments rfl (by exact (Nat.le_of_ble_eq_true rfl)) ⟨(Nat.le_of_ble_eq_true rfl), (Nat.le_of_ble_eq_true rfl)⟩ ⟨h3, h4⟩ (fun E => kX_no E) (fun al2 => ?_)
  refine k_ex (fun H h => h.1) (fun hal => ?_)
  refine k_W (fun H h => h.2) ?_
  refine k_wid h1 h2 ?_
  refine k_istore C0 [(5, _), (4, _), (3, _), (2, _), (1, _), (0, _)] dL_law_1120 (by decide) rfl ?_
  refine k_aload_n C0 dL_law_1122 3 rfl ?_
  refine k_arg C0 X0 (jz := 1) 1 5 1 dL_law_1123 dL_law_1124 dL_law_1126 dL_law_1127 dL_law_1128 (by decide) rfl rfl (by omega) ?_
  refine k_callV C0 K0 dL_law_1129 (hRf al2 _) gkL_148 hyX6_payments (lw_recR K0) rfl (by exact (Nat.le_of_ble_eq_true rfl)) ⟨Nat.le_trans (Nat.succ_le_succ hFR) (Nat.le_of_ble_eq_true rfl), Nat.le_trans (Nat.add_le_add_left hLR _) (Nat.le_of_ble_eq_true rfl)⟩ ⟨h5, h6⟩ (fun E => kX_no E) (fun _ => ?_)
  refine k_istore C0 [(6, _), (5, _), (4, _), (3, _), (2, _), (1, _), (0, _)] dL_law_1132 (by decide) rfl ?_
  exact k_tail C0 K0 1552 4 3 1 0 (Nat.le_of_ble_eq_true rfl) (Nat.le_of_ble_eq_true rfl) h5 h6 dL_law_1134 dL_law_1135 dL_law_1138 dL_law_1140 dL_law_1145 dL_law_1147 dL_law_1150 dL_law_1151 dL_law_1152 dL_law_1153 dL_law_1155 dL_law_1156 dL_law_1157 dL_law_1162 (by decide) rfl rfl rfl rfl h25 hb (k_lv [2, 3, 4, 5, 6] rfl (gE sg2 al2 mu2 R2 hal))
set_option maxRecDepth 100000 in
set_option maxHeartbeats 4000000 in
theorem lc_16 {p : Program} {l : Launch} {e : Env} {s : State} {m : MethodId} {below : List Frame} {meth : Method} {c0 : Code} {Q : State → Prop} {A : Nat → Prop} {D : va_G} {Y : Nat → Nat} {b L : Nat} {xs : Nat → Int32} {sg : Sg} {al : Nat → Nat → Nat} {o ao : Nat} {ar : Nat → Nat} {mu : Rm} {c q : Nat} (C0 : CallFix p m c0 cL_law 7 s #[Value.ref b] TT RL) (K0 : PK D Y A s) (X0 : SX s A b L xs) (hlt : l.stackTraces = false) (R : RI c sg mu) (hc : c < 590) (hq : q + 4 < L) (gE : ∀ (sg' : Sg) (al' : Nat → Nat → Nat) (mu' : Rm), RI (c + 1) sg' mu' → al' 0 0 = al 0 0 → kG p l e room_1 s m #[Value.ref b] below meth c0 Q A 7 (LWo D Y A sg' al' o ar mu' ao lT) (kkC (c + 1) sg') (kkS (c + 1) sg') 1552 [(4, .int (nI q)), (3, .ref ao), (2, .ref o), (1, .ref (al 0 0)), (0, .ref b)] []) : kG p l e room_1 s m #[Value.ref b] below meth c0 Q A 7 (LWo D Y A sg al o ar mu ao lT) (kkC c sg) (kkS c sg) 1165 [(4, .int (nI q)), (3, .ref ao), (2, .ref o), (1, .ref (al 0 0)), (0, .ref b)] [] := by
  obtain ⟨k, r, b0, sg2, mu2, mc, ms, FR, LR, R2, hph, h25, hb, hW, hFR, hLR, hRf⟩ := st_next (D := D) (Y := Y) (A := A) (al := al) (o := o) (ao := ao) (ar := ar) hlt R (by omega) (xs (q + 1))
  obtain ⟨⟨h1, h2⟩, ⟨h3, h4⟩, h5, h6⟩ := kk_up hph R2 hc
  refine k_aload_n C0 dL_law_1165 3 rfl ?_
  refine k_arg C0 X0 (jz := 1) 1 4 0 dL_law_1166 dL_law_1167 dL_law_1169 dL_law_1170 dL_law_1171 (by decide) rfl rfl (by omega) ?_
  refine k_aload_n C0 dL_law_1172 1 rfl ?_
  refine k_callSW C0 K0 dL_law_1173 hW gkL_149 hyL_next rfl (by exact (Nat.le_of_ble_eq_true rfl)) ⟨(Nat.le_of_ble_eq_true rfl), (Nat.le_of_ble_eq_true rfl)⟩ ⟨h3, h4⟩ (fun E => kX_no E) (fun al2 => ?_)
  refine k_ex (fun H h => h.1) (fun hal => ?_)
  refine k_W (fun H h => h.2) ?_
  refine k_wid h1 h2 ?_
  refine k_istore C0 [(5, _), (4, _), (3, _), (2, _), (1, _), (0, _)] dL_law_1176 (by decide) rfl ?_
  refine k_aload_n C0 dL_law_1178 3 rfl ?_
  refine k_arg C0 X0 (jz := 1) 1 5 1 dL_law_1179 dL_law_1180 dL_law_1182 dL_law_1183 dL_law_1184 (by decide) rfl rfl (by omega) ?_
  refine k_callV C0 K0 dL_law_1185 (hRf al2 _) gkL_151 hyX6_next (lw_recR K0) rfl (by exact (Nat.le_of_ble_eq_true rfl)) ⟨Nat.le_trans (Nat.succ_le_succ hFR) (Nat.le_of_ble_eq_true rfl), Nat.le_trans (Nat.add_le_add_left hLR _) (Nat.le_of_ble_eq_true rfl)⟩ ⟨h5, h6⟩ (fun E => kX_no E) (fun _ => ?_)
  refine k_istore C0 [(6, _), (5, _), (4, _), (3, _), (2, _), (1, _), (0, _)] dL_law_1188 (by decide) rfl ?_
  exact k_tail C0 K0 1552 4 3 1 0 (Nat.le_of_ble_eq_true rfl) (Nat.le_of_ble_eq_true rfl) h5 h6 dL_law_1190 dL_law_1191 dL_law_1194 dL_law_1196 dL_law_1201 dL_law_1203 dL_law_1206 dL_law_1207 dL_law_1208 dL_law_1209 dL_law_1211 dL_law_1212 dL_law_1213 dL_law_1218 (by decide) rfl rfl rfl rfl h25 hb (k_lv [2, 3, 4, 5, 6] rfl (gE sg2 al2 mu2 R2 hal))
set_option maxRecDepth 100000 in
set_option maxHeartbeats 4000000 in
theorem lc_17 {p : Program} {l : Launch} {e : Env} {s : State} {m : MethodId} {below : List Frame} {meth : Method} {c0 : Code} {Q : State → Prop} {A : Nat → Prop} {D : va_G} {Y : Nat → Nat} {b L : Nat} {xs : Nat → Int32} {sg : Sg} {al : Nat → Nat → Nat} {o ao : Nat} {ar : Nat → Nat} {mu : Rm} {c q : Nat} (C0 : CallFix p m c0 cL_law 7 s #[Value.ref b] TT RL) (K0 : PK D Y A s) (X0 : SX s A b L xs) (hlt : l.stackTraces = false) (R : RI c sg mu) (hc : c < 590) (hq : q + 4 < L) (gE : ∀ (sg' : Sg) (al' : Nat → Nat → Nat) (mu' : Rm), RI (c + 1) sg' mu' → al' 0 0 = al 0 0 → kG p l e room_1 s m #[Value.ref b] below meth c0 Q A 7 (LWo D Y A sg' al' o ar mu' ao lT) (kkC (c + 1) sg') (kkS (c + 1) sg') 1552 [(4, .int (nI q)), (3, .ref ao), (2, .ref o), (1, .ref (al 0 0)), (0, .ref b)] []) : kG p l e room_1 s m #[Value.ref b] below meth c0 Q A 7 (LWo D Y A sg al o ar mu ao lT) (kkC c sg) (kkS c sg) 1221 [(4, .int (nI q)), (3, .ref ao), (2, .ref o), (1, .ref (al 0 0)), (0, .ref b)] [] := by
  obtain ⟨k, r, b0, sg2, mu2, mc, ms, FR, LR, R2, hph, h25, hb, hW, hFR, hLR, hRf⟩ := st_payout (D := D) (Y := Y) (A := A) (al := al) (o := o) (ao := ao) (ar := ar) hlt R (by omega) (xs (q + 1)) (xs (q + 2))
  obtain ⟨⟨h1, h2⟩, ⟨h3, h4⟩, h5, h6⟩ := kk_up hph R2 hc
  refine k_aload_n C0 dL_law_1221 3 rfl ?_
  refine k_arg C0 X0 (jz := 1) 1 4 0 dL_law_1222 dL_law_1223 dL_law_1225 dL_law_1226 dL_law_1227 (by decide) rfl rfl (by omega) ?_
  refine k_arg C0 X0 (jz := 2) 2 4 0 dL_law_1228 dL_law_1229 dL_law_1231 dL_law_1232 dL_law_1233 (by decide) rfl rfl (by omega) ?_
  refine k_aload_n C0 dL_law_1234 1 rfl ?_
  refine k_callSW C0 K0 dL_law_1235 hW gkL_152 hyL_payout rfl (by exact (Nat.le_of_ble_eq_true rfl)) ⟨(Nat.le_of_ble_eq_true rfl), (Nat.le_of_ble_eq_true rfl)⟩ ⟨h3, h4⟩ (fun E => kX_no E) (fun al2 => ?_)
  refine k_ex (fun H h => h.1) (fun hal => ?_)
  refine k_W (fun H h => h.2) ?_
  refine k_wid h1 h2 ?_
  refine k_istore C0 [(5, _), (4, _), (3, _), (2, _), (1, _), (0, _)] dL_law_1238 (by decide) rfl ?_
  refine k_aload_n C0 dL_law_1240 3 rfl ?_
  refine k_arg C0 X0 (jz := 1) 1 5 1 dL_law_1241 dL_law_1242 dL_law_1244 dL_law_1245 dL_law_1246 (by decide) rfl rfl (by omega) ?_
  refine k_arg C0 X0 (jz := 2) 2 5 1 dL_law_1247 dL_law_1248 dL_law_1250 dL_law_1251 dL_law_1252 (by decide) rfl rfl (by omega) ?_
  refine k_callV C0 K0 dL_law_1253 (hRf al2 _) gkL_154 hyX6_payout (lw_recR K0) rfl (by exact (Nat.le_of_ble_eq_true rfl)) ⟨Nat.le_trans (Nat.succ_le_succ hFR) (Nat.le_of_ble_eq_true rfl), Nat.le_trans (Nat.add_le_add_left hLR _) (Nat.le_of_ble_eq_true rfl)⟩ ⟨h5, h6⟩ (fun E => kX_no E) (fun _ => ?_)
  refine k_istore C0 [(6, _), (5, _), (4, _), (3, _), (2, _), (1, _), (0, _)] dL_law_1256 (by decide) rfl ?_
  exact k_tail C0 K0 1552 4 3 1 0 (Nat.le_of_ble_eq_true rfl) (Nat.le_of_ble_eq_true rfl) h5 h6 dL_law_1258 dL_law_1259 dL_law_1262 dL_law_1264 dL_law_1269 dL_law_1271 dL_law_1274 dL_law_1275 dL_law_1276 dL_law_1277 dL_law_1279 dL_law_1280 dL_law_1281 dL_law_1286 (by decide) rfl rfl rfl rfl h25 hb (k_lv [2, 3, 4, 5, 6] rfl (gE sg2 al2 mu2 R2 hal))
set_option maxRecDepth 100000 in
set_option maxHeartbeats 4000000 in
theorem lc_18 {p : Program} {l : Launch} {e : Env} {s : State} {m : MethodId} {below : List Frame} {meth : Method} {c0 : Code} {Q : State → Prop} {A : Nat → Prop} {D : va_G} {Y : Nat → Nat} {b L : Nat} {xs : Nat → Int32} {sg : Sg} {al : Nat → Nat → Nat} {o ao : Nat} {ar : Nat → Nat} {mu : Rm} {c q : Nat} (C0 : CallFix p m c0 cL_law 7 s #[Value.ref b] TT RL) (K0 : PK D Y A s) (X0 : SX s A b L xs) (hlt : l.stackTraces = false) (R : RI c sg mu) (hc : c < 590) (hq : q + 4 < L) (gE : ∀ (sg' : Sg) (al' : Nat → Nat → Nat) (mu' : Rm), RI (c + 1) sg' mu' → al' 0 0 = al 0 0 → kG p l e room_1 s m #[Value.ref b] below meth c0 Q A 7 (LWo D Y A sg' al' o ar mu' ao lT) (kkC (c + 1) sg') (kkS (c + 1) sg') 1552 [(4, .int (nI q)), (3, .ref ao), (2, .ref o), (1, .ref (al 0 0)), (0, .ref b)] []) : kG p l e room_1 s m #[Value.ref b] below meth c0 Q A 7 (LWo D Y A sg al o ar mu ao lT) (kkC c sg) (kkS c sg) 1289 [(4, .int (nI q)), (3, .ref ao), (2, .ref o), (1, .ref (al 0 0)), (0, .ref b)] [] := by
  obtain ⟨k, r, b0, sg2, mu2, mc, ms, FR, LR, R2, hph, h25, hb, hW, hFR, hLR, hRf⟩ := st_carried (D := D) (Y := Y) (A := A) (al := al) (o := o) (ao := ao) (ar := ar) hlt R (by omega) (xs (q + 1))
  obtain ⟨⟨h1, h2⟩, ⟨h3, h4⟩, h5, h6⟩ := kk_up hph R2 hc
  refine k_aload_n C0 dL_law_1289 3 rfl ?_
  refine k_arg C0 X0 (jz := 1) 1 4 0 dL_law_1290 dL_law_1291 dL_law_1293 dL_law_1294 dL_law_1295 (by decide) rfl rfl (by omega) ?_
  refine k_aload_n C0 dL_law_1296 1 rfl ?_
  refine k_callSW C0 K0 dL_law_1297 hW gkL_155 hyL_carried rfl (by exact (Nat.le_of_ble_eq_true rfl)) ⟨(Nat.le_of_ble_eq_true rfl), (Nat.le_of_ble_eq_true rfl)⟩ ⟨h3, h4⟩ (fun E => kX_no E) (fun al2 => ?_)
  refine k_ex (fun H h => h.1) (fun hal => ?_)
  refine k_W (fun H h => h.2) ?_
  refine k_wid h1 h2 ?_
  refine k_istore C0 [(5, _), (4, _), (3, _), (2, _), (1, _), (0, _)] dL_law_1300 (by decide) rfl ?_
  refine k_aload_n C0 dL_law_1302 3 rfl ?_
  refine k_arg C0 X0 (jz := 1) 1 5 1 dL_law_1303 dL_law_1304 dL_law_1306 dL_law_1307 dL_law_1308 (by decide) rfl rfl (by omega) ?_
  refine k_callV C0 K0 dL_law_1309 (hRf al2 _) gkL_157 hyX6_carried (lw_recR K0) rfl (by exact (Nat.le_of_ble_eq_true rfl)) ⟨Nat.le_trans (Nat.succ_le_succ hFR) (Nat.le_of_ble_eq_true rfl), Nat.le_trans (Nat.add_le_add_left hLR _) (Nat.le_of_ble_eq_true rfl)⟩ ⟨h5, h6⟩ (fun E => kX_no E) (fun _ => ?_)
  refine k_istore C0 [(6, _), (5, _), (4, _), (3, _), (2, _), (1, _), (0, _)] dL_law_1312 (by decide) rfl ?_
  exact k_tail C0 K0 1552 4 3 1 0 (Nat.le_of_ble_eq_true rfl) (Nat.le_of_ble_eq_true rfl) h5 h6 dL_law_1314 dL_law_1315 dL_law_1318 dL_law_1320 dL_law_1325 dL_law_1327 dL_law_1330 dL_law_1331 dL_law_1332 dL_law_1333 dL_law_1335 dL_law_1336 dL_law_1337 dL_law_1342 (by decide) rfl rfl rfl rfl h25 hb (k_lv [2, 3, 4, 5, 6] rfl (gE sg2 al2 mu2 R2 hal))
set_option maxRecDepth 100000 in
set_option maxHeartbeats 4000000 in
theorem lc_19 {p : Program} {l : Launch} {e : Env} {s : State} {m : MethodId} {below : List Frame} {meth : Method} {c0 : Code} {Q : State → Prop} {A : Nat → Prop} {D : va_G} {Y : Nat → Nat} {b L : Nat} {xs : Nat → Int32} {sg : Sg} {al : Nat → Nat → Nat} {o ao : Nat} {ar : Nat → Nat} {mu : Rm} {c q : Nat} (C0 : CallFix p m c0 cL_law 7 s #[Value.ref b] TT RL) (K0 : PK D Y A s) (X0 : SX s A b L xs) (hlt : l.stackTraces = false) (R : RI c sg mu) (hc : c < 590) (hq : q + 4 < L) (gE : ∀ (sg' : Sg) (al' : Nat → Nat → Nat) (mu' : Rm), RI (c + 1) sg' mu' → al' 0 0 = al 0 0 → kG p l e room_1 s m #[Value.ref b] below meth c0 Q A 7 (LWo D Y A sg' al' o ar mu' ao lT) (kkC (c + 1) sg') (kkS (c + 1) sg') 1552 [(4, .int (nI q)), (3, .ref ao), (2, .ref o), (1, .ref (al 0 0)), (0, .ref b)] []) : kG p l e room_1 s m #[Value.ref b] below meth c0 Q A 7 (LWo D Y A sg al o ar mu ao lT) (kkC c sg) (kkS c sg) 1345 [(4, .int (nI q)), (3, .ref ao), (2, .ref o), (1, .ref (al 0 0)), (0, .ref b)] [] := by
  obtain ⟨k, r, b0, sg2, mu2, mc, ms, FR, LR, R2, hph, h25, hb, hW, hFR, hLR, hRf⟩ := st_balance (D := D) (Y := Y) (A := A) (al := al) (o := o) (ao := ao) (ar := ar) hlt R (by omega) (xs (q + 1))
  obtain ⟨⟨h1, h2⟩, ⟨h3, h4⟩, h5, h6⟩ := kk_up hph R2 hc
  refine k_aload_n C0 dL_law_1345 3 rfl ?_
  refine k_arg C0 X0 (jz := 1) 1 4 0 dL_law_1346 dL_law_1347 dL_law_1349 dL_law_1350 dL_law_1351 (by decide) rfl rfl (by omega) ?_
  refine k_aload_n C0 dL_law_1352 1 rfl ?_
  refine k_callSW C0 K0 dL_law_1353 hW gkL_158 hyL_balance rfl (by exact (Nat.le_of_ble_eq_true rfl)) ⟨(Nat.le_of_ble_eq_true rfl), (Nat.le_of_ble_eq_true rfl)⟩ ⟨h3, h4⟩ (fun E => kX_no E) (fun al2 => ?_)
  refine k_ex (fun H h => h.1) (fun hal => ?_)
  refine k_W (fun H h => h.2) ?_
  refine k_wid h1 h2 ?_
  refine k_istore C0 [(5, _), (4, _), (3, _), (2, _), (1, _), (0, _)] dL_law_1356 (by decide) rfl ?_
  refine k_aload_n C0 dL_law_1358 3 rfl ?_
  refine k_arg C0 X0 (jz := 1) 1 5 1 dL_law_1359 dL_law_1360 dL_law_1362 dL_law_1363 dL_law_1364 (by decide) rfl rfl (by omega) ?_
  refine k_callV C0 K0 dL_law_1365 (hRf al2 _) gkL_160 hyX6_balance (lw_recR K0) rfl (by exact (Nat.le_of_ble_eq_true rfl)) ⟨Nat.le_trans (Nat.succ_le_succ hFR) (Nat.le_of_ble_eq_true rfl), Nat.le_trans (Nat.add_le_add_left hLR _) (Nat.le_of_ble_eq_true rfl)⟩ ⟨h5, h6⟩ (fun E => kX_no E) (fun _ => ?_)
  refine k_istore C0 [(6, _), (5, _), (4, _), (3, _), (2, _), (1, _), (0, _)] dL_law_1368 (by decide) rfl ?_
  exact k_tail C0 K0 1552 4 3 1 0 (Nat.le_of_ble_eq_true rfl) (Nat.le_of_ble_eq_true rfl) h5 h6 dL_law_1370 dL_law_1371 dL_law_1374 dL_law_1376 dL_law_1381 dL_law_1383 dL_law_1386 dL_law_1387 dL_law_1388 dL_law_1389 dL_law_1391 dL_law_1392 dL_law_1393 dL_law_1398 (by decide) rfl rfl rfl rfl h25 hb (k_lv [2, 3, 4, 5, 6] rfl (gE sg2 al2 mu2 R2 hal))
set_option maxRecDepth 100000 in
set_option maxHeartbeats 4000000 in
theorem lc_20 {p : Program} {l : Launch} {e : Env} {s : State} {m : MethodId} {below : List Frame} {meth : Method} {c0 : Code} {Q : State → Prop} {A : Nat → Prop} {D : va_G} {Y : Nat → Nat} {b L : Nat} {xs : Nat → Int32} {sg : Sg} {al : Nat → Nat → Nat} {o ao : Nat} {ar : Nat → Nat} {mu : Rm} {c q : Nat} (C0 : CallFix p m c0 cL_law 7 s #[Value.ref b] TT RL) (K0 : PK D Y A s) (X0 : SX s A b L xs) (hlt : l.stackTraces = false) (R : RI c sg mu) (hc : c < 590) (hq : q + 4 < L) (gE : ∀ (sg' : Sg) (al' : Nat → Nat → Nat) (mu' : Rm), RI (c + 1) sg' mu' → al' 0 0 = al 0 0 → kG p l e room_1 s m #[Value.ref b] below meth c0 Q A 7 (LWo D Y A sg' al' o ar mu' ao lT) (kkC (c + 1) sg') (kkS (c + 1) sg') 1552 [(4, .int (nI q)), (3, .ref ao), (2, .ref o), (1, .ref (al 0 0)), (0, .ref b)] []) : kG p l e room_1 s m #[Value.ref b] below meth c0 Q A 7 (LWo D Y A sg al o ar mu ao lT) (kkC c sg) (kkS c sg) 1401 [(4, .int (nI q)), (3, .ref ao), (2, .ref o), (1, .ref (al 0 0)), (0, .ref b)] [] := by
  obtain ⟨k, r, b0, sg2, mu2, mc, ms, FR, LR, R2, hph, h25, hb, hW, hFR, hLR, hRf⟩ := st_heldTax (D := D) (Y := Y) (A := A) (al := al) (o := o) (ao := ao) (ar := ar) hlt R (by omega) (xs (q + 1))
  obtain ⟨⟨h1, h2⟩, ⟨h3, h4⟩, h5, h6⟩ := kk_up hph R2 hc
  refine k_aload_n C0 dL_law_1401 3 rfl ?_
  refine k_arg C0 X0 (jz := 1) 1 4 0 dL_law_1402 dL_law_1403 dL_law_1405 dL_law_1406 dL_law_1407 (by decide) rfl rfl (by omega) ?_
  refine k_aload_n C0 dL_law_1408 1 rfl ?_
  refine k_callSW C0 K0 dL_law_1409 hW gkL_161 hyL_heldTax rfl (by exact (Nat.le_of_ble_eq_true rfl)) ⟨(Nat.le_of_ble_eq_true rfl), (Nat.le_of_ble_eq_true rfl)⟩ ⟨h3, h4⟩ (fun E => kX_no E) (fun al2 => ?_)
  refine k_ex (fun H h => h.1) (fun hal => ?_)
  refine k_W (fun H h => h.2) ?_
  refine k_wid h1 h2 ?_
  refine k_istore C0 [(5, _), (4, _), (3, _), (2, _), (1, _), (0, _)] dL_law_1412 (by decide) rfl ?_
  refine k_aload_n C0 dL_law_1414 3 rfl ?_
  refine k_arg C0 X0 (jz := 1) 1 5 1 dL_law_1415 dL_law_1416 dL_law_1418 dL_law_1419 dL_law_1420 (by decide) rfl rfl (by omega) ?_
  refine k_callV C0 K0 dL_law_1421 (hRf al2 _) gkL_163 hyX6_heldTax (lw_recR K0) rfl (by exact (Nat.le_of_ble_eq_true rfl)) ⟨Nat.le_trans (Nat.succ_le_succ hFR) (Nat.le_of_ble_eq_true rfl), Nat.le_trans (Nat.add_le_add_left hLR _) (Nat.le_of_ble_eq_true rfl)⟩ ⟨h5, h6⟩ (fun E => kX_no E) (fun _ => ?_)
  refine k_istore C0 [(6, _), (5, _), (4, _), (3, _), (2, _), (1, _), (0, _)] dL_law_1424 (by decide) rfl ?_
  exact k_tail C0 K0 1552 4 3 1 0 (Nat.le_of_ble_eq_true rfl) (Nat.le_of_ble_eq_true rfl) h5 h6 dL_law_1426 dL_law_1427 dL_law_1430 dL_law_1432 dL_law_1437 dL_law_1439 dL_law_1442 dL_law_1443 dL_law_1444 dL_law_1445 dL_law_1447 dL_law_1448 dL_law_1449 dL_law_1454 (by decide) rfl rfl rfl rfl h25 hb (k_lv [2, 3, 4, 5, 6] rfl (gE sg2 al2 mu2 R2 hal))
set_option maxRecDepth 100000 in
set_option maxHeartbeats 4000000 in
theorem lc_21 {p : Program} {l : Launch} {e : Env} {s : State} {m : MethodId} {below : List Frame} {meth : Method} {c0 : Code} {Q : State → Prop} {A : Nat → Prop} {D : va_G} {Y : Nat → Nat} {b L : Nat} {xs : Nat → Int32} {sg : Sg} {al : Nat → Nat → Nat} {o ao : Nat} {ar : Nat → Nat} {mu : Rm} {c q : Nat} (C0 : CallFix p m c0 cL_law 7 s #[Value.ref b] TT RL) (K0 : PK D Y A s) (X0 : SX s A b L xs) (hlt : l.stackTraces = false) (R : RI c sg mu) (hc : c < 590) (hq : q + 4 < L) (gE : ∀ (sg' : Sg) (al' : Nat → Nat → Nat) (mu' : Rm), RI (c + 1) sg' mu' → al' 0 0 = al 0 0 → kG p l e room_1 s m #[Value.ref b] below meth c0 Q A 7 (LWo D Y A sg' al' o ar mu' ao lT) (kkC (c + 1) sg') (kkS (c + 1) sg') 1552 [(4, .int (nI q)), (3, .ref ao), (2, .ref o), (1, .ref (al 0 0)), (0, .ref b)] []) : kG p l e room_1 s m #[Value.ref b] below meth c0 Q A 7 (LWo D Y A sg al o ar mu ao lT) (kkC c sg) (kkS c sg) 1457 [(4, .int (nI q)), (3, .ref ao), (2, .ref o), (1, .ref (al 0 0)), (0, .ref b)] [] := by
  obtain ⟨⟨h1, h2⟩, ⟨h3, h4⟩, h5, h6⟩ := kk_up (mc := 0) (ms := 0) (ph_same (sg' := sg) rfl (by decide) (by decide)) (R.thr 0) hc
  refine k_aload_n C0 dL_law_1457 3 rfl ?_
  refine k_callV (as := []) C0 K0 dL_law_1458 (CT.cls0 fun B => cc_shop l D Y B sg al []) gkL_164 hyX5_shop (lw_recv K0) rfl (by exact (Nat.le_of_ble_eq_true rfl)) ⟨(Nat.le_of_ble_eq_true rfl), (Nat.le_of_ble_eq_true rfl)⟩ ⟨h3, h4⟩ (fun E => kX_no E) (fun al2 => ?_)
  refine k_ex (fun H h => h.1) (fun hal => ?_)
  refine k_W (fun H h => h.2) ?_
  refine k_wid h1 h2 ?_
  refine k_aload_n C0 dL_law_1461 2 rfl ?_
  refine k_callV (as := []) C0 K0 dL_law_1462 (CT.rf fun B => ct_shop l D Y B o ar mu) gkL_167 hyX6_shop (lw_recR K0) rfl (by exact (Nat.le_of_ble_eq_true rfl)) ⟨(Nat.le_of_ble_eq_true rfl), (Nat.le_of_ble_eq_true rfl)⟩ ⟨h5, h6⟩ (fun E => kX_no E) (fun _ => ?_)
  exact k_icmp_eq C0 1552 dL_law_1465 (by decide) (fun _ => gE sg al2 _ (R.thr 0) hal) (fun z => absurd R.1.1.2.1.1.symm z)
set_option maxRecDepth 100000 in
set_option maxHeartbeats 4000000 in
theorem lc_22 {p : Program} {l : Launch} {e : Env} {s : State} {m : MethodId} {below : List Frame} {meth : Method} {c0 : Code} {Q : State → Prop} {A : Nat → Prop} {D : va_G} {Y : Nat → Nat} {b L : Nat} {xs : Nat → Int32} {sg : Sg} {al : Nat → Nat → Nat} {o ao : Nat} {ar : Nat → Nat} {mu : Rm} {c q : Nat} (C0 : CallFix p m c0 cL_law 7 s #[Value.ref b] TT RL) (K0 : PK D Y A s) (X0 : SX s A b L xs) (hlt : l.stackTraces = false) (R : RI c sg mu) (hc : c < 590) (hq : q + 4 < L) (gE : ∀ (sg' : Sg) (al' : Nat → Nat → Nat) (mu' : Rm), RI (c + 1) sg' mu' → al' 0 0 = al 0 0 → kG p l e room_1 s m #[Value.ref b] below meth c0 Q A 7 (LWo D Y A sg' al' o ar mu' ao lT) (kkC (c + 1) sg') (kkS (c + 1) sg') 1552 [(4, .int (nI q)), (3, .ref ao), (2, .ref o), (1, .ref (al 0 0)), (0, .ref b)] []) : kG p l e room_1 s m #[Value.ref b] below meth c0 Q A 7 (LWo D Y A sg al o ar mu ao lT) (kkC c sg) (kkS c sg) 1470 [(4, .int (nI q)), (3, .ref ao), (2, .ref o), (1, .ref (al 0 0)), (0, .ref b)] [] := by
  obtain ⟨⟨h1, h2⟩, ⟨h3, h4⟩, h5, h6⟩ := kk_up (mc := 0) (ms := 0) (ph_same (sg' := sg) rfl (by decide) (by decide)) (R.thr 0) hc
  refine k_aload_n C0 dL_law_1470 3 rfl ?_
  refine k_callV (as := []) C0 K0 dL_law_1471 (CT.cls0 fun B => cc_takings l D Y B sg al []) gkL_168 hyX5_takings (lw_recv K0) rfl (by exact (Nat.le_of_ble_eq_true rfl)) ⟨(Nat.le_of_ble_eq_true rfl), (Nat.le_of_ble_eq_true rfl)⟩ ⟨h3, h4⟩ (fun E => kX_no E) (fun al2 => ?_)
  refine k_ex (fun H h => h.1) (fun hal => ?_)
  refine k_W (fun H h => h.2) ?_
  refine k_wid h1 h2 ?_
  refine k_aload_n C0 dL_law_1474 2 rfl ?_
  refine k_callV (as := []) C0 K0 dL_law_1475 (CT.rf fun B => ct_takings l D Y B o ar mu) gkL_171 hyX6_takings (lw_recR K0) rfl (by exact (Nat.le_of_ble_eq_true rfl)) ⟨(Nat.le_of_ble_eq_true rfl), (Nat.le_of_ble_eq_true rfl)⟩ ⟨h5, h6⟩ (fun E => kX_no E) (fun _ => ?_)
  exact k_icmp_eq C0 1552 dL_law_1478 (by decide) (fun _ => gE sg al2 _ (R.thr 0) hal) (fun z => absurd R.1.1.2.1.2.symm z)
set_option maxRecDepth 100000 in
set_option maxHeartbeats 4000000 in
theorem lc_23 {p : Program} {l : Launch} {e : Env} {s : State} {m : MethodId} {below : List Frame} {meth : Method} {c0 : Code} {Q : State → Prop} {A : Nat → Prop} {D : va_G} {Y : Nat → Nat} {b L : Nat} {xs : Nat → Int32} {sg : Sg} {al : Nat → Nat → Nat} {o ao : Nat} {ar : Nat → Nat} {mu : Rm} {c q : Nat} (C0 : CallFix p m c0 cL_law 7 s #[Value.ref b] TT RL) (K0 : PK D Y A s) (X0 : SX s A b L xs) (hlt : l.stackTraces = false) (R : RI c sg mu) (hc : c < 590) (hq : q + 4 < L) (gE : ∀ (sg' : Sg) (al' : Nat → Nat → Nat) (mu' : Rm), RI (c + 1) sg' mu' → al' 0 0 = al 0 0 → kG p l e room_1 s m #[Value.ref b] below meth c0 Q A 7 (LWo D Y A sg' al' o ar mu' ao lT) (kkC (c + 1) sg') (kkS (c + 1) sg') 1552 [(4, .int (nI q)), (3, .ref ao), (2, .ref o), (1, .ref (al 0 0)), (0, .ref b)] []) : kG p l e room_1 s m #[Value.ref b] below meth c0 Q A 7 (LWo D Y A sg al o ar mu ao lT) (kkC c sg) (kkS c sg) 1483 [(4, .int (nI q)), (3, .ref ao), (2, .ref o), (1, .ref (al 0 0)), (0, .ref b)] [] := by
  obtain ⟨k, r, b0, sg2, mu2, mc, ms, FR, LR, R2, hph, h25, hb, hW, hFR, hLR, hRf⟩ := st_pass (D := D) (Y := Y) (A := A) (al := al) (o := o) (ao := ao) (ar := ar) hlt R (by omega) (xs (q + 1))
  obtain ⟨⟨h1, h2⟩, ⟨h3, h4⟩, h5, h6⟩ := kk_up hph R2 hc
  refine k_aload_n C0 dL_law_1483 3 rfl ?_
  refine k_arg C0 X0 (jz := 1) 1 4 0 dL_law_1484 dL_law_1485 dL_law_1487 dL_law_1488 dL_law_1489 (by decide) rfl rfl (by omega) ?_
  refine k_aload_n C0 dL_law_1490 1 rfl ?_
  refine k_callSW C0 K0 dL_law_1491 hW gkL_172 hyL_pass rfl (by exact (Nat.le_of_ble_eq_true rfl)) ⟨(Nat.le_of_ble_eq_true rfl), (Nat.le_of_ble_eq_true rfl)⟩ ⟨h3, h4⟩ (fun E => kX_no E) (fun al2 => ?_)
  refine k_ex (fun H h => h.1) (fun hal => ?_)
  refine k_W (fun H h => h.2) ?_
  refine k_wid h1 h2 ?_
  refine k_istore C0 [(5, _), (4, _), (3, _), (2, _), (1, _), (0, _)] dL_law_1494 (by decide) rfl ?_
  refine k_aload_n C0 dL_law_1496 3 rfl ?_
  refine k_arg C0 X0 (jz := 1) 1 5 1 dL_law_1497 dL_law_1498 dL_law_1500 dL_law_1501 dL_law_1502 (by decide) rfl rfl (by omega) ?_
  refine k_callV C0 K0 dL_law_1503 (hRf al2 _) gkL_174 hyX6_pass (lw_recR K0) rfl (by exact (Nat.le_of_ble_eq_true rfl)) ⟨Nat.le_trans (Nat.succ_le_succ hFR) (Nat.le_of_ble_eq_true rfl), Nat.le_trans (Nat.add_le_add_left hLR _) (Nat.le_of_ble_eq_true rfl)⟩ ⟨h5, h6⟩ (fun E => kX_no E) (fun _ => ?_)
  refine k_istore C0 [(6, _), (5, _), (4, _), (3, _), (2, _), (1, _), (0, _)] dL_law_1506 (by decide) rfl ?_
  exact k_tail C0 K0 1552 4 3 1 0 (Nat.le_of_ble_eq_true rfl) (Nat.le_of_ble_eq_true rfl) h5 h6 dL_law_1508 dL_law_1509 dL_law_1512 dL_law_1514 dL_law_1519 dL_law_1521 dL_law_1524 dL_law_1525 dL_law_1526 dL_law_1527 dL_law_1529 dL_law_1530 dL_law_1531 dL_law_1536 (by decide) rfl rfl rfl rfl h25 hb (k_lv [2, 3, 4, 5, 6] rfl (gE sg2 al2 mu2 R2 hal))
set_option maxRecDepth 100000 in
set_option maxHeartbeats 4000000 in
theorem lc_24 {p : Program} {l : Launch} {e : Env} {s : State} {m : MethodId} {below : List Frame} {meth : Method} {c0 : Code} {Q : State → Prop} {A : Nat → Prop} {D : va_G} {Y : Nat → Nat} {b L : Nat} {xs : Nat → Int32} {sg : Sg} {al : Nat → Nat → Nat} {o ao : Nat} {ar : Nat → Nat} {mu : Rm} {c q : Nat} (C0 : CallFix p m c0 cL_law 7 s #[Value.ref b] TT RL) (K0 : PK D Y A s) (X0 : SX s A b L xs) (hlt : l.stackTraces = false) (R : RI c sg mu) (hc : c < 590) (hq : q + 4 < L) (gE : ∀ (sg' : Sg) (al' : Nat → Nat → Nat) (mu' : Rm), RI (c + 1) sg' mu' → al' 0 0 = al 0 0 → kG p l e room_1 s m #[Value.ref b] below meth c0 Q A 7 (LWo D Y A sg' al' o ar mu' ao lT) (kkC (c + 1) sg') (kkS (c + 1) sg') 1552 [(4, .int (nI q)), (3, .ref ao), (2, .ref o), (1, .ref (al 0 0)), (0, .ref b)] []) : kG p l e room_1 s m #[Value.ref b] below meth c0 Q A 7 (LWo D Y A sg al o ar mu ao lT) (kkC c sg) (kkS c sg) 1539 [(4, .int (nI q)), (3, .ref ao), (2, .ref o), (1, .ref (al 0 0)), (0, .ref b)] [] := by
  obtain ⟨⟨h1, h2⟩, ⟨h3, h4⟩, h5, h6⟩ := kk_up (mc := 0) (ms := 0) (ph_same (sg' := sg) rfl (by decide) (by decide)) (R.thr 0) hc
  refine k_aload_n C0 dL_law_1539 3 rfl ?_
  refine k_callV (as := []) C0 K0 dL_law_1540 (CT.cls0 fun B => cc_day l D Y B sg al []) gkL_175 hyX5_day (lw_recv K0) rfl (by exact (Nat.le_of_ble_eq_true rfl)) ⟨(Nat.le_of_ble_eq_true rfl), (Nat.le_of_ble_eq_true rfl)⟩ ⟨h3, h4⟩ (fun E => kX_no E) (fun al2 => ?_)
  refine k_ex (fun H h => h.1) (fun hal => ?_)
  refine k_W (fun H h => h.2) ?_
  refine k_wid h1 h2 ?_
  refine k_aload_n C0 dL_law_1543 2 rfl ?_
  refine k_callV (as := []) C0 K0 dL_law_1544 (CT.rf fun B => ct_day l D Y B o ar mu) gkL_178 hyX6_day (lw_recR K0) rfl (by exact (Nat.le_of_ble_eq_true rfl)) ⟨(Nat.le_of_ble_eq_true rfl), (Nat.le_of_ble_eq_true rfl)⟩ ⟨h5, h6⟩ (fun E => kX_no E) (fun _ => ?_)
  exact k_icmp_eq C0 1552 dL_law_1547 (by decide) (fun _ => gE sg al2 _ (R.thr 0) hal) (fun z => absurd (by obtain ⟨d, -, d1, d2⟩ := R.dd; rw [d1, d2]) z)
