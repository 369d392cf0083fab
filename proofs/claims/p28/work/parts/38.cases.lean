/-! the law's cases -/
theorem ring_t (x y : Int32) : x + -1 * y = x - y := by rw [Int32.neg_mul, Int32.one_mul, ← Int32.sub_eq_add_neg]
theorem sub_row (sg : Sg) (j p : Nat) (g : Nat → Int32) : (c_add (n_sub sg j p g) 3).1 5 (sN sg 5) = g := by
  rw [c_add_1o _ _ _ (by decide)]
  exact sRow_at
theorem sub_next (sg : Sg) (j p : Nat) (h q : Int32) : (c_add (n_sub sg j p (gSub h (sg.1 0 0 5 + q))) 3).1 5 (sN sg 5) 6 = (c_add (n_sub sg j p (gSub h (sg.1 0 0 5 + q))) 3).1 0 0 5 + q := by
  rw [sub_row]
  rfl
theorem sub_pay (sg : Sg) (j p : Nat) (h q : Int32) : (c_add (n_sub sg j p (gSub h q)) 3).1 5 (sN sg 5) 5 = 0 := by
  rw [sub_row]
  rfl
theorem gkL_69 : GoodIn TT (va_wsS RL 69 yL_low (Cond.code yL_low cL_low 2 (some .int) :: TT)) := goodTS (tC 24 rfl rfl) (tC 25 rfl rfl) (tA 0 rfl rfl) (goodTT (tC 26 rfl rfl))
theorem hyL_low : yL_low.cls ≠ "java/lang/invoke/MethodHandle" ∧ yL_low.cls ≠ "java/lang/invoke/VarHandle" ∧ (parseMethodDescriptor yL_low.desc).map (fun d => d.parameters.length) = some 2 := by decide +kernel
theorem gkL_73 : GoodIn TT (wsV RL 73 yX5_addMaker.cls yX5_addMaker (Cond.code yX5_addMaker cX5_addMaker 2 (some .int) :: TT)) := goodTV (tA 186 rfl rfl) (tA 187 rfl rfl) (tA 188 rfl rfl) (tA 1 rfl rfl) (tA 189 rfl rfl)
theorem hyX5_addMaker : yX5_addMaker.cls ≠ "java/lang/invoke/MethodHandle" ∧ yX5_addMaker.cls ≠ "java/lang/invoke/VarHandle" ∧ (parseMethodDescriptor yX5_addMaker.desc).map (fun d => d.parameters.length) = some 1 := by decide +kernel
theorem gkL_77 : GoodIn TT (wsV RL 77 yX5_addProduct.cls yX5_addProduct (Cond.code yX5_addProduct cX5_addProduct 4 (some .int) :: TT)) := goodTV (tB 56 rfl rfl) (tB 57 rfl rfl) (tB 58 rfl rfl) (tA 1 rfl rfl) (tB 59 rfl rfl)
theorem hyX5_addProduct : yX5_addProduct.cls ≠ "java/lang/invoke/MethodHandle" ∧ yX5_addProduct.cls ≠ "java/lang/invoke/VarHandle" ∧ (parseMethodDescriptor yX5_addProduct.desc).map (fun d => d.parameters.length) = some 2 := by decide +kernel
theorem gkL_80 : GoodIn TT (wsV RL 80 yX5_setTax.cls yX5_setTax (Cond.code yX5_setTax cX5_setTax 6 (some .int) :: TT)) := goodTV (tA 106 rfl rfl) (tA 107 rfl rfl) (tA 108 rfl rfl) (tA 1 rfl rfl) (tA 109 rfl rfl)
theorem hyX5_setTax : yX5_setTax.cls ≠ "java/lang/invoke/MethodHandle" ∧ yX5_setTax.cls ≠ "java/lang/invoke/VarHandle" ∧ (parseMethodDescriptor yX5_setTax.desc).map (fun d => d.parameters.length) = some 3 := by decide +kernel
theorem gkL_84 : GoodIn TT (wsV RL 84 yX5_setPrice.cls yX5_setPrice (Cond.code yX5_setPrice cX5_setPrice 6 (some .int) :: TT)) := goodTV (tB 112 rfl rfl) (tB 113 rfl rfl) (tB 114 rfl rfl) (tA 1 rfl rfl) (tB 115 rfl rfl)
theorem hyX5_setPrice : yX5_setPrice.cls ≠ "java/lang/invoke/MethodHandle" ∧ yX5_setPrice.cls ≠ "java/lang/invoke/VarHandle" ∧ (parseMethodDescriptor yX5_setPrice.desc).map (fun d => d.parameters.length) = some 3 := by decide +kernel
theorem gkL_62 : GoodIn TT (wsV RL 62 yX5_sales.cls yX5_sales (Cond.code yX5_sales cX5_sales 1 (some .int) :: TT)) := goodTV (tB 193 rfl rfl) (tB 194 rfl rfl) (tB 195 rfl rfl) (tA 1 rfl rfl) (tB 196 rfl rfl)
theorem hyX5_sales : yX5_sales.cls ≠ "java/lang/invoke/MethodHandle" ∧ yX5_sales.cls ≠ "java/lang/invoke/VarHandle" ∧ (parseMethodDescriptor yX5_sales.desc).map (fun d => d.parameters.length) = some 0 := by decide +kernel
theorem gkL_88 : GoodIn TT (wsV RL 88 yX5_buy.cls yX5_buy (Cond.code yX5_buy cX5_buy 5 (some .int) :: TT)) := goodTV (tB 129 rfl rfl) (tB 130 rfl rfl) (tB 131 rfl rfl) (tA 1 rfl rfl) (tB 132 rfl rfl)
theorem hyX5_buy : yX5_buy.cls ≠ "java/lang/invoke/MethodHandle" ∧ yX5_buy.cls ≠ "java/lang/invoke/VarHandle" ∧ (parseMethodDescriptor yX5_buy.desc).map (fun d => d.parameters.length) = some 2 := by decide +kernel
theorem gkL_91 : GoodIn TT (va_wsS RL 91 yL_sale (Cond.code yL_sale cL_sale 6 (some .boolean) :: TT)) := goodTS (tC 135 rfl rfl) (tC 136 rfl rfl) (tA 0 rfl rfl) (goodTT (tC 137 rfl rfl))
theorem hyL_sale : yL_sale.cls ≠ "java/lang/invoke/MethodHandle" ∧ yL_sale.cls ≠ "java/lang/invoke/VarHandle" ∧ (parseMethodDescriptor yL_sale.desc).map (fun d => d.parameters.length) = some 2 := by decide +kernel
theorem gkL_94 : GoodIn TT (wsV RL 94 yX5_subscribe.cls yX5_subscribe (Cond.code yX5_subscribe cX5_subscribe 7 (some .int) :: TT)) := goodTV (tB 206 rfl rfl) (tB 207 rfl rfl) (tB 208 rfl rfl) (tA 1 rfl rfl) (tB 209 rfl rfl)
theorem hyX5_subscribe : yX5_subscribe.cls ≠ "java/lang/invoke/MethodHandle" ∧ yX5_subscribe.cls ≠ "java/lang/invoke/VarHandle" ∧ (parseMethodDescriptor yX5_subscribe.desc).map (fun d => d.parameters.length) = some 4 := by decide +kernel
theorem gkL_98 : GoodIn TT (wsV RL 98 yX5_next.cls yX5_next (Cond.code yX5_next cX5_next 2 (some .int) :: TT)) := goodTV (tC 12 rfl rfl) (tC 13 rfl rfl) (tC 14 rfl rfl) (tA 1 rfl rfl) (tC 15 rfl rfl)
theorem hyX5_next : yX5_next.cls ≠ "java/lang/invoke/MethodHandle" ∧ yX5_next.cls ≠ "java/lang/invoke/VarHandle" ∧ (parseMethodDescriptor yX5_next.desc).map (fun d => d.parameters.length) = some 1 := by decide +kernel
theorem gkL_101 : GoodIn TT (wsV RL 101 yX5_payments.cls yX5_payments (Cond.code yX5_payments cX5_payments 2 (some .int) :: TT)) := goodTV (tC 3 rfl rfl) (tC 4 rfl rfl) (tC 5 rfl rfl) (tA 1 rfl rfl) (tC 6 rfl rfl)
theorem hyX5_payments : yX5_payments.cls ≠ "java/lang/invoke/MethodHandle" ∧ yX5_payments.cls ≠ "java/lang/invoke/VarHandle" ∧ (parseMethodDescriptor yX5_payments.desc).map (fun d => d.parameters.length) = some 1 := by decide +kernel
theorem gkL_104 : GoodIn TT (va_wsS RL 104 yL_refund (Cond.codeWith yL_refund cL_refund 3 (some .int) [(0, 5, 6, 15)] :: TT)) := goodTS (tC 32 rfl rfl) (tC 33 rfl rfl) (tA 0 rfl rfl) (goodTW (tC 34 rfl rfl))
theorem hyL_refund : yL_refund.cls ≠ "java/lang/invoke/MethodHandle" ∧ yL_refund.cls ≠ "java/lang/invoke/VarHandle" ∧ (parseMethodDescriptor yL_refund.desc).map (fun d => d.parameters.length) = some 2 := by decide +kernel
theorem gkL_107 : GoodIn TT (va_wsS RL 107 yL_cancel (Cond.codeWith yL_cancel cL_cancel 3 (some .int) [(0, 5, 6, 15)] :: TT)) := goodTS (tC 95 rfl rfl) (tC 96 rfl rfl) (tA 0 rfl rfl) (goodTW (tC 97 rfl rfl))
theorem hyL_cancel : yL_cancel.cls ≠ "java/lang/invoke/MethodHandle" ∧ yL_cancel.cls ≠ "java/lang/invoke/VarHandle" ∧ (parseMethodDescriptor yL_cancel.desc).map (fun d => d.parameters.length) = some 2 := by decide +kernel
theorem gkL_109 : GoodIn TT (va_wsS RL 109 yL_pass (Cond.codeWith yL_pass cL_pass 3 (some .int) [(0, 5, 6, 15)] :: TT)) := goodTS (tC 42 rfl rfl) (tC 43 rfl rfl) (tA 0 rfl rfl) (goodTW (tC 44 rfl rfl))
theorem hyL_pass : yL_pass.cls ≠ "java/lang/invoke/MethodHandle" ∧ yL_pass.cls ≠ "java/lang/invoke/VarHandle" ∧ (parseMethodDescriptor yL_pass.desc).map (fun d => d.parameters.length) = some 2 := by decide +kernel
set_option maxRecDepth 100000 in
set_option maxHeartbeats 4000000 in
theorem lc_addMaker {p : Program} {l : Launch} {e : Env} {s : State} {m : MethodId} {below : List Frame} {meth : Method} {c0 : Code} {Q : State → Prop} {A : Nat → Prop} {D : va_G} {Y : Nat → Nat} {b : Nat} {sg : Sg} {al : Nat → Nat → Nat} {c : Nat} {n t : Int32} (C0 : CallFix p m c0 cL_law 16 s #[Value.ref b] TT RL) (K0 : PK D Y A s) (hlt : l.stackTraces = false) (P : PI c sg) (hc : c < 580) (gE : ∀ (sg' : Sg) (al' : Nat → Nat → Nat) (r0 : Nat) (x2 x3 x5 : Int32), PI (c + 2) sg' → r0 = al' 0 0 → x2 = nI (sN sg' 2) → x3 = nI (sN sg' 3) → x5 = nI (sN sg' 5) → kG p l e room_1 s m #[Value.ref b] below meth c0 Q A 16 (WX D Y A sg' al' []) (kkC (c + 2) sg') (kkS (c + 2) sg') 826 [(7, .int n), (6, .int t), (5, .int 1), (4, .int x5), (3, .int x3), (2, .int x2), (1, .ref r0), (0, .ref (Y 6))] []) (v : Int32) (srt pp j : Nat) (hN : sN sg 2 < 6) : kG p l e room_1 s m #[Value.ref b] below meth c0 Q A 16 (WX D Y A sg al []) (kkC c sg) (kkS c sg) 141 [(11, .int (nI srt)), (10, .int (nI pp)), (9, .int (nI j)), (8, .int v), (7, .int n), (6, .int t), (5, .int 1), (4, .int (nI (sN sg 5))), (3, .int (nI (sN sg 3))), (2, .int (nI (sN sg 2))), (1, .ref (al 0 0)), (0, .ref (Y 6))] [] := by
  refine k_aload_n C0 dL_law_141 10 rfl ?_
  refine k_iload C0 dL_law_142 3 rfl ?_
  refine k_iload C0 dL_law_144 3 rfl ?_
  refine k_bipush C0 19 dL_law_146 (by decide) ?_
  refine k_ishr C0 dL_law_148 ?_
  refine k_iconst C0 2 dL_law_149 (by decide) ?_
  refine k_callS C0 K0 dL_law_150 (ct_low l D Y A (WX D Y A sg al []) (v >>> (19 &&& 31)) 2 (by decide) (by decide)) gkL_69 hyL_low rfl (by exact Nat.le_of_ble_eq_true rfl) ⟨Nat.le_of_ble_eq_true rfl, Nat.le_of_ble_eq_true rfl⟩ (kk_roomP P (by omega)) (fun E => kX_no E) (fun q1 => k_ex (B := q1 < 2) (fun H h => h.1) (fun hq1 => k_W (V' := WX D Y A sg al []) (fun H h => h.2) (k_wid (k2 := kkC c sg) (n2 := kkS c sg) (Nat.le_refl _) (Nat.le_refl _) ?_)))
  refine k_if_ne C0 160 dL_law_153 (by decide) (fun h153 => ?_) (fun h153 => ?_)
  ·
    refine k_ldc C0 (v := 200000) dL_law_160 (tC 150 rfl rfl) ?_
    refine k_callS C0 K0 dL_law_162 (ct_low l D Y A (WX D Y A sg al []) v 200000 (by decide) (by decide)) gkL_69 hyL_low rfl (by exact Nat.le_of_ble_eq_true rfl) ⟨Nat.le_of_ble_eq_true rfl, Nat.le_of_ble_eq_true rfl⟩ (kk_roomP P (by omega)) (fun E => kX_no E) (fun q2 => k_ex (B := q2 < 200000) (fun H h => h.1) (fun hq2 => k_W (V' := WX D Y A sg al []) (fun H h => h.2) (k_wid (k2 := kkC c sg) (n2 := kkS c sg) (Nat.le_refl _) (Nat.le_refl _) ?_)))
    have P2 : PI (c + 1) (c_add (n_maker sg (nI q2)) 0) := pi_addMaker P (nI q2) hN
    obtain ⟨⟨u1, u2⟩, ⟨u3, u4⟩, u5, u6⟩ := kk_upP (c := c) (sg := sg) (sg' := (c_add (n_maker sg (nI q2)) 0)) (ph_add0 sg (nI q2)) P2 (by omega)
    refine k_callV C0 K0 dL_law_165 (cc_addMaker l D Y A sg al (nI q2) (nI_pos' (by omega)) (nI_le (b := 1000000) (by omega) (by decide)) (P.lw 0 (by decide)) hN P.r3 P.r4) gkL_73 hyX5_addMaker (c_recv (sg := sg) (al := al) K0 0 0 rfl rfl rfl) rfl (by exact Nat.le_of_ble_eq_true rfl) ⟨Nat.le_of_ble_eq_true rfl, Nat.le_of_ble_eq_true rfl⟩ ⟨u3, u4⟩ (fun E => kX_no E) (fun al2 => k_ex (B := al2 0 0 = al 0 0) (fun H h => h.1) (fun hal => k_W (V' := WX D Y A (c_add (n_maker sg (nI q2)) 0) al2 []) (fun H h => h.2) (k_wid u1 u2 ?_)))
    refine k_iload_n C0 dL_law_168 9 rfl ?_
    refine k_icmp_ne C0 176 dL_law_169 (by decide) (fun zz => absurd rfl zz) (fun _ => ?_)
    refine k_iconst C0 1 dL_law_172 (by decide) ?_
    refine k_goto C0 177 dL_law_173 (by decide) ?_
    refine k_istore C0 [(5, _), (11, _), (10, _), (9, _), (8, _), (7, _), (6, _), (4, _), (3, _), (2, _), (1, _), (0, _)] dL_law_177 (by decide) rfl ?_
    refine k_iinc C0 (nI (sN sg 2 + 1)) [(2, _), (5, _), (11, _), (10, _), (9, _), (8, _), (7, _), (6, _), (4, _), (3, _), (1, _), (0, _)] dL_law_179 9 rfl (nI_1 _) (by decide) rfl ?_
    refine k_goto C0 826 dL_law_182 (by decide) ?_
    refine k_lv [6, 7, 1, 8, 9, 0, 10, 11] rfl ?_
    exact (k_wid (kk_suc (c + 1) (c_add (n_maker sg (nI q2)) 0)).1 (kk_suc (c + 1) (c_add (n_maker sg (nI q2)) 0)).2 (gE (c_add (n_maker sg (nI q2)) 0) al2 _ _ _ _ (P2.suc) hal.symm (congrArg nI (sN_add (n_maker sg (nI q2)) 0 2).symm) (congrArg nI (sN_add (n_maker sg (nI q2)) 0 3).symm) (congrArg nI (sN_add (n_maker sg (nI q2)) 0 5).symm)))
    
  ·
    refine k_iconst C0 3 dL_law_156 (by decide) ?_
    refine k_goto C0 162 dL_law_157 (by decide) ?_
    refine k_callS C0 K0 dL_law_162 (ct_low l D Y A (WX D Y A sg al []) v 3 (by decide) (by decide)) gkL_69 hyL_low rfl (by exact Nat.le_of_ble_eq_true rfl) ⟨Nat.le_of_ble_eq_true rfl, Nat.le_of_ble_eq_true rfl⟩ (kk_roomP P (by omega)) (fun E => kX_no E) (fun q2 => k_ex (B := q2 < 3) (fun H h => h.1) (fun hq2 => k_W (V' := WX D Y A sg al []) (fun H h => h.2) (k_wid (k2 := kkC c sg) (n2 := kkS c sg) (Nat.le_refl _) (Nat.le_refl _) ?_)))
    have P2 : PI (c + 1) (c_add (n_maker sg (nI q2)) 0) := pi_addMaker P (nI q2) hN
    obtain ⟨⟨u1, u2⟩, ⟨u3, u4⟩, u5, u6⟩ := kk_upP (c := c) (sg := sg) (sg' := (c_add (n_maker sg (nI q2)) 0)) (ph_add0 sg (nI q2)) P2 (by omega)
    refine k_callV C0 K0 dL_law_165 (cc_addMaker l D Y A sg al (nI q2) (nI_pos' (by omega)) (nI_le (b := 1000000) (by omega) (by decide)) (P.lw 0 (by decide)) hN P.r3 P.r4) gkL_73 hyX5_addMaker (c_recv (sg := sg) (al := al) K0 0 0 rfl rfl rfl) rfl (by exact Nat.le_of_ble_eq_true rfl) ⟨Nat.le_of_ble_eq_true rfl, Nat.le_of_ble_eq_true rfl⟩ ⟨u3, u4⟩ (fun E => kX_no E) (fun al2 => k_ex (B := al2 0 0 = al 0 0) (fun H h => h.1) (fun hal => k_W (V' := WX D Y A (c_add (n_maker sg (nI q2)) 0) al2 []) (fun H h => h.2) (k_wid u1 u2 ?_)))
    refine k_iload_n C0 dL_law_168 9 rfl ?_
    refine k_icmp_ne C0 176 dL_law_169 (by decide) (fun zz => absurd rfl zz) (fun _ => ?_)
    refine k_iconst C0 1 dL_law_172 (by decide) ?_
    refine k_goto C0 177 dL_law_173 (by decide) ?_
    refine k_istore C0 [(5, _), (11, _), (10, _), (9, _), (8, _), (7, _), (6, _), (4, _), (3, _), (2, _), (1, _), (0, _)] dL_law_177 (by decide) rfl ?_
    refine k_iinc C0 (nI (sN sg 2 + 1)) [(2, _), (5, _), (11, _), (10, _), (9, _), (8, _), (7, _), (6, _), (4, _), (3, _), (1, _), (0, _)] dL_law_179 9 rfl (nI_1 _) (by decide) rfl ?_
    refine k_goto C0 826 dL_law_182 (by decide) ?_
    refine k_lv [6, 7, 1, 8, 9, 0, 10, 11] rfl ?_
    exact (k_wid (kk_suc (c + 1) (c_add (n_maker sg (nI q2)) 0)).1 (kk_suc (c + 1) (c_add (n_maker sg (nI q2)) 0)).2 (gE (c_add (n_maker sg (nI q2)) 0) al2 _ _ _ _ (P2.suc) hal.symm (congrArg nI (sN_add (n_maker sg (nI q2)) 0 2).symm) (congrArg nI (sN_add (n_maker sg (nI q2)) 0 3).symm) (congrArg nI (sN_add (n_maker sg (nI q2)) 0 5).symm)))
    
set_option maxRecDepth 100000 in
set_option maxHeartbeats 4000000 in
theorem lc_addProduct {p : Program} {l : Launch} {e : Env} {s : State} {m : MethodId} {below : List Frame} {meth : Method} {c0 : Code} {Q : State → Prop} {A : Nat → Prop} {D : va_G} {Y : Nat → Nat} {b : Nat} {sg : Sg} {al : Nat → Nat → Nat} {c : Nat} {n t : Int32} (C0 : CallFix p m c0 cL_law 16 s #[Value.ref b] TT RL) (K0 : PK D Y A s) (hlt : l.stackTraces = false) (P : PI c sg) (hc : c < 580) (gE : ∀ (sg' : Sg) (al' : Nat → Nat → Nat) (r0 : Nat) (x2 x3 x5 : Int32), PI (c + 2) sg' → r0 = al' 0 0 → x2 = nI (sN sg' 2) → x3 = nI (sN sg' 3) → x5 = nI (sN sg' 5) → kG p l e room_1 s m #[Value.ref b] below meth c0 Q A 16 (WX D Y A sg' al' []) (kkC (c + 2) sg') (kkS (c + 2) sg') 826 [(7, .int n), (6, .int t), (5, .int 1), (4, .int x5), (3, .int x3), (2, .int x2), (1, .ref r0), (0, .ref (Y 6))] []) (v : Int32) (srt pp j : Nat) (hN : sN sg 3 < 20) (hm0 : 0 < sN sg 2) : kG p l e room_1 s m #[Value.ref b] below meth c0 Q A 16 (WX D Y A sg al []) (kkC c sg) (kkS c sg) 201 [(11, .int (nI srt)), (10, .int (nI pp)), (9, .int (nI j)), (8, .int v), (7, .int n), (6, .int t), (5, .int 1), (4, .int (nI (sN sg 5))), (3, .int (nI (sN sg 3))), (2, .int (nI (sN sg 2))), (1, .ref (al 0 0)), (0, .ref (Y 6))] [] := by
  refine k_aload_n C0 dL_law_201 10 rfl ?_
  refine k_iload C0 dL_law_202 3 rfl ?_
  refine k_iload_n C0 dL_law_204 9 rfl ?_
  refine k_callS C0 K0 dL_law_205 (ct_low l D Y A (WX D Y A sg al []) v (sN sg 2) hm0 (by have := P.n2; omega)) gkL_69 hyL_low rfl (by exact Nat.le_of_ble_eq_true rfl) ⟨Nat.le_of_ble_eq_true rfl, Nat.le_of_ble_eq_true rfl⟩ (kk_roomP P (by omega)) (fun E => kX_no E) (fun q1 => k_ex (B := q1 < (sN sg 2)) (fun H h => h.1) (fun hq1 => k_W (V' := WX D Y A sg al []) (fun H h => h.2) (k_wid (k2 := kkC c sg) (n2 := kkS c sg) (Nat.le_refl _) (Nat.le_refl _) ?_)))
  refine k_iload C0 dL_law_208 3 rfl ?_
  refine k_iconst C0 5 dL_law_210 (by decide) ?_
  refine k_ishr C0 dL_law_211 ?_
  refine k_ldc C0 (v := 100001) dL_law_212 (tC 151 rfl rfl) ?_
  refine k_callS C0 K0 dL_law_214 (ct_low l D Y A (WX D Y A sg al []) (v >>> (5 &&& 31)) 100001 (by decide) (by decide)) gkL_69 hyL_low rfl (by exact Nat.le_of_ble_eq_true rfl) ⟨Nat.le_of_ble_eq_true rfl, Nat.le_of_ble_eq_true rfl⟩ (kk_roomP P (by omega)) (fun E => kX_no E) (fun q2 => k_ex (B := q2 < 100001) (fun H h => h.1) (fun hq2 => k_W (V' := WX D Y A sg al []) (fun H h => h.2) (k_wid (k2 := kkC c sg) (n2 := kkS c sg) (Nat.le_refl _) (Nat.le_refl _) ?_)))
  have P2 : PI (c + 1) (c_add (n_prod sg q1 (nI q2)) 1) := pi_addProduct P hq1 (by omega) hN
  obtain ⟨⟨u1, u2⟩, ⟨u3, u4⟩, u5, u6⟩ := kk_upP (c := c) (sg := sg) (sg' := (c_add (n_prod sg q1 (nI q2)) 1)) (ph_add1 sg q1 (nI q2)) P2 (by omega)
  refine k_callV C0 K0 dL_law_217 (cc_addProduct l D Y A sg al (P.lw 0 (by decide)) q1 hq1 (nI q2) (nI_pos' (by omega)) (nI_le (b := 100000) (by omega) (by decide)) (P.lw 1 (by decide)) hN P.r5) gkL_77 hyX5_addProduct (c_recv (sg := sg) (al := al) K0 0 0 rfl rfl rfl) rfl (by exact Nat.le_of_ble_eq_true rfl) ⟨Nat.le_of_ble_eq_true rfl, Nat.le_of_ble_eq_true rfl⟩ ⟨u3, u4⟩ (fun E => kX_no E) (fun al2 => k_ex (B := al2 0 0 = al 0 0) (fun H h => h.1) (fun hal => k_W (V' := WX D Y A (c_add (n_prod sg q1 (nI q2)) 1) al2 []) (fun H h => h.2) (k_wid u1 u2 ?_)))
  refine k_iload_n C0 dL_law_220 8 rfl ?_
  refine k_icmp_ne C0 228 dL_law_221 (by decide) (fun zz => absurd rfl zz) (fun _ => ?_)
  refine k_iconst C0 1 dL_law_224 (by decide) ?_
  refine k_goto C0 229 dL_law_225 (by decide) ?_
  refine k_istore C0 [(5, _), (11, _), (10, _), (9, _), (8, _), (7, _), (6, _), (4, _), (3, _), (2, _), (1, _), (0, _)] dL_law_229 (by decide) rfl ?_
  refine k_iinc C0 (nI (sN sg 3 + 1)) [(3, _), (5, _), (11, _), (10, _), (9, _), (8, _), (7, _), (6, _), (4, _), (2, _), (1, _), (0, _)] dL_law_231 8 rfl (nI_1 _) (by decide) rfl ?_
  refine k_goto C0 826 dL_law_234 (by decide) ?_
  refine k_lv [6, 7, 1, 8, 0, 9, 10, 11] rfl ?_
  exact (k_wid (kk_suc (c + 1) (c_add (n_prod sg q1 (nI q2)) 1)).1 (kk_suc (c + 1) (c_add (n_prod sg q1 (nI q2)) 1)).2 (gE (c_add (n_prod sg q1 (nI q2)) 1) al2 _ _ _ _ (P2.suc) hal.symm (congrArg nI (sN_add (n_prod sg q1 (nI q2)) 1 2).symm) (congrArg nI (sN_add (n_prod sg q1 (nI q2)) 1 3).symm) (congrArg nI (sN_add (n_prod sg q1 (nI q2)) 1 5).symm)))
  
set_option maxRecDepth 100000 in
set_option maxHeartbeats 4000000 in
theorem lc_setTax {p : Program} {l : Launch} {e : Env} {s : State} {m : MethodId} {below : List Frame} {meth : Method} {c0 : Code} {Q : State → Prop} {A : Nat → Prop} {D : va_G} {Y : Nat → Nat} {b : Nat} {sg : Sg} {al : Nat → Nat → Nat} {c : Nat} {n t : Int32} (C0 : CallFix p m c0 cL_law 16 s #[Value.ref b] TT RL) (K0 : PK D Y A s) (hlt : l.stackTraces = false) (P : PI c sg) (hc : c < 580) (gE : ∀ (sg' : Sg) (al' : Nat → Nat → Nat) (r0 : Nat) (x2 x3 x5 : Int32), PI (c + 2) sg' → r0 = al' 0 0 → x2 = nI (sN sg' 2) → x3 = nI (sN sg' 3) → x5 = nI (sN sg' 5) → kG p l e room_1 s m #[Value.ref b] below meth c0 Q A 16 (WX D Y A sg' al' []) (kkC (c + 2) sg') (kkS (c + 2) sg') 826 [(7, .int n), (6, .int t), (5, .int 1), (4, .int x5), (3, .int x3), (2, .int x2), (1, .ref r0), (0, .ref (Y 6))] []) (v : Int32) (srt pp j : Nat) (hj : j < 5) : kG p l e room_1 s m #[Value.ref b] below meth c0 Q A 16 (WX D Y A sg al []) (kkC c sg) (kkS c sg) 243 [(11, .int (nI srt)), (10, .int (nI pp)), (9, .int (nI j)), (8, .int v), (7, .int n), (6, .int t), (5, .int 1), (4, .int (nI (sN sg 5))), (3, .int (nI (sN sg 3))), (2, .int (nI (sN sg 2))), (1, .ref (al 0 0)), (0, .ref (Y 6))] [] := by
  refine k_iload C0 dL_law_243 3 rfl ?_
  refine k_bipush C0 31 dL_law_245 (by decide) ?_
  refine k_callS C0 K0 dL_law_247 (ct_low l D Y A (WX D Y A sg al []) v 31 (by decide) (by decide)) gkL_69 hyL_low rfl (by exact Nat.le_of_ble_eq_true rfl) ⟨Nat.le_of_ble_eq_true rfl, Nat.le_of_ble_eq_true rfl⟩ (kk_roomP P (by omega)) (fun E => kX_no E) (fun q1 => k_ex (B := q1 < 31) (fun H h => h.1) (fun hq1 => k_W (V' := WX D Y A sg al []) (fun H h => h.2) (k_wid (k2 := kkC c sg) (n2 := kkS c sg) (Nat.le_refl _) (Nat.le_refl _) ?_)))
  refine k_istore C0 [(12, _), (11, _), (10, _), (9, _), (8, _), (7, _), (6, _), (5, _), (4, _), (3, _), (2, _), (1, _), (0, _)] dL_law_250 (by decide) rfl ?_
  refine k_aload_n C0 dL_law_252 11 rfl ?_
  refine k_iload C0 dL_law_253 3 rfl ?_
  refine k_iload C0 dL_law_255 0 rfl ?_
  refine k_iload C0 dL_law_257 4 rfl ?_
  refine k_bipush C0 9 dL_law_259 (by decide) ?_
  refine k_ishr C0 dL_law_261 ?_
  refine k_iconst C0 2 dL_law_262 (by decide) ?_
  refine k_callS C0 K0 dL_law_263 (ct_low l D Y A (WX D Y A sg al []) (v >>> (9 &&& 31)) 2 (by decide) (by decide)) gkL_69 hyL_low rfl (by exact Nat.le_of_ble_eq_true rfl) ⟨Nat.le_of_ble_eq_true rfl, Nat.le_of_ble_eq_true rfl⟩ (kk_roomP P (by omega)) (fun E => kX_no E) (fun q2 => k_ex (B := q2 < 2) (fun H h => h.1) (fun hq2 => k_W (V' := WX D Y A sg al []) (fun H h => h.2) (k_wid (k2 := kkC c sg) (n2 := kkS c sg) (Nat.le_refl _) (Nat.le_refl _) ?_)))
  refine k_if_ne C0 273 dL_law_266 (by decide) (fun h266 => ?_) (fun h266 => ?_)
  ·
    refine k_iconst C0 0 dL_law_273 (by decide) ?_
    have P2 : PI (c + 1) (sI (sI sg 1 j 1 (nI q1)) 1 j 2 0) := pi_setTax P hj (by omega) (by decide)
    obtain ⟨⟨u1, u2⟩, ⟨u3, u4⟩, u5, u6⟩ := kk_upP (c := c) (sg := sg) (sg' := (sI (sI sg 1 j 1 (nI q1)) 1 j 2 0)) (ph_same (sg := sg) (mc := 0) (ms := 0) rfl (by decide) (by decide)) P2 (by omega)
    refine k_callV C0 K0 dL_law_274 (cc_setTax l D Y A sg al [] j hj (nI q1) 0 (by decide) (nI_pos' (by omega)) (nI_le (b := 30) (by omega) (by decide))) gkL_80 hyX5_setTax (c_recv (sg := sg) (al := al) K0 0 0 rfl rfl rfl) rfl (by exact Nat.le_of_ble_eq_true rfl) ⟨Nat.le_of_ble_eq_true rfl, Nat.le_of_ble_eq_true rfl⟩ ⟨u3, u4⟩ (fun E => kX_no E) (fun _ => k_W (V' := WX D Y A (sI (sI sg 1 j 1 (nI q1)) 1 j 2 0) al []) (fun H h => h) (k_wid u1 u2 ?_))
    refine k_pop C0 dL_law_277 rfl ?_
    refine k_aload_n C0 dL_law_278 11 rfl ?_
    refine k_iload C0 dL_law_279 3 rfl ?_
    refine k_iload C0 dL_law_281 0 rfl ?_
    refine k_iload C0 dL_law_283 4 rfl ?_
    refine k_bipush C0 9 dL_law_285 (by decide) ?_
    refine k_ishr C0 dL_law_287 ?_
    refine k_iconst C0 2 dL_law_288 (by decide) ?_
    refine k_callS C0 K0 dL_law_289 (ct_low l D Y A (WX D Y A (sI (sI sg 1 j 1 (nI q1)) 1 j 2 0) al []) (v >>> (9 &&& 31)) 2 (by decide) (by decide)) gkL_69 hyL_low rfl (by exact Nat.le_of_ble_eq_true rfl) ⟨Nat.le_of_ble_eq_true rfl, Nat.le_of_ble_eq_true rfl⟩ (kk_roomP P2 (by omega)) (fun E => kX_no E) (fun q3 => k_ex (B := q3 < 2) (fun H h => h.1) (fun hq3 => k_W (V' := WX D Y A (sI (sI sg 1 j 1 (nI q1)) 1 j 2 0) al []) (fun H h => h.2) (k_wid (k2 := kkC (c + 1) (sI (sI sg 1 j 1 (nI q1)) 1 j 2 0)) (n2 := kkS (c + 1) (sI (sI sg 1 j 1 (nI q1)) 1 j 2 0)) (Nat.le_refl _) (Nat.le_refl _) ?_)))
    refine k_if_ne C0 299 dL_law_292 (by decide) (fun h292 => ?_) (fun h292 => ?_)
    ·
      refine k_iconst C0 0 dL_law_299 (by decide) ?_
      have P3 : PI (c + 1 + 1) (sI (sI (sI (sI sg 1 j 1 (nI q1)) 1 j 2 0) 1 j 1 (nI q1)) 1 j 2 0) := pi_setTax P2 hj (by omega) (by decide)
      obtain ⟨⟨w1, w2⟩, ⟨w3, w4⟩, w5, w6⟩ := kk_upP (c := (c + 1)) (sg := (sI (sI sg 1 j 1 (nI q1)) 1 j 2 0)) (sg' := (sI (sI (sI (sI sg 1 j 1 (nI q1)) 1 j 2 0) 1 j 1 (nI q1)) 1 j 2 0)) (ph_same (sg := (sI (sI sg 1 j 1 (nI q1)) 1 j 2 0)) (mc := 0) (ms := 0) rfl (by decide) (by decide)) P3 (by omega)
      refine k_callV C0 K0 dL_law_300 (cc_setTax l D Y A (sI (sI sg 1 j 1 (nI q1)) 1 j 2 0) al [] j hj (nI q1) 0 (by decide) (nI_pos' (by omega)) (nI_le (b := 30) (by omega) (by decide))) gkL_80 hyX5_setTax (c_recv (sg := (sI (sI sg 1 j 1 (nI q1)) 1 j 2 0)) (al := al) K0 0 0 rfl rfl rfl) rfl (by exact Nat.le_of_ble_eq_true rfl) ⟨Nat.le_of_ble_eq_true rfl, Nat.le_of_ble_eq_true rfl⟩ ⟨w3, w4⟩ (fun E => kX_no E) (fun _ => k_W (V' := WX D Y A (sI (sI (sI (sI sg 1 j 1 (nI q1)) 1 j 2 0) 1 j 1 (nI q1)) 1 j 2 0) al []) (fun H h => h) (k_wid w1 w2 ?_))
      refine k_iload C0 dL_law_303 0 rfl ?_
      refine k_icmp_ne C0 312 dL_law_305 (by decide) (fun zz => absurd (up3_j (by decide) up3_at) zz) (fun _ => ?_)
      refine k_iconst C0 1 dL_law_308 (by decide) ?_
      refine k_goto C0 313 dL_law_309 (by decide) ?_
      refine k_istore C0 [(5, _), (12, _), (11, _), (10, _), (9, _), (8, _), (7, _), (6, _), (4, _), (3, _), (2, _), (1, _), (0, _)] dL_law_313 (by decide) rfl ?_
      refine k_goto C0 826 dL_law_315 (by decide) ?_
      refine k_lv [6, 7, 0, 8, 9, 10, 11, 12] rfl ?_
      exact (gE (sI (sI (sI (sI sg 1 j 1 (nI q1)) 1 j 2 0) 1 j 1 (nI q1)) 1 j 2 0) al _ _ _ _ P3 rfl rfl rfl rfl)
      
    ·
      refine k_iconst C0 1 dL_law_295 (by decide) ?_
      refine k_goto C0 300 dL_law_296 (by decide) ?_
      have P3 : PI (c + 1 + 1) (sI (sI (sI (sI sg 1 j 1 (nI q1)) 1 j 2 0) 1 j 1 (nI q1)) 1 j 2 1) := pi_setTax P2 hj (by omega) (by decide)
      obtain ⟨⟨w1, w2⟩, ⟨w3, w4⟩, w5, w6⟩ := kk_upP (c := (c + 1)) (sg := (sI (sI sg 1 j 1 (nI q1)) 1 j 2 0)) (sg' := (sI (sI (sI (sI sg 1 j 1 (nI q1)) 1 j 2 0) 1 j 1 (nI q1)) 1 j 2 1)) (ph_same (sg := (sI (sI sg 1 j 1 (nI q1)) 1 j 2 0)) (mc := 0) (ms := 0) rfl (by decide) (by decide)) P3 (by omega)
      refine k_callV C0 K0 dL_law_300 (cc_setTax l D Y A (sI (sI sg 1 j 1 (nI q1)) 1 j 2 0) al [] j hj (nI q1) 1 (by decide) (nI_pos' (by omega)) (nI_le (b := 30) (by omega) (by decide))) gkL_80 hyX5_setTax (c_recv (sg := (sI (sI sg 1 j 1 (nI q1)) 1 j 2 0)) (al := al) K0 0 0 rfl rfl rfl) rfl (by exact Nat.le_of_ble_eq_true rfl) ⟨Nat.le_of_ble_eq_true rfl, Nat.le_of_ble_eq_true rfl⟩ ⟨w3, w4⟩ (fun E => kX_no E) (fun _ => k_W (V' := WX D Y A (sI (sI (sI (sI sg 1 j 1 (nI q1)) 1 j 2 0) 1 j 1 (nI q1)) 1 j 2 1) al []) (fun H h => h) (k_wid w1 w2 ?_))
      refine k_iload C0 dL_law_303 0 rfl ?_
      refine k_icmp_ne C0 312 dL_law_305 (by decide) (fun zz => absurd (up3_j (by decide) up3_at) zz) (fun _ => ?_)
      refine k_iconst C0 1 dL_law_308 (by decide) ?_
      refine k_goto C0 313 dL_law_309 (by decide) ?_
      refine k_istore C0 [(5, _), (12, _), (11, _), (10, _), (9, _), (8, _), (7, _), (6, _), (4, _), (3, _), (2, _), (1, _), (0, _)] dL_law_313 (by decide) rfl ?_
      refine k_goto C0 826 dL_law_315 (by decide) ?_
      refine k_lv [6, 7, 0, 8, 9, 10, 11, 12] rfl ?_
      exact (gE (sI (sI (sI (sI sg 1 j 1 (nI q1)) 1 j 2 0) 1 j 1 (nI q1)) 1 j 2 1) al _ _ _ _ P3 rfl rfl rfl rfl)
      
  ·
    refine k_iconst C0 1 dL_law_269 (by decide) ?_
    refine k_goto C0 274 dL_law_270 (by decide) ?_
    have P2 : PI (c + 1) (sI (sI sg 1 j 1 (nI q1)) 1 j 2 1) := pi_setTax P hj (by omega) (by decide)
    obtain ⟨⟨u1, u2⟩, ⟨u3, u4⟩, u5, u6⟩ := kk_upP (c := c) (sg := sg) (sg' := (sI (sI sg 1 j 1 (nI q1)) 1 j 2 1)) (ph_same (sg := sg) (mc := 0) (ms := 0) rfl (by decide) (by decide)) P2 (by omega)
    refine k_callV C0 K0 dL_law_274 (cc_setTax l D Y A sg al [] j hj (nI q1) 1 (by decide) (nI_pos' (by omega)) (nI_le (b := 30) (by omega) (by decide))) gkL_80 hyX5_setTax (c_recv (sg := sg) (al := al) K0 0 0 rfl rfl rfl) rfl (by exact Nat.le_of_ble_eq_true rfl) ⟨Nat.le_of_ble_eq_true rfl, Nat.le_of_ble_eq_true rfl⟩ ⟨u3, u4⟩ (fun E => kX_no E) (fun _ => k_W (V' := WX D Y A (sI (sI sg 1 j 1 (nI q1)) 1 j 2 1) al []) (fun H h => h) (k_wid u1 u2 ?_))
    refine k_pop C0 dL_law_277 rfl ?_
    refine k_aload_n C0 dL_law_278 11 rfl ?_
    refine k_iload C0 dL_law_279 3 rfl ?_
    refine k_iload C0 dL_law_281 0 rfl ?_
    refine k_iload C0 dL_law_283 4 rfl ?_
    refine k_bipush C0 9 dL_law_285 (by decide) ?_
    refine k_ishr C0 dL_law_287 ?_
    refine k_iconst C0 2 dL_law_288 (by decide) ?_
    refine k_callS C0 K0 dL_law_289 (ct_low l D Y A (WX D Y A (sI (sI sg 1 j 1 (nI q1)) 1 j 2 1) al []) (v >>> (9 &&& 31)) 2 (by decide) (by decide)) gkL_69 hyL_low rfl (by exact Nat.le_of_ble_eq_true rfl) ⟨Nat.le_of_ble_eq_true rfl, Nat.le_of_ble_eq_true rfl⟩ (kk_roomP P2 (by omega)) (fun E => kX_no E) (fun q3 => k_ex (B := q3 < 2) (fun H h => h.1) (fun hq3 => k_W (V' := WX D Y A (sI (sI sg 1 j 1 (nI q1)) 1 j 2 1) al []) (fun H h => h.2) (k_wid (k2 := kkC (c + 1) (sI (sI sg 1 j 1 (nI q1)) 1 j 2 1)) (n2 := kkS (c + 1) (sI (sI sg 1 j 1 (nI q1)) 1 j 2 1)) (Nat.le_refl _) (Nat.le_refl _) ?_)))
    refine k_if_ne C0 299 dL_law_292 (by decide) (fun h292 => ?_) (fun h292 => ?_)
    ·
      refine k_iconst C0 0 dL_law_299 (by decide) ?_
      have P3 : PI (c + 1 + 1) (sI (sI (sI (sI sg 1 j 1 (nI q1)) 1 j 2 1) 1 j 1 (nI q1)) 1 j 2 0) := pi_setTax P2 hj (by omega) (by decide)
      obtain ⟨⟨w1, w2⟩, ⟨w3, w4⟩, w5, w6⟩ := kk_upP (c := (c + 1)) (sg := (sI (sI sg 1 j 1 (nI q1)) 1 j 2 1)) (sg' := (sI (sI (sI (sI sg 1 j 1 (nI q1)) 1 j 2 1) 1 j 1 (nI q1)) 1 j 2 0)) (ph_same (sg := (sI (sI sg 1 j 1 (nI q1)) 1 j 2 1)) (mc := 0) (ms := 0) rfl (by decide) (by decide)) P3 (by omega)
      refine k_callV C0 K0 dL_law_300 (cc_setTax l D Y A (sI (sI sg 1 j 1 (nI q1)) 1 j 2 1) al [] j hj (nI q1) 0 (by decide) (nI_pos' (by omega)) (nI_le (b := 30) (by omega) (by decide))) gkL_80 hyX5_setTax (c_recv (sg := (sI (sI sg 1 j 1 (nI q1)) 1 j 2 1)) (al := al) K0 0 0 rfl rfl rfl) rfl (by exact Nat.le_of_ble_eq_true rfl) ⟨Nat.le_of_ble_eq_true rfl, Nat.le_of_ble_eq_true rfl⟩ ⟨w3, w4⟩ (fun E => kX_no E) (fun _ => k_W (V' := WX D Y A (sI (sI (sI (sI sg 1 j 1 (nI q1)) 1 j 2 1) 1 j 1 (nI q1)) 1 j 2 0) al []) (fun H h => h) (k_wid w1 w2 ?_))
      refine k_iload C0 dL_law_303 0 rfl ?_
      refine k_icmp_ne C0 312 dL_law_305 (by decide) (fun zz => absurd (up3_j (by decide) up3_at) zz) (fun _ => ?_)
      refine k_iconst C0 1 dL_law_308 (by decide) ?_
      refine k_goto C0 313 dL_law_309 (by decide) ?_
      refine k_istore C0 [(5, _), (12, _), (11, _), (10, _), (9, _), (8, _), (7, _), (6, _), (4, _), (3, _), (2, _), (1, _), (0, _)] dL_law_313 (by decide) rfl ?_
      refine k_goto C0 826 dL_law_315 (by decide) ?_
      refine k_lv [6, 7, 0, 8, 9, 10, 11, 12] rfl ?_
      exact (gE (sI (sI (sI (sI sg 1 j 1 (nI q1)) 1 j 2 1) 1 j 1 (nI q1)) 1 j 2 0) al _ _ _ _ P3 rfl rfl rfl rfl)
      
    ·
      refine k_iconst C0 1 dL_law_295 (by decide) ?_
      refine k_goto C0 300 dL_law_296 (by decide) ?_
      have P3 : PI (c + 1 + 1) (sI (sI (sI (sI sg 1 j 1 (nI q1)) 1 j 2 1) 1 j 1 (nI q1)) 1 j 2 1) := pi_setTax P2 hj (by omega) (by decide)
      obtain ⟨⟨w1, w2⟩, ⟨w3, w4⟩, w5, w6⟩ := kk_upP (c := (c + 1)) (sg := (sI (sI sg 1 j 1 (nI q1)) 1 j 2 1)) (sg' := (sI (sI (sI (sI sg 1 j 1 (nI q1)) 1 j 2 1) 1 j 1 (nI q1)) 1 j 2 1)) (ph_same (sg := (sI (sI sg 1 j 1 (nI q1)) 1 j 2 1)) (mc := 0) (ms := 0) rfl (by decide) (by decide)) P3 (by omega)
      refine k_callV C0 K0 dL_law_300 (cc_setTax l D Y A (sI (sI sg 1 j 1 (nI q1)) 1 j 2 1) al [] j hj (nI q1) 1 (by decide) (nI_pos' (by omega)) (nI_le (b := 30) (by omega) (by decide))) gkL_80 hyX5_setTax (c_recv (sg := (sI (sI sg 1 j 1 (nI q1)) 1 j 2 1)) (al := al) K0 0 0 rfl rfl rfl) rfl (by exact Nat.le_of_ble_eq_true rfl) ⟨Nat.le_of_ble_eq_true rfl, Nat.le_of_ble_eq_true rfl⟩ ⟨w3, w4⟩ (fun E => kX_no E) (fun _ => k_W (V' := WX D Y A (sI (sI (sI (sI sg 1 j 1 (nI q1)) 1 j 2 1) 1 j 1 (nI q1)) 1 j 2 1) al []) (fun H h => h) (k_wid w1 w2 ?_))
      refine k_iload C0 dL_law_303 0 rfl ?_
      refine k_icmp_ne C0 312 dL_law_305 (by decide) (fun zz => absurd (up3_j (by decide) up3_at) zz) (fun _ => ?_)
      refine k_iconst C0 1 dL_law_308 (by decide) ?_
      refine k_goto C0 313 dL_law_309 (by decide) ?_
      refine k_istore C0 [(5, _), (12, _), (11, _), (10, _), (9, _), (8, _), (7, _), (6, _), (4, _), (3, _), (2, _), (1, _), (0, _)] dL_law_313 (by decide) rfl ?_
      refine k_goto C0 826 dL_law_315 (by decide) ?_
      refine k_lv [6, 7, 0, 8, 9, 10, 11, 12] rfl ?_
      exact (gE (sI (sI (sI (sI sg 1 j 1 (nI q1)) 1 j 2 1) 1 j 1 (nI q1)) 1 j 2 1) al _ _ _ _ P3 rfl rfl rfl rfl)
      
set_option maxRecDepth 100000 in
set_option maxHeartbeats 4000000 in
theorem lc_setPrice {p : Program} {l : Launch} {e : Env} {s : State} {m : MethodId} {below : List Frame} {meth : Method} {c0 : Code} {Q : State → Prop} {A : Nat → Prop} {D : va_G} {Y : Nat → Nat} {b : Nat} {sg : Sg} {al : Nat → Nat → Nat} {c : Nat} {n t : Int32} (C0 : CallFix p m c0 cL_law 16 s #[Value.ref b] TT RL) (K0 : PK D Y A s) (hlt : l.stackTraces = false) (P : PI c sg) (hc : c < 580) (gE : ∀ (sg' : Sg) (al' : Nat → Nat → Nat) (r0 : Nat) (x2 x3 x5 : Int32), PI (c + 2) sg' → r0 = al' 0 0 → x2 = nI (sN sg' 2) → x3 = nI (sN sg' 3) → x5 = nI (sN sg' 5) → kG p l e room_1 s m #[Value.ref b] below meth c0 Q A 16 (WX D Y A sg' al' []) (kkC (c + 2) sg') (kkS (c + 2) sg') 826 [(7, .int n), (6, .int t), (5, .int 1), (4, .int x5), (3, .int x3), (2, .int x2), (1, .ref r0), (0, .ref (Y 6))] []) (v : Int32) (srt pp j : Nat) (hj : j < 5) (hp : pp < sN sg 3) : kG p l e room_1 s m #[Value.ref b] below meth c0 Q A 16 (WX D Y A sg al []) (kkC c sg) (kkS c sg) 324 [(11, .int (nI srt)), (10, .int (nI pp)), (9, .int (nI j)), (8, .int v), (7, .int n), (6, .int t), (5, .int 1), (4, .int (nI (sN sg 5))), (3, .int (nI (sN sg 3))), (2, .int (nI (sN sg 2))), (1, .ref (al 0 0)), (0, .ref (Y 6))] [] := by
  refine k_iload C0 dL_law_324 3 rfl ?_
  refine k_ldc C0 (v := 100001) dL_law_326 (tC 151 rfl rfl) ?_
  refine k_callS C0 K0 dL_law_328 (ct_low l D Y A (WX D Y A sg al []) v 100001 (by decide) (by decide)) gkL_69 hyL_low rfl (by exact Nat.le_of_ble_eq_true rfl) ⟨Nat.le_of_ble_eq_true rfl, Nat.le_of_ble_eq_true rfl⟩ (kk_roomP P (by omega)) (fun E => kX_no E) (fun q1 => k_ex (B := q1 < 100001) (fun H h => h.1) (fun hq1 => k_W (V' := WX D Y A sg al []) (fun H h => h.2) (k_wid (k2 := kkC c sg) (n2 := kkS c sg) (Nat.le_refl _) (Nat.le_refl _) ?_)))
  refine k_istore C0 [(12, _), (11, _), (10, _), (9, _), (8, _), (7, _), (6, _), (5, _), (4, _), (3, _), (2, _), (1, _), (0, _)] dL_law_331 (by decide) rfl ?_
  refine k_aload_n C0 dL_law_333 11 rfl ?_
  refine k_iload C0 dL_law_334 2 rfl ?_
  refine k_iload C0 dL_law_336 3 rfl ?_
  refine k_iload C0 dL_law_338 0 rfl ?_
  have P2 : PI (c + 1) (sI sg 7 pp (nI j).toNatClampNeg (nI q1)) := pi_setPrice P (p := pp) hp hj (by omega)
  obtain ⟨⟨u1, u2⟩, ⟨u3, u4⟩, u5, u6⟩ := kk_upP (c := c) (sg := sg) (sg' := (sI sg 7 pp (nI j).toNatClampNeg (nI q1))) (ph_same (sg := sg) (mc := 0) (ms := 0) rfl (by decide) (by decide)) P2 (by omega)
  refine k_callV C0 K0 dL_law_340 (cc_setPrice l D Y A sg al [] (P.lw 1 (by decide)) pp j hp hj (nI q1) (nI_pos' (by omega)) (nI_le (b := 100000) (by omega) (by decide))) gkL_84 hyX5_setPrice (c_recv (sg := sg) (al := al) K0 0 0 rfl rfl rfl) rfl (by exact Nat.le_of_ble_eq_true rfl) ⟨Nat.le_of_ble_eq_true rfl, Nat.le_of_ble_eq_true rfl⟩ ⟨u3, u4⟩ (fun E => kX_no E) (fun _ => k_W (V' := WX D Y A (sI sg 7 pp (nI j).toNatClampNeg (nI q1)) al []) (fun H h => h) (k_wid u1 u2 ?_))
  refine k_pop C0 dL_law_343 rfl ?_
  refine k_aload_n C0 dL_law_344 11 rfl ?_
  refine k_iload C0 dL_law_345 2 rfl ?_
  refine k_iload C0 dL_law_347 3 rfl ?_
  refine k_iload C0 dL_law_349 0 rfl ?_
  have P3 : PI (c + 1 + 1) (sI (sI sg 7 pp (nI j).toNatClampNeg (nI q1)) 7 pp (nI j).toNatClampNeg (nI q1)) := pi_setPrice P2 (p := pp) hp hj (by omega)
  obtain ⟨⟨w1, w2⟩, ⟨w3, w4⟩, w5, w6⟩ := kk_upP (c := (c + 1)) (sg := (sI sg 7 pp (nI j).toNatClampNeg (nI q1))) (sg' := (sI (sI sg 7 pp (nI j).toNatClampNeg (nI q1)) 7 pp (nI j).toNatClampNeg (nI q1))) (ph_same (sg := (sI sg 7 pp (nI j).toNatClampNeg (nI q1))) (mc := 0) (ms := 0) rfl (by decide) (by decide)) P3 (by omega)
  refine k_callV C0 K0 dL_law_351 (cc_setPrice l D Y A (sI sg 7 pp (nI j).toNatClampNeg (nI q1)) al [] (P2.lw 1 (by decide)) pp j hp hj (nI q1) (nI_pos' (by omega)) (nI_le (b := 100000) (by omega) (by decide))) gkL_84 hyX5_setPrice (c_recv (sg := (sI sg 7 pp (nI j).toNatClampNeg (nI q1))) (al := al) K0 0 0 rfl rfl rfl) rfl (by exact Nat.le_of_ble_eq_true rfl) ⟨Nat.le_of_ble_eq_true rfl, Nat.le_of_ble_eq_true rfl⟩ ⟨w3, w4⟩ (fun E => kX_no E) (fun _ => k_W (V' := WX D Y A (sI (sI sg 7 pp (nI j).toNatClampNeg (nI q1)) 7 pp (nI j).toNatClampNeg (nI q1)) al []) (fun H h => h) (k_wid w1 w2 ?_))
  refine k_iload C0 dL_law_354 0 rfl ?_
  refine k_icmp_ne C0 363 dL_law_356 (by decide) (fun zz => absurd (show c_price (sI sg 7 pp (nI j).toNatClampNeg (nI q1)) pp j = nI q1 from up3_at) zz) (fun _ => ?_)
  refine k_iconst C0 1 dL_law_359 (by decide) ?_
  refine k_goto C0 364 dL_law_360 (by decide) ?_
  refine k_istore C0 [(5, _), (12, _), (11, _), (10, _), (9, _), (8, _), (7, _), (6, _), (4, _), (3, _), (2, _), (1, _), (0, _)] dL_law_364 (by decide) rfl ?_
  refine k_goto C0 826 dL_law_366 (by decide) ?_
  refine k_lv [6, 7, 0, 8, 9, 10, 11, 12] rfl ?_
  exact (gE (sI (sI sg 7 pp (nI j).toNatClampNeg (nI q1)) 7 pp (nI j).toNatClampNeg (nI q1)) al _ _ _ _ P3 rfl rfl rfl rfl)
  
set_option maxRecDepth 100000 in
set_option maxHeartbeats 4000000 in
theorem lc_buy {p : Program} {l : Launch} {e : Env} {s : State} {m : MethodId} {below : List Frame} {meth : Method} {c0 : Code} {Q : State → Prop} {A : Nat → Prop} {D : va_G} {Y : Nat → Nat} {b : Nat} {sg : Sg} {al : Nat → Nat → Nat} {c : Nat} {n t : Int32} (C0 : CallFix p m c0 cL_law 16 s #[Value.ref b] TT RL) (K0 : PK D Y A s) (hlt : l.stackTraces = false) (P : PI c sg) (hc : c < 580) (gE : ∀ (sg' : Sg) (al' : Nat → Nat → Nat) (r0 : Nat) (x2 x3 x5 : Int32), PI (c + 2) sg' → r0 = al' 0 0 → x2 = nI (sN sg' 2) → x3 = nI (sN sg' 3) → x5 = nI (sN sg' 5) → kG p l e room_1 s m #[Value.ref b] below meth c0 Q A 16 (WX D Y A sg' al' []) (kkC (c + 2) sg') (kkS (c + 2) sg') 826 [(7, .int n), (6, .int t), (5, .int 1), (4, .int x5), (3, .int x3), (2, .int x2), (1, .ref r0), (0, .ref (Y 6))] []) (v : Int32) (srt pp j : Nat) (hj : j < 5) (hp : pp < sN sg 3) : kG p l e room_1 s m #[Value.ref b] below meth c0 Q A 16 (WX D Y A sg al []) (kkC c sg) (kkS c sg) 376 [(11, .int (nI srt)), (10, .int (nI pp)), (9, .int (nI j)), (8, .int v), (7, .int n), (6, .int t), (5, .int 1), (4, .int (nI (sN sg 5))), (3, .int (nI (sN sg 3))), (2, .int (nI (sN sg 2))), (1, .ref (al 0 0)), (0, .ref (Y 6))] [] := by
  obtain ⟨a, bb, tt, ha, hb, ht, e3, e4, e5, hle, h6⟩ := pi_saleNew P hp hj
  refine k_aload_n C0 dL_law_376 10 rfl ?_
  refine k_callV C0 K0 dL_law_377 (cc_salesN l D Y A sg al (P.lw 2 (by decide))) gkL_62 hyX5_sales (c_recv (sg := sg) (al := al) K0 0 0 rfl rfl rfl) rfl (by exact Nat.le_of_ble_eq_true rfl) ⟨Nat.le_of_ble_eq_true rfl, Nat.le_of_ble_eq_true rfl⟩ (kk_roomP P (by omega)) (fun E => kX_no E) (fun _ => (k_wid (k2 := kkC c sg) (n2 := kkS c sg) (Nat.le_refl _) (Nat.le_refl _) ?_))
  refine k_istore C0 [(12, _), (11, _), (10, _), (9, _), (8, _), (7, _), (6, _), (5, _), (4, _), (3, _), (2, _), (1, _), (0, _)] dL_law_380 (by decide) rfl ?_
  refine k_aload_n C0 dL_law_382 11 rfl ?_
  refine k_iload C0 dL_law_383 2 rfl ?_
  refine k_iload C0 dL_law_385 3 rfl ?_
  have P2 : PI (c + 1) (c_sell sg pp j (c_price sg pp j) 0) := pi_buy P (by omega) hp hj
  obtain ⟨⟨u1, u2⟩, ⟨u3, u4⟩, u5, u6⟩ := kk_upP (c := c) (sg := sg) (sg' := (c_sell sg pp j (c_price sg pp j) 0)) (ph_sell sg pp j _ _) P2 (by omega)
  refine k_callV C0 K0 dL_law_387 (cc_buy l D Y A sg al (P.lw 1 (by decide)) pp j hp hj (P.r3 pp hp) (P.land hj).1 (P.land hj).2 (P.lw 2 (by decide)) (by have := P.lt (by omega); omega)) gkL_88 hyX5_buy (c_recv (sg := sg) (al := al) K0 0 0 rfl rfl rfl) rfl (by exact Nat.le_of_ble_eq_true rfl) ⟨Nat.le_of_ble_eq_true rfl, Nat.le_of_ble_eq_true rfl⟩ ⟨u3, u4⟩ (fun E => kX_no E) (fun al2 => k_ex (B := al2 0 0 = al 0 0) (fun H h => h.1) (fun hal => k_W (V' := WX D Y A (c_sell sg pp j (c_price sg pp j) 0) al2 []) (fun H h => h.2) (k_wid u1 u2 ?_)))
  refine k_iload C0 dL_law_390 0 rfl ?_
  refine k_icmp_ne C0 419 dL_law_392 (by decide) (fun zz => absurd rfl zz) (fun _ => ?_)
  rw [← hal]
  refine k_aload_n C0 dL_law_395 11 rfl ?_
  refine k_callV C0 K0 dL_law_396 (cc_salesN l D Y A (c_sell sg pp j (c_price sg pp j) 0) al2 (P2.lw 2 (by decide))) gkL_62 hyX5_sales (c_recv (sg := (c_sell sg pp j (c_price sg pp j) 0)) (al := al2) K0 0 0 rfl rfl rfl) rfl (by exact Nat.le_of_ble_eq_true rfl) ⟨Nat.le_of_ble_eq_true rfl, Nat.le_of_ble_eq_true rfl⟩ (kk_roomP P2 (by omega)) (fun E => kX_no E) (fun _ => (k_wid (k2 := kkC (c + 1) (c_sell sg pp j (c_price sg pp j) 0)) (n2 := kkS (c + 1) (c_sell sg pp j (c_price sg pp j) 0)) (Nat.le_refl _) (Nat.le_refl _) ?_))
  refine k_iload C0 dL_law_399 0 rfl ?_
  refine k_iconst C0 1 dL_law_401 (by decide) ?_
  refine k_iadd C0 dL_law_402 ?_
  refine k_icmp_ne C0 419 dL_law_403 (by decide) (fun zz => absurd (by rw [c_sell_N]; exact (nI_1 _).symm) zz) (fun _ => ?_)
  refine k_aload_n C0 dL_law_406 11 rfl ?_
  refine k_iload C0 dL_law_407 0 rfl ?_
  refine k_callS C0 K0 dL_law_409 (ct_sale l D Y A (c_sell sg pp j (c_price sg pp j) 0) al2 (P2.lw 2 (by decide)) (sN sg 4) (by rw [c_sell_N]; exact Nat.lt_succ_self _) a bb tt ha hb ht e3 e4 e5 hle h6) gkL_91 hyL_sale rfl (by exact Nat.le_of_ble_eq_true rfl) ⟨Nat.le_of_ble_eq_true rfl, Nat.le_of_ble_eq_true rfl⟩ (kk_roomP P2 (by omega)) (fun E => kX_no E) (fun _ => (k_wid (k2 := kkC (c + 1) (c_sell sg pp j (c_price sg pp j) 0)) (n2 := kkS (c + 1) (c_sell sg pp j (c_price sg pp j) 0)) (Nat.le_refl _) (Nat.le_refl _) ?_))
  refine k_if_eq C0 419 dL_law_412 (by decide) (fun zz => absurd zz (by decide)) (fun _ => ?_)
  refine k_iconst C0 1 dL_law_415 (by decide) ?_
  refine k_goto C0 420 dL_law_416 (by decide) ?_
  refine k_istore C0 [(5, _), (12, _), (11, _), (10, _), (9, _), (8, _), (7, _), (6, _), (4, _), (3, _), (2, _), (1, _), (0, _)] dL_law_420 (by decide) rfl ?_
  refine k_goto C0 826 dL_law_422 (by decide) ?_
  refine k_lv [6, 7, 0, 8, 9, 10, 11, 12] rfl ?_
  exact (k_wid (kk_suc (c + 1) (c_sell sg pp j (c_price sg pp j) 0)).1 (kk_suc (c + 1) (c_sell sg pp j (c_price sg pp j) 0)).2 (gE (c_sell sg pp j (c_price sg pp j) 0) al2 _ _ _ _ (P2.suc) rfl (congrArg nI (c_sell_2 sg pp j (c_price sg pp j) 0 20 2 0 (by decide) (fun _ => by decide) (fun z => absurd z (by decide))).symm) (congrArg nI (c_sell_2 sg pp j (c_price sg pp j) 0 20 3 0 (by decide) (fun _ => by decide) (fun z => absurd z (by decide))).symm) (congrArg nI (c_sell_2 sg pp j (c_price sg pp j) 0 20 5 0 (by decide) (fun _ => by decide) (fun z => absurd z (by decide))).symm)))
  
set_option maxRecDepth 100000 in
set_option maxHeartbeats 4000000 in
theorem lc_subscribe {p : Program} {l : Launch} {e : Env} {s : State} {m : MethodId} {below : List Frame} {meth : Method} {c0 : Code} {Q : State → Prop} {A : Nat → Prop} {D : va_G} {Y : Nat → Nat} {b : Nat} {sg : Sg} {al : Nat → Nat → Nat} {c : Nat} {n t : Int32} (C0 : CallFix p m c0 cL_law 16 s #[Value.ref b] TT RL) (K0 : PK D Y A s) (hlt : l.stackTraces = false) (P : PI c sg) (hc : c < 580) (gE : ∀ (sg' : Sg) (al' : Nat → Nat → Nat) (r0 : Nat) (x2 x3 x5 : Int32), PI (c + 2) sg' → r0 = al' 0 0 → x2 = nI (sN sg' 2) → x3 = nI (sN sg' 3) → x5 = nI (sN sg' 5) → kG p l e room_1 s m #[Value.ref b] below meth c0 Q A 16 (WX D Y A sg' al' []) (kkC (c + 2) sg') (kkS (c + 2) sg') 826 [(7, .int n), (6, .int t), (5, .int 1), (4, .int x5), (3, .int x3), (2, .int x2), (1, .ref r0), (0, .ref (Y 6))] []) (v : Int32) (srt pp j : Nat) (hj : j < 5) (hp : pp < sN sg 3) (hN : sN sg 5 < 40) : kG p l e room_1 s m #[Value.ref b] below meth c0 Q A 16 (WX D Y A sg al []) (kkC c sg) (kkS c sg) 439 [(11, .int (nI srt)), (10, .int (nI pp)), (9, .int (nI j)), (8, .int v), (7, .int n), (6, .int t), (5, .int 1), (4, .int (nI (sN sg 5))), (3, .int (nI (sN sg 3))), (2, .int (nI (sN sg 2))), (1, .ref (al 0 0)), (0, .ref (Y 6))] [] := by
  refine k_iconst C0 1 dL_law_439 (by decide) ?_
  refine k_iload C0 dL_law_440 3 rfl ?_
  refine k_bipush C0 60 dL_law_442 (by decide) ?_
  refine k_callS C0 K0 dL_law_444 (ct_low l D Y A (WX D Y A sg al []) v 60 (by decide) (by decide)) gkL_69 hyL_low rfl (by exact Nat.le_of_ble_eq_true rfl) ⟨Nat.le_of_ble_eq_true rfl, Nat.le_of_ble_eq_true rfl⟩ (kk_roomP P (by omega)) (fun E => kX_no E) (fun q1 => k_ex (B := q1 < 60) (fun H h => h.1) (fun hq1 => k_W (V' := WX D Y A sg al []) (fun H h => h.2) (k_wid (k2 := kkC c sg) (n2 := kkS c sg) (Nat.le_refl _) (Nat.le_refl _) ?_)))
  refine k_iadd C0 dL_law_447 ?_
  rw [show (1 : Int32) + nI q1 = nI (1 + q1) from nI_add 1 q1]
  refine k_istore C0 [(12, _), (11, _), (10, _), (9, _), (8, _), (7, _), (6, _), (5, _), (4, _), (3, _), (2, _), (1, _), (0, _)] dL_law_448 (by decide) rfl ?_
  refine k_aload_n C0 dL_law_450 11 rfl ?_
  refine k_iload C0 dL_law_451 2 rfl ?_
  refine k_iload C0 dL_law_453 3 rfl ?_
  refine k_iload C0 dL_law_455 0 rfl ?_
  refine k_iload C0 dL_law_457 4 rfl ?_
  refine k_bipush C0 12 dL_law_459 (by decide) ?_
  refine k_ishr C0 dL_law_461 ?_
  refine k_iconst C0 2 dL_law_462 (by decide) ?_
  refine k_callS C0 K0 dL_law_463 (ct_low l D Y A (WX D Y A sg al []) (v >>> (12 &&& 31)) 2 (by decide) (by decide)) gkL_69 hyL_low rfl (by exact Nat.le_of_ble_eq_true rfl) ⟨Nat.le_of_ble_eq_true rfl, Nat.le_of_ble_eq_true rfl⟩ (kk_roomP P (by omega)) (fun E => kX_no E) (fun q2 => k_ex (B := q2 < 2) (fun H h => h.1) (fun hq2 => k_W (V' := WX D Y A sg al []) (fun H h => h.2) (k_wid (k2 := kkC c sg) (n2 := kkS c sg) (Nat.le_refl _) (Nat.le_refl _) ?_)))
  refine k_if_ne C0 473 dL_law_466 (by decide) (fun h466 => ?_) (fun h466 => ?_)
  ·
    refine k_iconst C0 0 dL_law_473 (by decide) ?_
    have P2 : PI (c + 1) (c_add (n_sub sg j pp (gSub 0 (sg.1 0 0 5 + nI (1 + q1)))) 3) := pi_subscribe P hp hj (by omega) (by omega) (by decide) hN
    obtain ⟨⟨u1, u2⟩, ⟨u3, u4⟩, u5, u6⟩ := kk_upP (c := c) (sg := sg) (sg' := (c_add (n_sub sg j pp (gSub 0 (sg.1 0 0 5 + nI (1 + q1)))) 3)) (ph_add3 sg j pp _) P2 (by omega)
    refine k_callV C0 K0 dL_law_474 (cc_subscribe l D Y A sg al (P.lw 1 (by decide)) pp j hp hj (nI (1 + q1)) 0 (by decide) (nI_le (a := 1) (by omega) (by omega)) (nI_le (b := 60) (by omega) (by decide)) (P.lw 3 (by decide)) hN) gkL_94 hyX5_subscribe (c_recv (sg := sg) (al := al) K0 0 0 rfl rfl rfl) rfl (by exact Nat.le_of_ble_eq_true rfl) ⟨Nat.le_of_ble_eq_true rfl, Nat.le_of_ble_eq_true rfl⟩ ⟨u3, u4⟩ (fun E => kX_no E) (fun al2 => k_ex (B := al2 0 0 = al 0 0) (fun H h => h.1) (fun hal => k_W (V' := WX D Y A (c_add (n_sub sg j pp (gSub 0 (sg.1 0 0 5 + nI (1 + q1)))) 3) al2 []) (fun H h => h.2) (k_wid u1 u2 ?_)))
    refine k_iload C0 dL_law_477 8 rfl ?_
    refine k_icmp_ne C0 511 dL_law_479 (by decide) (fun zz => absurd rfl zz) (fun _ => ?_)
    rw [← hal]
    refine k_aload_n C0 dL_law_482 11 rfl ?_
    refine k_iload C0 dL_law_483 8 rfl ?_
    refine k_callV C0 K0 dL_law_485 (cc_next l D Y A (c_add (n_sub sg j pp (gSub 0 (sg.1 0 0 5 + nI (1 + q1)))) 3) al2 [] (P2.lw 3 (by decide)) (sN sg 5) (by rw [sN_add]; exact Nat.lt_succ_self _)) gkL_98 hyX5_next (c_recv (sg := (c_add (n_sub sg j pp (gSub 0 (sg.1 0 0 5 + nI (1 + q1)))) 3)) (al := al2) K0 0 0 rfl rfl rfl) rfl (by exact Nat.le_of_ble_eq_true rfl) ⟨Nat.le_of_ble_eq_true rfl, Nat.le_of_ble_eq_true rfl⟩ (kk_roomP P2 (by omega)) (fun E => kX_no E) (fun _ => (k_wid (k2 := kkC (c + 1) (c_add (n_sub sg j pp (gSub 0 (sg.1 0 0 5 + nI (1 + q1)))) 3)) (n2 := kkS (c + 1) (c_add (n_sub sg j pp (gSub 0 (sg.1 0 0 5 + nI (1 + q1)))) 3)) (Nat.le_refl _) (Nat.le_refl _) ?_))
    refine k_aload_n C0 dL_law_488 11 rfl ?_
    refine k_callV C0 K0 dL_law_489 (cc_day l D Y A (c_add (n_sub sg j pp (gSub 0 (sg.1 0 0 5 + nI (1 + q1)))) 3) al2 []) gkL_33 hyX5_day (c_recv (sg := (c_add (n_sub sg j pp (gSub 0 (sg.1 0 0 5 + nI (1 + q1)))) 3)) (al := al2) K0 0 0 rfl rfl rfl) rfl (by exact Nat.le_of_ble_eq_true rfl) ⟨Nat.le_of_ble_eq_true rfl, Nat.le_of_ble_eq_true rfl⟩ (kk_roomP P2 (by omega)) (fun E => kX_no E) (fun _ => (k_wid (k2 := kkC (c + 1) (c_add (n_sub sg j pp (gSub 0 (sg.1 0 0 5 + nI (1 + q1)))) 3)) (n2 := kkS (c + 1) (c_add (n_sub sg j pp (gSub 0 (sg.1 0 0 5 + nI (1 + q1)))) 3)) (Nat.le_refl _) (Nat.le_refl _) ?_))
    refine k_iload C0 dL_law_492 0 rfl ?_
    refine k_iadd C0 dL_law_494 ?_
    refine k_icmp_ne C0 511 dL_law_495 (by decide) (fun zz => absurd (sub_next sg j pp _ _) zz) (fun _ => ?_)
    refine k_aload_n C0 dL_law_498 11 rfl ?_
    refine k_iload C0 dL_law_499 8 rfl ?_
    refine k_callV C0 K0 dL_law_501 (cc_payments l D Y A (c_add (n_sub sg j pp (gSub 0 (sg.1 0 0 5 + nI (1 + q1)))) 3) al2 [] (P2.lw 3 (by decide)) (sN sg 5) (by rw [sN_add]; exact Nat.lt_succ_self _)) gkL_101 hyX5_payments (c_recv (sg := (c_add (n_sub sg j pp (gSub 0 (sg.1 0 0 5 + nI (1 + q1)))) 3)) (al := al2) K0 0 0 rfl rfl rfl) rfl (by exact Nat.le_of_ble_eq_true rfl) ⟨Nat.le_of_ble_eq_true rfl, Nat.le_of_ble_eq_true rfl⟩ (kk_roomP P2 (by omega)) (fun E => kX_no E) (fun _ => (k_wid (k2 := kkC (c + 1) (c_add (n_sub sg j pp (gSub 0 (sg.1 0 0 5 + nI (1 + q1)))) 3)) (n2 := kkS (c + 1) (c_add (n_sub sg j pp (gSub 0 (sg.1 0 0 5 + nI (1 + q1)))) 3)) (Nat.le_refl _) (Nat.le_refl _) ?_))
    refine k_if_ne C0 511 dL_law_504 (by decide) (fun zz => absurd (sub_pay sg j pp _ _) zz) (fun _ => ?_)
    refine k_iconst C0 1 dL_law_507 (by decide) ?_
    refine k_goto C0 512 dL_law_508 (by decide) ?_
    refine k_istore C0 [(5, _), (12, _), (11, _), (10, _), (9, _), (8, _), (7, _), (6, _), (4, _), (3, _), (2, _), (1, _), (0, _)] dL_law_512 (by decide) rfl ?_
    refine k_iinc C0 (nI (sN sg 5 + 1)) [(4, _), (5, _), (12, _), (11, _), (10, _), (9, _), (8, _), (7, _), (6, _), (3, _), (2, _), (1, _), (0, _)] dL_law_514 8 rfl (nI_1 _) (by decide) rfl ?_
    refine k_goto C0 826 dL_law_517 (by decide) ?_
    refine k_lv [7, 8, 1, 0, 9, 10, 11, 12] rfl ?_
    exact (k_wid (kk_suc (c + 1) (c_add (n_sub sg j pp (gSub 0 (sg.1 0 0 5 + nI (1 + q1)))) 3)).1 (kk_suc (c + 1) (c_add (n_sub sg j pp (gSub 0 (sg.1 0 0 5 + nI (1 + q1)))) 3)).2 (gE (c_add (n_sub sg j pp (gSub 0 (sg.1 0 0 5 + nI (1 + q1)))) 3) al2 _ _ _ _ (P2.suc) rfl (congrArg nI (sN_add (n_sub sg j pp (gSub 0 (sg.1 0 0 5 + nI (1 + q1)))) 3 2).symm) (congrArg nI (sN_add (n_sub sg j pp (gSub 0 (sg.1 0 0 5 + nI (1 + q1)))) 3 3).symm) (congrArg nI (sN_add (n_sub sg j pp (gSub 0 (sg.1 0 0 5 + nI (1 + q1)))) 3 5).symm)))
    
  ·
    refine k_iconst C0 1 dL_law_469 (by decide) ?_
    refine k_goto C0 474 dL_law_470 (by decide) ?_
    have P2 : PI (c + 1) (c_add (n_sub sg j pp (gSub 1 (sg.1 0 0 5 + nI (1 + q1)))) 3) := pi_subscribe P hp hj (by omega) (by omega) (by decide) hN
    obtain ⟨⟨u1, u2⟩, ⟨u3, u4⟩, u5, u6⟩ := kk_upP (c := c) (sg := sg) (sg' := (c_add (n_sub sg j pp (gSub 1 (sg.1 0 0 5 + nI (1 + q1)))) 3)) (ph_add3 sg j pp _) P2 (by omega)
    refine k_callV C0 K0 dL_law_474 (cc_subscribe l D Y A sg al (P.lw 1 (by decide)) pp j hp hj (nI (1 + q1)) 1 (by decide) (nI_le (a := 1) (by omega) (by omega)) (nI_le (b := 60) (by omega) (by decide)) (P.lw 3 (by decide)) hN) gkL_94 hyX5_subscribe (c_recv (sg := sg) (al := al) K0 0 0 rfl rfl rfl) rfl (by exact Nat.le_of_ble_eq_true rfl) ⟨Nat.le_of_ble_eq_true rfl, Nat.le_of_ble_eq_true rfl⟩ ⟨u3, u4⟩ (fun E => kX_no E) (fun al2 => k_ex (B := al2 0 0 = al 0 0) (fun H h => h.1) (fun hal => k_W (V' := WX D Y A (c_add (n_sub sg j pp (gSub 1 (sg.1 0 0 5 + nI (1 + q1)))) 3) al2 []) (fun H h => h.2) (k_wid u1 u2 ?_)))
    refine k_iload C0 dL_law_477 8 rfl ?_
    refine k_icmp_ne C0 511 dL_law_479 (by decide) (fun zz => absurd rfl zz) (fun _ => ?_)
    rw [← hal]
    refine k_aload_n C0 dL_law_482 11 rfl ?_
    refine k_iload C0 dL_law_483 8 rfl ?_
    refine k_callV C0 K0 dL_law_485 (cc_next l D Y A (c_add (n_sub sg j pp (gSub 1 (sg.1 0 0 5 + nI (1 + q1)))) 3) al2 [] (P2.lw 3 (by decide)) (sN sg 5) (by rw [sN_add]; exact Nat.lt_succ_self _)) gkL_98 hyX5_next (c_recv (sg := (c_add (n_sub sg j pp (gSub 1 (sg.1 0 0 5 + nI (1 + q1)))) 3)) (al := al2) K0 0 0 rfl rfl rfl) rfl (by exact Nat.le_of_ble_eq_true rfl) ⟨Nat.le_of_ble_eq_true rfl, Nat.le_of_ble_eq_true rfl⟩ (kk_roomP P2 (by omega)) (fun E => kX_no E) (fun _ => (k_wid (k2 := kkC (c + 1) (c_add (n_sub sg j pp (gSub 1 (sg.1 0 0 5 + nI (1 + q1)))) 3)) (n2 := kkS (c + 1) (c_add (n_sub sg j pp (gSub 1 (sg.1 0 0 5 + nI (1 + q1)))) 3)) (Nat.le_refl _) (Nat.le_refl _) ?_))
    refine k_aload_n C0 dL_law_488 11 rfl ?_
    refine k_callV C0 K0 dL_law_489 (cc_day l D Y A (c_add (n_sub sg j pp (gSub 1 (sg.1 0 0 5 + nI (1 + q1)))) 3) al2 []) gkL_33 hyX5_day (c_recv (sg := (c_add (n_sub sg j pp (gSub 1 (sg.1 0 0 5 + nI (1 + q1)))) 3)) (al := al2) K0 0 0 rfl rfl rfl) rfl (by exact Nat.le_of_ble_eq_true rfl) ⟨Nat.le_of_ble_eq_true rfl, Nat.le_of_ble_eq_true rfl⟩ (kk_roomP P2 (by omega)) (fun E => kX_no E) (fun _ => (k_wid (k2 := kkC (c + 1) (c_add (n_sub sg j pp (gSub 1 (sg.1 0 0 5 + nI (1 + q1)))) 3)) (n2 := kkS (c + 1) (c_add (n_sub sg j pp (gSub 1 (sg.1 0 0 5 + nI (1 + q1)))) 3)) (Nat.le_refl _) (Nat.le_refl _) ?_))
    refine k_iload C0 dL_law_492 0 rfl ?_
    refine k_iadd C0 dL_law_494 ?_
    refine k_icmp_ne C0 511 dL_law_495 (by decide) (fun zz => absurd (sub_next sg j pp _ _) zz) (fun _ => ?_)
    refine k_aload_n C0 dL_law_498 11 rfl ?_
    refine k_iload C0 dL_law_499 8 rfl ?_
    refine k_callV C0 K0 dL_law_501 (cc_payments l D Y A (c_add (n_sub sg j pp (gSub 1 (sg.1 0 0 5 + nI (1 + q1)))) 3) al2 [] (P2.lw 3 (by decide)) (sN sg 5) (by rw [sN_add]; exact Nat.lt_succ_self _)) gkL_101 hyX5_payments (c_recv (sg := (c_add (n_sub sg j pp (gSub 1 (sg.1 0 0 5 + nI (1 + q1)))) 3)) (al := al2) K0 0 0 rfl rfl rfl) rfl (by exact Nat.le_of_ble_eq_true rfl) ⟨Nat.le_of_ble_eq_true rfl, Nat.le_of_ble_eq_true rfl⟩ (kk_roomP P2 (by omega)) (fun E => kX_no E) (fun _ => (k_wid (k2 := kkC (c + 1) (c_add (n_sub sg j pp (gSub 1 (sg.1 0 0 5 + nI (1 + q1)))) 3)) (n2 := kkS (c + 1) (c_add (n_sub sg j pp (gSub 1 (sg.1 0 0 5 + nI (1 + q1)))) 3)) (Nat.le_refl _) (Nat.le_refl _) ?_))
    refine k_if_ne C0 511 dL_law_504 (by decide) (fun zz => absurd (sub_pay sg j pp _ _) zz) (fun _ => ?_)
    refine k_iconst C0 1 dL_law_507 (by decide) ?_
    refine k_goto C0 512 dL_law_508 (by decide) ?_
    refine k_istore C0 [(5, _), (12, _), (11, _), (10, _), (9, _), (8, _), (7, _), (6, _), (4, _), (3, _), (2, _), (1, _), (0, _)] dL_law_512 (by decide) rfl ?_
    refine k_iinc C0 (nI (sN sg 5 + 1)) [(4, _), (5, _), (12, _), (11, _), (10, _), (9, _), (8, _), (7, _), (6, _), (3, _), (2, _), (1, _), (0, _)] dL_law_514 8 rfl (nI_1 _) (by decide) rfl ?_
    refine k_goto C0 826 dL_law_517 (by decide) ?_
    refine k_lv [7, 8, 1, 0, 9, 10, 11, 12] rfl ?_
    exact (k_wid (kk_suc (c + 1) (c_add (n_sub sg j pp (gSub 1 (sg.1 0 0 5 + nI (1 + q1)))) 3)).1 (kk_suc (c + 1) (c_add (n_sub sg j pp (gSub 1 (sg.1 0 0 5 + nI (1 + q1)))) 3)).2 (gE (c_add (n_sub sg j pp (gSub 1 (sg.1 0 0 5 + nI (1 + q1)))) 3) al2 _ _ _ _ (P2.suc) rfl (congrArg nI (sN_add (n_sub sg j pp (gSub 1 (sg.1 0 0 5 + nI (1 + q1)))) 3 2).symm) (congrArg nI (sN_add (n_sub sg j pp (gSub 1 (sg.1 0 0 5 + nI (1 + q1)))) 3 3).symm) (congrArg nI (sN_add (n_sub sg j pp (gSub 1 (sg.1 0 0 5 + nI (1 + q1)))) 3 5).symm)))
    
set_option maxRecDepth 100000 in
set_option maxHeartbeats 4000000 in
theorem lc_refundX {p : Program} {l : Launch} {e : Env} {s : State} {m : MethodId} {below : List Frame} {meth : Method} {c0 : Code} {Q : State → Prop} {A : Nat → Prop} {D : va_G} {Y : Nat → Nat} {b : Nat} {sg : Sg} {al : Nat → Nat → Nat} {c : Nat} {n t : Int32} (C0 : CallFix p m c0 cL_law 16 s #[Value.ref b] TT RL) (K0 : PK D Y A s) (hlt : l.stackTraces = false) (P : PI c sg) (hc : c < 580) (gE : ∀ (sg' : Sg) (al' : Nat → Nat → Nat) (r0 : Nat) (x2 x3 x5 : Int32), PI (c + 2) sg' → r0 = al' 0 0 → x2 = nI (sN sg' 2) → x3 = nI (sN sg' 3) → x5 = nI (sN sg' 5) → kG p l e room_1 s m #[Value.ref b] below meth c0 Q A 16 (WX D Y A sg' al' []) (kkC (c + 2) sg') (kkS (c + 2) sg') 826 [(7, .int n), (6, .int t), (5, .int 1), (4, .int x5), (3, .int x3), (2, .int x2), (1, .ref r0), (0, .ref (Y 6))] []) (v : Int32) (srt pp j : Nat) (i : Nat) {F LOC : Nat} (hF : F ≤ 13) (hL : LOC ≤ 310) (hM : CT l yX5_refund (Cond.code yX5_refund cX5_refund 3 (some .int)) F LOC D Y A [.ref (al 0 0), .int (nI i)] (WX D Y A sg al []) (fun _ : Unit => none) (fun (_ : Unit) (_ : Heap) => False) (xE "java/lang/IllegalStateException" (WX D Y A sg al [])) 1 6) : kG p l e room_1 s m #[Value.ref b] below meth c0 Q A 16 (WX D Y A sg al []) (kkC c sg) (kkS c sg) 545 [(12, .int (nI i)), (11, .int (nI srt)), (10, .int (nI pp)), (9, .int (nI j)), (8, .int v), (7, .int n), (6, .int t), (5, .int 1), (4, .int (nI (sN sg 5))), (3, .int (nI (sN sg 3))), (2, .int (nI (sN sg 2))), (1, .ref (al 0 0)), (0, .ref (Y 6))] [] := by
  refine k_aload_n C0 dL_law_545 11 rfl ?_
  refine k_callV C0 K0 dL_law_546 (cc_takings l D Y A sg al []) gkL_40 hyX5_takings (c_recv (sg := sg) (al := al) K0 0 0 rfl rfl rfl) rfl (by exact Nat.le_of_ble_eq_true rfl) ⟨Nat.le_of_ble_eq_true rfl, Nat.le_of_ble_eq_true rfl⟩ (kk_roomP P (by omega)) (fun E => kX_no E) (fun _ => (k_wid (k2 := kkC c sg) (n2 := kkS c sg) (Nat.le_refl _) (Nat.le_refl _) ?_))
  refine k_istore C0 [(13, _), (12, _), (11, _), (10, _), (9, _), (8, _), (7, _), (6, _), (5, _), (4, _), (3, _), (2, _), (1, _), (0, _)] dL_law_549 (by decide) rfl ?_
  refine k_aload_n C0 dL_law_551 12 rfl ?_
  refine k_iload C0 dL_law_552 1 rfl ?_
  have P2 : PI (c + 1) sg := P.suc
  obtain ⟨⟨u1, u2⟩, ⟨u3, u4⟩, u5, u6⟩ := kk_upP (mc := 1) (ms := 6) (ph_same rfl (by decide) (by decide)) P2 (by omega)
  refine k_callSW C0 K0 dL_law_554 (lx_refund l D Y A sg al (nI i) hF hL hM) gkL_104 hyL_refund rfl (by exact Nat.le_of_ble_eq_true rfl) ⟨Nat.le_of_ble_eq_true rfl, Nat.le_of_ble_eq_true rfl⟩ ⟨u3, u4⟩ (fun E => kX_no E) (fun _ => k_W (V' := WX D Y A sg al []) (fun H h => h) (k_wid u1 u2 ?_))
  refine k_istore C0 [(14, _), (13, _), (12, _), (11, _), (10, _), (9, _), (8, _), (7, _), (6, _), (5, _), (4, _), (3, _), (2, _), (1, _), (0, _)] dL_law_557 (by decide) rfl ?_
  refine k_iload C0 dL_law_559 0 rfl ?_
  refine k_bipush C0 (-3) dL_law_561 (by decide) ?_
  refine k_icmp_ne C0 583 dL_law_563 (by decide) (fun zz => absurd (by decide) zz) (fun _ => ?_)
  refine k_aload_n C0 dL_law_566 13 rfl ?_
  refine k_callV C0 K0 dL_law_567 (cc_takings l D Y A sg al []) gkL_40 hyX5_takings (c_recv (sg := sg) (al := al) K0 0 0 rfl rfl rfl) rfl (by exact Nat.le_of_ble_eq_true rfl) ⟨Nat.le_of_ble_eq_true rfl, Nat.le_of_ble_eq_true rfl⟩ (kk_roomP P2 (by omega)) (fun E => kX_no E) (fun _ => (k_wid (k2 := kkC (c + 1) sg) (n2 := kkS (c + 1) sg) (Nat.le_refl _) (Nat.le_refl _) ?_))
  refine k_iload C0 dL_law_570 1 rfl ?_
  refine k_icmp_ne C0 579 dL_law_572 (by decide) (fun zz => absurd rfl zz) (fun _ => ?_)
  refine k_iconst C0 1 dL_law_575 (by decide) ?_
  refine k_goto C0 622 dL_law_576 (by decide) ?_
  refine k_istore C0 [(5, _), (14, _), (13, _), (12, _), (11, _), (10, _), (9, _), (8, _), (7, _), (6, _), (4, _), (3, _), (2, _), (1, _), (0, _)] dL_law_622 (by decide) rfl ?_
  refine k_goto C0 826 dL_law_624 (by decide) ?_
  refine k_lv [8, 9, 0, 10, 11, 12, 13, 14] rfl ?_
  exact (k_wid (kk_suc (c + 1) sg).1 (kk_suc (c + 1) sg).2 (gE sg al _ _ _ _ (P2.suc) rfl rfl rfl rfl))
  
set_option maxRecDepth 100000 in
set_option maxHeartbeats 4000000 in
theorem lc_refundO {p : Program} {l : Launch} {e : Env} {s : State} {m : MethodId} {below : List Frame} {meth : Method} {c0 : Code} {Q : State → Prop} {A : Nat → Prop} {D : va_G} {Y : Nat → Nat} {b : Nat} {sg : Sg} {al : Nat → Nat → Nat} {c : Nat} {n t : Int32} (C0 : CallFix p m c0 cL_law 16 s #[Value.ref b] TT RL) (K0 : PK D Y A s) (hlt : l.stackTraces = false) (P : PI c sg) (hc : c < 580) (gE : ∀ (sg' : Sg) (al' : Nat → Nat → Nat) (r0 : Nat) (x2 x3 x5 : Int32), PI (c + 2) sg' → r0 = al' 0 0 → x2 = nI (sN sg' 2) → x3 = nI (sN sg' 3) → x5 = nI (sN sg' 5) → kG p l e room_1 s m #[Value.ref b] below meth c0 Q A 16 (WX D Y A sg' al' []) (kkC (c + 2) sg') (kkS (c + 2) sg') 826 [(7, .int n), (6, .int t), (5, .int 1), (4, .int x5), (3, .int x3), (2, .int x2), (1, .ref r0), (0, .ref (Y 6))] []) (v : Int32) (srt pp j : Nat) (i : Nat) (hi : i < sN sg 4) (hz : sg.1 4 i 8 = 0) (hq : sg.1 0 0 5 / 30 - sg.1 4 i 2 ≤ 3) : kG p l e room_1 s m #[Value.ref b] below meth c0 Q A 16 (WX D Y A sg al []) (kkC c sg) (kkS c sg) 545 [(12, .int (nI i)), (11, .int (nI srt)), (10, .int (nI pp)), (9, .int (nI j)), (8, .int v), (7, .int n), (6, .int t), (5, .int 1), (4, .int (nI (sN sg 5))), (3, .int (nI (sN sg 3))), (2, .int (nI (sN sg 2))), (1, .ref (al 0 0)), (0, .ref (Y 6))] [] := by
  obtain ⟨a, bb, tt, hh, ha, hh2, e3, e4, e5, e6, e7, hl⟩ := P.sale hi
  have ea : (c_book (sI sg 4 i 8 1) i (-1)).1 4 i 3 = nI a := ((congrFun (congrFun (cb_o (sI sg 4 i 8 1) i (-1) 4 (by decide) (by decide) (by decide)) i) 3).trans (up3_j (by decide) rfl)).trans e3
  have hz2 : ¬ (c_book (sI sg 4 i 8 1) i (-1)).1 4 i 8 = 0 := by
    rw [(congrFun (congrFun (cb_o (sI sg 4 i 8 1) i (-1) 4 (by decide) (by decide) (by decide)) i) 8).trans up3_at]
    decide
  have hi2 : i < sN (c_book (sI sg 4 i 8 1) i (-1)) 4 := Nat.lt_of_lt_of_eq hi (N_eq (sg := sI sg 4 i 8 1) (c_book_2 _ _ _) 4).symm
  have et : (c_book (sI sg 4 i 8 1) i (-1)).1 0 0 7 = sg.1 0 0 7 - nI a := by
    rw [(cb_0 (sI sg 4 i 8 1) i (-1)).2, show (sI sg 4 i 8 1).1 4 i 3 = nI a from (up3_j (by decide) rfl).trans e3]
    exact ring_t _ _
  refine k_aload_n C0 dL_law_545 11 rfl ?_
  refine k_callV C0 K0 dL_law_546 (cc_takings l D Y A sg al []) gkL_40 hyX5_takings (c_recv (sg := sg) (al := al) K0 0 0 rfl rfl rfl) rfl (by exact Nat.le_of_ble_eq_true rfl) ⟨Nat.le_of_ble_eq_true rfl, Nat.le_of_ble_eq_true rfl⟩ (kk_roomP P (by omega)) (fun E => kX_no E) (fun _ => (k_wid (k2 := kkC c sg) (n2 := kkS c sg) (Nat.le_refl _) (Nat.le_refl _) ?_))
  refine k_istore C0 [(13, _), (12, _), (11, _), (10, _), (9, _), (8, _), (7, _), (6, _), (5, _), (4, _), (3, _), (2, _), (1, _), (0, _)] dL_law_549 (by decide) rfl ?_
  refine k_aload_n C0 dL_law_551 12 rfl ?_
  refine k_iload C0 dL_law_552 1 rfl ?_
  have P2 : PI (c + 1) (c_book (sI sg 4 i 8 1) i (-1)) := pi_refund P (by omega) hi hz
  obtain ⟨⟨u1, u2⟩, ⟨u3, u4⟩, u5, u6⟩ := kk_upP (c := c) (sg := sg) (sg' := (c_book (sI sg 4 i 8 1) i (-1))) (ph_same (sg := sg) (mc := 0) (ms := 0) (c_book_2 _ _ _) (by decide) (by decide)) P2 (by omega)
  refine k_callSW C0 K0 dL_law_554 (lo_refund l D Y A sg al (nI i) ((c_book (sI sg 4 i 8 1) i (-1)).1 4 i 3) (Nat.le_of_ble_eq_true rfl) (Nat.le_of_ble_eq_true rfl) (cc_refund l D Y A sg al [] (P.lw 2 (by decide)) i hi (P.r4 i hi) hl hz hq)) gkL_104 hyL_refund rfl (by exact Nat.le_of_ble_eq_true rfl) ⟨Nat.le_of_ble_eq_true rfl, Nat.le_of_ble_eq_true rfl⟩ ⟨u3, u4⟩ (fun E => kX_no E) (fun _ => k_W (V' := WX D Y A (c_book (sI sg 4 i 8 1) i (-1)) al []) (fun H h => h) (k_wid u1 u2 ?_))
  rw [ea]
  refine k_istore C0 [(14, _), (13, _), (12, _), (11, _), (10, _), (9, _), (8, _), (7, _), (6, _), (5, _), (4, _), (3, _), (2, _), (1, _), (0, _)] dL_law_557 (by decide) rfl ?_
  refine k_iload C0 dL_law_559 0 rfl ?_
  refine k_bipush C0 (-3) dL_law_561 (by decide) ?_
  refine k_icmp_ne C0 583 dL_law_563 (by decide) (fun _ => ?_) (fun zz => absurd zz (ne_m3 (by omega)))
  refine k_iload C0 dL_law_583 0 rfl ?_
  refine k_aload_n C0 dL_law_585 13 rfl ?_
  refine k_iload C0 dL_law_586 2 rfl ?_
  refine k_callV C0 K0 dL_law_588 (cc_paid l D Y A (c_book (sI sg 4 i 8 1) i (-1)) al [] (P2.lw 2 (by decide)) i hi2) gkL_43 hyX5_paid (c_recv (sg := (c_book (sI sg 4 i 8 1) i (-1))) (al := al) K0 0 0 rfl rfl rfl) rfl (by exact Nat.le_of_ble_eq_true rfl) ⟨Nat.le_of_ble_eq_true rfl, Nat.le_of_ble_eq_true rfl⟩ (kk_roomP P2 (by omega)) (fun E => kX_no E) (fun _ => (k_wid (k2 := kkC (c + 1) (c_book (sI sg 4 i 8 1) i (-1))) (n2 := kkS (c + 1) (c_book (sI sg 4 i 8 1) i (-1))) (Nat.le_refl _) (Nat.le_refl _) ?_))
  rw [ea]
  refine k_icmp_ne C0 621 dL_law_591 (by decide) (fun zz => absurd rfl zz) (fun _ => ?_)
  refine k_aload_n C0 dL_law_594 13 rfl ?_
  refine k_callV C0 K0 dL_law_595 (cc_takings l D Y A (c_book (sI sg 4 i 8 1) i (-1)) al []) gkL_40 hyX5_takings (c_recv (sg := (c_book (sI sg 4 i 8 1) i (-1))) (al := al) K0 0 0 rfl rfl rfl) rfl (by exact Nat.le_of_ble_eq_true rfl) ⟨Nat.le_of_ble_eq_true rfl, Nat.le_of_ble_eq_true rfl⟩ (kk_roomP P2 (by omega)) (fun E => kX_no E) (fun _ => (k_wid (k2 := kkC (c + 1) (c_book (sI sg 4 i 8 1) i (-1))) (n2 := kkS (c + 1) (c_book (sI sg 4 i 8 1) i (-1))) (Nat.le_refl _) (Nat.le_refl _) ?_))
  refine k_iload C0 dL_law_598 1 rfl ?_
  refine k_iload C0 dL_law_600 0 rfl ?_
  refine k_isub C0 dL_law_602 ?_
  refine k_icmp_ne C0 621 dL_law_603 (by decide) (fun zz => absurd et zz) (fun _ => ?_)
  refine k_aload_n C0 dL_law_606 13 rfl ?_
  refine k_iload C0 dL_law_607 2 rfl ?_
  have P3 : PI (c + 1 + 1) (c_book (sI sg 4 i 8 1) i (-1)) := P2.suc
  obtain ⟨⟨w1, w2⟩, ⟨w3, w4⟩, w5, w6⟩ := kk_upP (mc := 1) (ms := 6) (ph_same rfl (by decide) (by decide)) P3 (by omega)
  refine k_callSW C0 K0 dL_law_609 (lx_refund l D Y A (c_book (sI sg 4 i 8 1) i (-1)) al (nI i) (Nat.le_of_ble_eq_true rfl) (Nat.le_of_ble_eq_true rfl) (cx_refund_2 l D Y A (c_book (sI sg 4 i 8 1) i (-1)) al [] hlt (P2.lw 2 (by decide)) i hi2 hz2)) gkL_104 hyL_refund rfl (by exact Nat.le_of_ble_eq_true rfl) ⟨Nat.le_of_ble_eq_true rfl, Nat.le_of_ble_eq_true rfl⟩ ⟨w3, w4⟩ (fun E => kX_no E) (fun _ => k_W (V' := WX D Y A (c_book (sI sg 4 i 8 1) i (-1)) al []) (fun H h => h) (k_wid w1 w2 ?_))
  refine k_bipush C0 (-3) dL_law_612 (by decide) ?_
  refine k_icmp_ne C0 621 dL_law_614 (by decide) (fun zz => absurd (by decide) zz) (fun _ => ?_)
  refine k_iconst C0 1 dL_law_617 (by decide) ?_
  refine k_goto C0 622 dL_law_618 (by decide) ?_
  refine k_istore C0 [(5, _), (14, _), (13, _), (12, _), (11, _), (10, _), (9, _), (8, _), (7, _), (6, _), (4, _), (3, _), (2, _), (1, _), (0, _)] dL_law_622 (by decide) rfl ?_
  refine k_goto C0 826 dL_law_624 (by decide) ?_
  refine k_lv [8, 9, 0, 10, 11, 12, 13, 14] rfl ?_
  exact (gE (c_book (sI sg 4 i 8 1) i (-1)) al _ _ _ _ P3 rfl (congrArg nI (N_eq (sg := sI sg 4 i 8 1) (c_book_2 _ _ _) 2).symm) (congrArg nI (N_eq (sg := sI sg 4 i 8 1) (c_book_2 _ _ _) 3).symm) (congrArg nI (N_eq (sg := sI sg 4 i 8 1) (c_book_2 _ _ _) 5).symm))
  
set_option maxRecDepth 100000 in
set_option maxHeartbeats 4000000 in
theorem lc_refund {p : Program} {l : Launch} {e : Env} {s : State} {m : MethodId} {below : List Frame} {meth : Method} {c0 : Code} {Q : State → Prop} {A : Nat → Prop} {D : va_G} {Y : Nat → Nat} {b : Nat} {sg : Sg} {al : Nat → Nat → Nat} {c : Nat} {n t : Int32} (C0 : CallFix p m c0 cL_law 16 s #[Value.ref b] TT RL) (K0 : PK D Y A s) (hlt : l.stackTraces = false) (P : PI c sg) (hc : c < 580) (gE : ∀ (sg' : Sg) (al' : Nat → Nat → Nat) (r0 : Nat) (x2 x3 x5 : Int32), PI (c + 2) sg' → r0 = al' 0 0 → x2 = nI (sN sg' 2) → x3 = nI (sN sg' 3) → x5 = nI (sN sg' 5) → kG p l e room_1 s m #[Value.ref b] below meth c0 Q A 16 (WX D Y A sg' al' []) (kkC (c + 2) sg') (kkS (c + 2) sg') 826 [(7, .int n), (6, .int t), (5, .int 1), (4, .int x5), (3, .int x3), (2, .int x2), (1, .ref r0), (0, .ref (Y 6))] []) (v : Int32) (srt pp j : Nat) (hs : 0 < sN sg 4) : kG p l e room_1 s m #[Value.ref b] below meth c0 Q A 16 (WX D Y A sg al []) (kkC c sg) (kkS c sg) 534 [(11, .int (nI srt)), (10, .int (nI pp)), (9, .int (nI j)), (8, .int v), (7, .int n), (6, .int t), (5, .int 1), (4, .int (nI (sN sg 5))), (3, .int (nI (sN sg 3))), (2, .int (nI (sN sg 2))), (1, .ref (al 0 0)), (0, .ref (Y 6))] [] := by
  refine k_iload C0 dL_law_534 3 rfl ?_
  refine k_aload_n C0 dL_law_536 10 rfl ?_
  refine k_callV C0 K0 dL_law_537 (cc_salesN l D Y A sg al (P.lw 2 (by decide))) gkL_62 hyX5_sales (c_recv (sg := sg) (al := al) K0 0 0 rfl rfl rfl) rfl (by exact Nat.le_of_ble_eq_true rfl) ⟨Nat.le_of_ble_eq_true rfl, Nat.le_of_ble_eq_true rfl⟩ (kk_roomP P (by omega)) (fun E => kX_no E) (fun _ => (k_wid (k2 := kkC c sg) (n2 := kkS c sg) (Nat.le_refl _) (Nat.le_refl _) ?_))
  refine k_callS C0 K0 dL_law_540 (ct_low l D Y A (WX D Y A sg al []) v (sN sg 4) hs (by have := P.lt (by omega); omega)) gkL_69 hyL_low rfl (by exact Nat.le_of_ble_eq_true rfl) ⟨Nat.le_of_ble_eq_true rfl, Nat.le_of_ble_eq_true rfl⟩ (kk_roomP P (by omega)) (fun E => kX_no E) (fun q1 => k_ex (B := q1 < (sN sg 4)) (fun H h => h.1) (fun hq1 => k_W (V' := WX D Y A sg al []) (fun H h => h.2) (k_wid (k2 := kkC c sg) (n2 := kkS c sg) (Nat.le_refl _) (Nat.le_refl _) ?_)))
  refine k_istore C0 [(12, _), (11, _), (10, _), (9, _), (8, _), (7, _), (6, _), (5, _), (4, _), (3, _), (2, _), (1, _), (0, _)] dL_law_543 (by decide) rfl ?_
  by_cases hz : sg.1 4 q1 8 = 0
  · by_cases hq : sg.1 0 0 5 / 30 - sg.1 4 q1 2 ≤ 3
    · exact lc_refundO C0 K0 hlt P hc gE v srt pp j q1 hq1 hz hq
    · exact lc_refundX C0 K0 hlt P hc gE v srt pp j q1 (Nat.le_of_ble_eq_true rfl) (Nat.le_of_ble_eq_true rfl) (cx_refund_3 l D Y A sg al [] hlt (P.lw 2 (by decide)) q1 hq1 hz hq)
  · exact lc_refundX C0 K0 hlt P hc gE v srt pp j q1 (Nat.le_of_ble_eq_true rfl) (Nat.le_of_ble_eq_true rfl) (cx_refund_2 l D Y A sg al [] hlt (P.lw 2 (by decide)) q1 hq1 hz)
set_option maxRecDepth 100000 in
set_option maxHeartbeats 4000000 in
theorem lc_cancelX {p : Program} {l : Launch} {e : Env} {s : State} {m : MethodId} {below : List Frame} {meth : Method} {c0 : Code} {Q : State → Prop} {A : Nat → Prop} {D : va_G} {Y : Nat → Nat} {b : Nat} {sg : Sg} {al : Nat → Nat → Nat} {c : Nat} {n t : Int32} (C0 : CallFix p m c0 cL_law 16 s #[Value.ref b] TT RL) (K0 : PK D Y A s) (hlt : l.stackTraces = false) (P : PI c sg) (hc : c < 580) (gE : ∀ (sg' : Sg) (al' : Nat → Nat → Nat) (r0 : Nat) (x2 x3 x5 : Int32), PI (c + 2) sg' → r0 = al' 0 0 → x2 = nI (sN sg' 2) → x3 = nI (sN sg' 3) → x5 = nI (sN sg' 5) → kG p l e room_1 s m #[Value.ref b] below meth c0 Q A 16 (WX D Y A sg' al' []) (kkC (c + 2) sg') (kkS (c + 2) sg') 826 [(7, .int n), (6, .int t), (5, .int 1), (4, .int x5), (3, .int x3), (2, .int x2), (1, .ref r0), (0, .ref (Y 6))] []) (v : Int32) (srt pp j : Nat) (i : Nat) (hi : i < sN sg 5) (he : sg.1 5 i 6 = -1) : kG p l e room_1 s m #[Value.ref b] below meth c0 Q A 16 (WX D Y A sg al []) (kkC c sg) (kkS c sg) 659 [(12, .int (nI i)), (11, .int (nI srt)), (10, .int (nI pp)), (9, .int (nI j)), (8, .int v), (7, .int n), (6, .int t), (5, .int 1), (4, .int (nI (sN sg 5))), (3, .int (nI (sN sg 3))), (2, .int (nI (sN sg 2))), (1, .ref (al 0 0)), (0, .ref (Y 6))] [] := by
  refine k_aload_n C0 dL_law_659 11 rfl ?_
  refine k_iload C0 dL_law_660 0 rfl ?_
  refine k_callV C0 K0 dL_law_662 (cc_payments l D Y A sg al [] (P.lw 3 (by decide)) i hi) gkL_101 hyX5_payments (c_recv (sg := sg) (al := al) K0 0 0 rfl rfl rfl) rfl (by exact Nat.le_of_ble_eq_true rfl) ⟨Nat.le_of_ble_eq_true rfl, Nat.le_of_ble_eq_true rfl⟩ (kk_roomP P (by omega)) (fun E => kX_no E) (fun _ => (k_wid (k2 := kkC c sg) (n2 := kkS c sg) (Nat.le_refl _) (Nat.le_refl _) ?_))
  refine k_istore C0 [(13, _), (12, _), (11, _), (10, _), (9, _), (8, _), (7, _), (6, _), (5, _), (4, _), (3, _), (2, _), (1, _), (0, _)] dL_law_665 (by decide) rfl ?_
  refine k_aload_n C0 dL_law_667 12 rfl ?_
  refine k_iload C0 dL_law_668 1 rfl ?_
  have P2 : PI (c + 1) sg := P.suc
  obtain ⟨⟨u1, u2⟩, ⟨u3, u4⟩, u5, u6⟩ := kk_upP (mc := 1) (ms := 6) (ph_same rfl (by decide) (by decide)) P2 (by omega)
  refine k_callSW C0 K0 dL_law_670 (lx_cancel l D Y A sg al (nI i) (Nat.le_of_ble_eq_true rfl) (Nat.le_of_ble_eq_true rfl) (cx_cancel_2 l D Y A sg al [] hlt (P.lw 3 (by decide)) i hi he)) gkL_107 hyL_cancel rfl (by exact Nat.le_of_ble_eq_true rfl) ⟨Nat.le_of_ble_eq_true rfl, Nat.le_of_ble_eq_true rfl⟩ ⟨u3, u4⟩ (fun E => kX_no E) (fun _ => k_W (V' := WX D Y A sg al []) (fun H h => h) (k_wid u1 u2 ?_))
  refine k_istore C0 [(14, _), (13, _), (12, _), (11, _), (10, _), (9, _), (8, _), (7, _), (6, _), (5, _), (4, _), (3, _), (2, _), (1, _), (0, _)] dL_law_673 (by decide) rfl ?_
  refine k_iload C0 dL_law_675 0 rfl ?_
  refine k_bipush C0 (-3) dL_law_677 (by decide) ?_
  refine k_icmp_eq C0 689 dL_law_679 (by decide) (fun _ => ?_) (fun zz => absurd (by decide) zz)
  refine k_aload_n C0 dL_law_689 13 rfl ?_
  refine k_iload C0 dL_law_690 2 rfl ?_
  refine k_callV C0 K0 dL_law_692 (cc_next l D Y A sg al [] (P2.lw 3 (by decide)) i hi) gkL_98 hyX5_next (c_recv (sg := sg) (al := al) K0 0 0 rfl rfl rfl) rfl (by exact Nat.le_of_ble_eq_true rfl) ⟨Nat.le_of_ble_eq_true rfl, Nat.le_of_ble_eq_true rfl⟩ (kk_roomP P2 (by omega)) (fun E => kX_no E) (fun _ => (k_wid (k2 := kkC (c + 1) sg) (n2 := kkS (c + 1) sg) (Nat.le_refl _) (Nat.le_refl _) ?_))
  refine k_iconst C0 (-1) dL_law_695 (by decide) ?_
  refine k_icmp_ne C0 714 dL_law_696 (by decide) (fun zz => absurd he zz) (fun _ => ?_)
  refine k_aload_n C0 dL_law_699 13 rfl ?_
  refine k_iload C0 dL_law_700 2 rfl ?_
  refine k_callV C0 K0 dL_law_702 (cc_payments l D Y A sg al [] (P2.lw 3 (by decide)) i hi) gkL_101 hyX5_payments (c_recv (sg := sg) (al := al) K0 0 0 rfl rfl rfl) rfl (by exact Nat.le_of_ble_eq_true rfl) ⟨Nat.le_of_ble_eq_true rfl, Nat.le_of_ble_eq_true rfl⟩ (kk_roomP P2 (by omega)) (fun E => kX_no E) (fun _ => (k_wid (k2 := kkC (c + 1) sg) (n2 := kkS (c + 1) sg) (Nat.le_refl _) (Nat.le_refl _) ?_))
  refine k_iload C0 dL_law_705 1 rfl ?_
  refine k_icmp_ne C0 714 dL_law_707 (by decide) (fun zz => absurd rfl zz) (fun _ => ?_)
  refine k_iconst C0 1 dL_law_710 (by decide) ?_
  refine k_goto C0 715 dL_law_711 (by decide) ?_
  refine k_istore C0 [(5, _), (14, _), (13, _), (12, _), (11, _), (10, _), (9, _), (8, _), (7, _), (6, _), (4, _), (3, _), (2, _), (1, _), (0, _)] dL_law_715 (by decide) rfl ?_
  refine k_goto C0 826 dL_law_717 (by decide) ?_
  refine k_lv [8, 9, 0, 10, 11, 12, 13, 14] rfl ?_
  exact (k_wid (kk_suc (c + 1) sg).1 (kk_suc (c + 1) sg).2 (gE sg al _ _ _ _ (P2.suc) rfl rfl rfl rfl))
  
set_option maxRecDepth 100000 in
set_option maxHeartbeats 4000000 in
theorem lc_cancelO {p : Program} {l : Launch} {e : Env} {s : State} {m : MethodId} {below : List Frame} {meth : Method} {c0 : Code} {Q : State → Prop} {A : Nat → Prop} {D : va_G} {Y : Nat → Nat} {b : Nat} {sg : Sg} {al : Nat → Nat → Nat} {c : Nat} {n t : Int32} (C0 : CallFix p m c0 cL_law 16 s #[Value.ref b] TT RL) (K0 : PK D Y A s) (hlt : l.stackTraces = false) (P : PI c sg) (hc : c < 580) (gE : ∀ (sg' : Sg) (al' : Nat → Nat → Nat) (r0 : Nat) (x2 x3 x5 : Int32), PI (c + 2) sg' → r0 = al' 0 0 → x2 = nI (sN sg' 2) → x3 = nI (sN sg' 3) → x5 = nI (sN sg' 5) → kG p l e room_1 s m #[Value.ref b] below meth c0 Q A 16 (WX D Y A sg' al' []) (kkC (c + 2) sg') (kkS (c + 2) sg') 826 [(7, .int n), (6, .int t), (5, .int 1), (4, .int x5), (3, .int x3), (2, .int x2), (1, .ref r0), (0, .ref (Y 6))] []) (v : Int32) (srt pp j : Nat) (i : Nat) (hi : i < sN sg 5) (he : ¬ sg.1 5 i 6 = -1) : kG p l e room_1 s m #[Value.ref b] below meth c0 Q A 16 (WX D Y A sg al []) (kkC c sg) (kkS c sg) 659 [(12, .int (nI i)), (11, .int (nI srt)), (10, .int (nI pp)), (9, .int (nI j)), (8, .int v), (7, .int n), (6, .int t), (5, .int 1), (4, .int (nI (sN sg 5))), (3, .int (nI (sN sg 3))), (2, .int (nI (sN sg 2))), (1, .ref (al 0 0)), (0, .ref (Y 6))] [] := by
  refine k_aload_n C0 dL_law_659 11 rfl ?_
  refine k_iload C0 dL_law_660 0 rfl ?_
  refine k_callV C0 K0 dL_law_662 (cc_payments l D Y A sg al [] (P.lw 3 (by decide)) i hi) gkL_101 hyX5_payments (c_recv (sg := sg) (al := al) K0 0 0 rfl rfl rfl) rfl (by exact Nat.le_of_ble_eq_true rfl) ⟨Nat.le_of_ble_eq_true rfl, Nat.le_of_ble_eq_true rfl⟩ (kk_roomP P (by omega)) (fun E => kX_no E) (fun _ => (k_wid (k2 := kkC c sg) (n2 := kkS c sg) (Nat.le_refl _) (Nat.le_refl _) ?_))
  refine k_istore C0 [(13, _), (12, _), (11, _), (10, _), (9, _), (8, _), (7, _), (6, _), (5, _), (4, _), (3, _), (2, _), (1, _), (0, _)] dL_law_665 (by decide) rfl ?_
  refine k_aload_n C0 dL_law_667 12 rfl ?_
  refine k_iload C0 dL_law_668 1 rfl ?_
  have P2 : PI (c + 1) (sI sg 5 i 6 (-1)) := pi_cancel P hi
  obtain ⟨⟨u1, u2⟩, ⟨u3, u4⟩, u5, u6⟩ := kk_upP (c := c) (sg := sg) (sg' := (sI sg 5 i 6 (-1))) (ph_same (sg := sg) (mc := 0) (ms := 0) rfl (by decide) (by decide)) P2 (by omega)
  refine k_callSW C0 K0 dL_law_670 (lo_cancel l D Y A sg al (nI i) (sg.1 5 i 5) (Nat.le_of_ble_eq_true rfl) (Nat.le_of_ble_eq_true rfl) (cc_cancel l D Y A sg al [] (P.lw 3 (by decide)) i hi he)) gkL_107 hyL_cancel rfl (by exact Nat.le_of_ble_eq_true rfl) ⟨Nat.le_of_ble_eq_true rfl, Nat.le_of_ble_eq_true rfl⟩ ⟨u3, u4⟩ (fun E => kX_no E) (fun _ => k_W (V' := WX D Y A (sI sg 5 i 6 (-1)) al []) (fun H h => h) (k_wid u1 u2 ?_))
  refine k_istore C0 [(14, _), (13, _), (12, _), (11, _), (10, _), (9, _), (8, _), (7, _), (6, _), (5, _), (4, _), (3, _), (2, _), (1, _), (0, _)] dL_law_673 (by decide) rfl ?_
  refine k_iload C0 dL_law_675 0 rfl ?_
  refine k_bipush C0 (-3) dL_law_677 (by decide) ?_
  refine k_icmp_eq C0 689 dL_law_679 (by decide) (fun h679 => ?_) (fun h679 => ?_)
  ·
    refine k_aload_n C0 dL_law_689 13 rfl ?_
    refine k_iload C0 dL_law_690 2 rfl ?_
    refine k_callV C0 K0 dL_law_692 (cc_next l D Y A (sI sg 5 i 6 (-1)) al [] (P2.lw 3 (by decide)) i hi) gkL_98 hyX5_next (c_recv (sg := (sI sg 5 i 6 (-1))) (al := al) K0 0 0 rfl rfl rfl) rfl (by exact Nat.le_of_ble_eq_true rfl) ⟨Nat.le_of_ble_eq_true rfl, Nat.le_of_ble_eq_true rfl⟩ (kk_roomP P2 (by omega)) (fun E => kX_no E) (fun _ => (k_wid (k2 := kkC (c + 1) (sI sg 5 i 6 (-1))) (n2 := kkS (c + 1) (sI sg 5 i 6 (-1))) (Nat.le_refl _) (Nat.le_refl _) ?_))
    refine k_iconst C0 (-1) dL_law_695 (by decide) ?_
    refine k_icmp_ne C0 714 dL_law_696 (by decide) (fun zz => absurd up3_at zz) (fun _ => ?_)
    refine k_aload_n C0 dL_law_699 13 rfl ?_
    refine k_iload C0 dL_law_700 2 rfl ?_
    refine k_callV C0 K0 dL_law_702 (cc_payments l D Y A (sI sg 5 i 6 (-1)) al [] (P2.lw 3 (by decide)) i hi) gkL_101 hyX5_payments (c_recv (sg := (sI sg 5 i 6 (-1))) (al := al) K0 0 0 rfl rfl rfl) rfl (by exact Nat.le_of_ble_eq_true rfl) ⟨Nat.le_of_ble_eq_true rfl, Nat.le_of_ble_eq_true rfl⟩ (kk_roomP P2 (by omega)) (fun E => kX_no E) (fun _ => (k_wid (k2 := kkC (c + 1) (sI sg 5 i 6 (-1))) (n2 := kkS (c + 1) (sI sg 5 i 6 (-1))) (Nat.le_refl _) (Nat.le_refl _) ?_))
    refine k_iload C0 dL_law_705 1 rfl ?_
    refine k_icmp_ne C0 714 dL_law_707 (by decide) (fun zz => absurd (up3_j (by decide) rfl) zz) (fun _ => ?_)
    refine k_iconst C0 1 dL_law_710 (by decide) ?_
    refine k_goto C0 715 dL_law_711 (by decide) ?_
    refine k_istore C0 [(5, _), (14, _), (13, _), (12, _), (11, _), (10, _), (9, _), (8, _), (7, _), (6, _), (4, _), (3, _), (2, _), (1, _), (0, _)] dL_law_715 (by decide) rfl ?_
    refine k_goto C0 826 dL_law_717 (by decide) ?_
    refine k_lv [8, 9, 0, 10, 11, 12, 13, 14] rfl ?_
    exact (k_wid (kk_suc (c + 1) (sI sg 5 i 6 (-1))).1 (kk_suc (c + 1) (sI sg 5 i 6 (-1))).2 (gE (sI sg 5 i 6 (-1)) al _ _ _ _ (P2.suc) rfl rfl rfl rfl))
    
  ·
    refine k_iload C0 dL_law_682 0 rfl ?_
    refine k_iload C0 dL_law_684 1 rfl ?_
    refine k_icmp_ne C0 714 dL_law_686 (by decide) (fun zz => absurd rfl zz) (fun _ => ?_)
    refine k_aload_n C0 dL_law_689 13 rfl ?_
    refine k_iload C0 dL_law_690 2 rfl ?_
    refine k_callV C0 K0 dL_law_692 (cc_next l D Y A (sI sg 5 i 6 (-1)) al [] (P2.lw 3 (by decide)) i hi) gkL_98 hyX5_next (c_recv (sg := (sI sg 5 i 6 (-1))) (al := al) K0 0 0 rfl rfl rfl) rfl (by exact Nat.le_of_ble_eq_true rfl) ⟨Nat.le_of_ble_eq_true rfl, Nat.le_of_ble_eq_true rfl⟩ (kk_roomP P2 (by omega)) (fun E => kX_no E) (fun _ => (k_wid (k2 := kkC (c + 1) (sI sg 5 i 6 (-1))) (n2 := kkS (c + 1) (sI sg 5 i 6 (-1))) (Nat.le_refl _) (Nat.le_refl _) ?_))
    refine k_iconst C0 (-1) dL_law_695 (by decide) ?_
    refine k_icmp_ne C0 714 dL_law_696 (by decide) (fun zz => absurd up3_at zz) (fun _ => ?_)
    refine k_aload_n C0 dL_law_699 13 rfl ?_
    refine k_iload C0 dL_law_700 2 rfl ?_
    refine k_callV C0 K0 dL_law_702 (cc_payments l D Y A (sI sg 5 i 6 (-1)) al [] (P2.lw 3 (by decide)) i hi) gkL_101 hyX5_payments (c_recv (sg := (sI sg 5 i 6 (-1))) (al := al) K0 0 0 rfl rfl rfl) rfl (by exact Nat.le_of_ble_eq_true rfl) ⟨Nat.le_of_ble_eq_true rfl, Nat.le_of_ble_eq_true rfl⟩ (kk_roomP P2 (by omega)) (fun E => kX_no E) (fun _ => (k_wid (k2 := kkC (c + 1) (sI sg 5 i 6 (-1))) (n2 := kkS (c + 1) (sI sg 5 i 6 (-1))) (Nat.le_refl _) (Nat.le_refl _) ?_))
    refine k_iload C0 dL_law_705 1 rfl ?_
    refine k_icmp_ne C0 714 dL_law_707 (by decide) (fun zz => absurd (up3_j (by decide) rfl) zz) (fun _ => ?_)
    refine k_iconst C0 1 dL_law_710 (by decide) ?_
    refine k_goto C0 715 dL_law_711 (by decide) ?_
    refine k_istore C0 [(5, _), (14, _), (13, _), (12, _), (11, _), (10, _), (9, _), (8, _), (7, _), (6, _), (4, _), (3, _), (2, _), (1, _), (0, _)] dL_law_715 (by decide) rfl ?_
    refine k_goto C0 826 dL_law_717 (by decide) ?_
    refine k_lv [8, 9, 0, 10, 11, 12, 13, 14] rfl ?_
    exact (k_wid (kk_suc (c + 1) (sI sg 5 i 6 (-1))).1 (kk_suc (c + 1) (sI sg 5 i 6 (-1))).2 (gE (sI sg 5 i 6 (-1)) al _ _ _ _ (P2.suc) rfl rfl rfl rfl))
    
set_option maxRecDepth 100000 in
set_option maxHeartbeats 4000000 in
theorem lc_cancel {p : Program} {l : Launch} {e : Env} {s : State} {m : MethodId} {below : List Frame} {meth : Method} {c0 : Code} {Q : State → Prop} {A : Nat → Prop} {D : va_G} {Y : Nat → Nat} {b : Nat} {sg : Sg} {al : Nat → Nat → Nat} {c : Nat} {n t : Int32} (C0 : CallFix p m c0 cL_law 16 s #[Value.ref b] TT RL) (K0 : PK D Y A s) (hlt : l.stackTraces = false) (P : PI c sg) (hc : c < 580) (gE : ∀ (sg' : Sg) (al' : Nat → Nat → Nat) (r0 : Nat) (x2 x3 x5 : Int32), PI (c + 2) sg' → r0 = al' 0 0 → x2 = nI (sN sg' 2) → x3 = nI (sN sg' 3) → x5 = nI (sN sg' 5) → kG p l e room_1 s m #[Value.ref b] below meth c0 Q A 16 (WX D Y A sg' al' []) (kkC (c + 2) sg') (kkS (c + 2) sg') 826 [(7, .int n), (6, .int t), (5, .int 1), (4, .int x5), (3, .int x3), (2, .int x2), (1, .ref r0), (0, .ref (Y 6))] []) (v : Int32) (srt pp j : Nat) (hs : 0 < sN sg 5) : kG p l e room_1 s m #[Value.ref b] below meth c0 Q A 16 (WX D Y A sg al []) (kkC c sg) (kkS c sg) 648 [(11, .int (nI srt)), (10, .int (nI pp)), (9, .int (nI j)), (8, .int v), (7, .int n), (6, .int t), (5, .int 1), (4, .int (nI (sN sg 5))), (3, .int (nI (sN sg 3))), (2, .int (nI (sN sg 2))), (1, .ref (al 0 0)), (0, .ref (Y 6))] [] := by
  refine k_iload C0 dL_law_648 3 rfl ?_
  refine k_iconst C0 3 dL_law_650 (by decide) ?_
  refine k_ishr C0 dL_law_651 ?_
  refine k_iload C0 dL_law_652 7 rfl ?_
  refine k_callS C0 K0 dL_law_654 (ct_low l D Y A (WX D Y A sg al []) (v >>> (3 &&& 31)) (sN sg 5) hs (by have := P.n5; omega)) gkL_69 hyL_low rfl (by exact Nat.le_of_ble_eq_true rfl) ⟨Nat.le_of_ble_eq_true rfl, Nat.le_of_ble_eq_true rfl⟩ (kk_roomP P (by omega)) (fun E => kX_no E) (fun q1 => k_ex (B := q1 < (sN sg 5)) (fun H h => h.1) (fun hq1 => k_W (V' := WX D Y A sg al []) (fun H h => h.2) (k_wid (k2 := kkC c sg) (n2 := kkS c sg) (Nat.le_refl _) (Nat.le_refl _) ?_)))
  refine k_istore C0 [(12, _), (11, _), (10, _), (9, _), (8, _), (7, _), (6, _), (5, _), (4, _), (3, _), (2, _), (1, _), (0, _)] dL_law_657 (by decide) rfl ?_
  by_cases he : sg.1 5 q1 6 = -1
  · exact lc_cancelX C0 K0 hlt P hc gE v srt pp j q1 hq1 he
  · exact lc_cancelO C0 K0 hlt P hc gE v srt pp j q1 hq1 he
set_option maxRecDepth 100000 in
set_option maxHeartbeats 4000000 in
theorem lc_passX {p : Program} {l : Launch} {e : Env} {s : State} {m : MethodId} {below : List Frame} {meth : Method} {c0 : Code} {Q : State → Prop} {A : Nat → Prop} {D : va_G} {Y : Nat → Nat} {b : Nat} {sg : Sg} {al : Nat → Nat → Nat} {c : Nat} {n t : Int32} (C0 : CallFix p m c0 cL_law 16 s #[Value.ref b] TT RL) (K0 : PK D Y A s) (hlt : l.stackTraces = false) (P : PI c sg) (hc : c < 580) (gE : ∀ (sg' : Sg) (al' : Nat → Nat → Nat) (r0 : Nat) (x2 x3 x5 : Int32), PI (c + 2) sg' → r0 = al' 0 0 → x2 = nI (sN sg' 2) → x3 = nI (sN sg' 3) → x5 = nI (sN sg' 5) → kG p l e room_1 s m #[Value.ref b] below meth c0 Q A 16 (WX D Y A sg' al' []) (kkC (c + 2) sg') (kkS (c + 2) sg') 826 [(7, .int n), (6, .int t), (5, .int 1), (4, .int x5), (3, .int x3), (2, .int x2), (1, .ref r0), (0, .ref (Y 6))] []) (v : Int32) (srt pp j : Nat) (q dd : Nat) (h1 : 1 ≤ q) (h2 : q ≤ 200) (hd : sg.1 0 0 5 = nI dd) (hdd : dd ≤ 3600) (h36 : ¬ dd + q ≤ 3600) : kG p l e room_1 s m #[Value.ref b] below meth c0 Q A 16 (WX D Y A sg al []) (kkC c sg) (kkS c sg) 749 [(12, .int (nI q)), (11, .int (nI srt)), (10, .int (nI pp)), (9, .int (nI j)), (8, .int v), (7, .int n), (6, .int t), (5, .int 1), (4, .int (nI (sN sg 5))), (3, .int (nI (sN sg 3))), (2, .int (nI (sN sg 2))), (1, .ref (al 0 0)), (0, .ref (Y 6))] [] := by
  refine k_aload_n C0 dL_law_749 11 rfl ?_
  refine k_callV C0 K0 dL_law_750 (cc_day l D Y A sg al []) gkL_33 hyX5_day (c_recv (sg := sg) (al := al) K0 0 0 rfl rfl rfl) rfl (by exact Nat.le_of_ble_eq_true rfl) ⟨Nat.le_of_ble_eq_true rfl, Nat.le_of_ble_eq_true rfl⟩ (kk_roomP P (by omega)) (fun E => kX_no E) (fun _ => (k_wid (k2 := kkC c sg) (n2 := kkS c sg) (Nat.le_refl _) (Nat.le_refl _) ?_))
  rw [hd]
  refine k_istore C0 [(13, _), (12, _), (11, _), (10, _), (9, _), (8, _), (7, _), (6, _), (5, _), (4, _), (3, _), (2, _), (1, _), (0, _)] dL_law_753 (by decide) rfl ?_
  refine k_aload_n C0 dL_law_755 12 rfl ?_
  refine k_callV C0 K0 dL_law_756 (cc_salesN l D Y A sg al (P.lw 2 (by decide))) gkL_62 hyX5_sales (c_recv (sg := sg) (al := al) K0 0 0 rfl rfl rfl) rfl (by exact Nat.le_of_ble_eq_true rfl) ⟨Nat.le_of_ble_eq_true rfl, Nat.le_of_ble_eq_true rfl⟩ (kk_roomP P (by omega)) (fun E => kX_no E) (fun _ => (k_wid (k2 := kkC c sg) (n2 := kkS c sg) (Nat.le_refl _) (Nat.le_refl _) ?_))
  refine k_istore C0 [(14, _), (13, _), (12, _), (11, _), (10, _), (9, _), (8, _), (7, _), (6, _), (5, _), (4, _), (3, _), (2, _), (1, _), (0, _)] dL_law_759 (by decide) rfl ?_
  refine k_aload_n C0 dL_law_761 13 rfl ?_
  refine k_iload C0 dL_law_762 2 rfl ?_
  have P2 : PI (c + 1) sg := P.suc
  obtain ⟨⟨u1, u2⟩, ⟨u3, u4⟩, u5, u6⟩ := kk_upP (mc := 1) (ms := 6) (ph_same rfl (by decide) (by decide)) P2 (by omega)
  refine k_callSW C0 K0 dL_law_764 (lx_pass l D Y A sg al (nI q) (Nat.le_of_ble_eq_true rfl) (Nat.le_of_ble_eq_true rfl) (cx_pass_2 l D Y A sg al [] hlt (nI q) (nI_le (a := 1) h1 (by omega)) (nI_le (b := 400) (by omega) (by decide)) (by rw [hd, nI_add]; exact fun z => h36 ((nI_leI (b := 3600) (by omega) (by decide)).mp z)))) gkL_109 hyL_pass rfl (by exact Nat.le_of_ble_eq_true rfl) ⟨Nat.le_of_ble_eq_true rfl, Nat.le_of_ble_eq_true rfl⟩ ⟨u3, u4⟩ (fun E => kX_no E) (fun _ => k_W (V' := WX D Y A sg al []) (fun H h => h) (k_wid u1 u2 ?_))
  refine k_istore C0 [(15, _), (14, _), (13, _), (12, _), (11, _), (10, _), (9, _), (8, _), (7, _), (6, _), (5, _), (4, _), (3, _), (2, _), (1, _), (0, _)] dL_law_767 (by decide) rfl ?_
  refine k_iload C0 dL_law_769 0 rfl ?_
  refine k_bipush C0 (-3) dL_law_771 (by decide) ?_
  refine k_icmp_ne C0 795 dL_law_773 (by decide) (fun zz => absurd (by decide) zz) (fun _ => ?_)
  refine k_iload C0 dL_law_776 2 rfl ?_
  refine k_iload C0 dL_law_778 3 rfl ?_
  refine k_iadd C0 dL_law_780 ?_
  refine k_sipush C0 3600 dL_law_781 (by decide) ?_
  refine k_icmp_le C0 791 dL_law_784 (by decide) (fun zz => absurd zz (by rw [nI_add]; exact fun z => h36 ((nI_leI (b := 3600) (by omega) (by decide)).mp z))) (fun _ => ?_)
  refine k_iconst C0 1 dL_law_787 (by decide) ?_
  refine k_goto C0 824 dL_law_788 (by decide) ?_
  refine k_istore C0 [(5, _), (15, _), (14, _), (13, _), (12, _), (11, _), (10, _), (9, _), (8, _), (7, _), (6, _), (4, _), (3, _), (2, _), (1, _), (0, _)] dL_law_824 (by decide) rfl ?_
  refine k_lv [9, 10, 0, 11, 12, 13, 14, 15] rfl ?_
  exact (k_wid (kk_suc (c + 1) sg).1 (kk_suc (c + 1) sg).2 (gE sg al _ _ _ _ (P2.suc) rfl rfl rfl rfl))
  
set_option maxRecDepth 100000 in
set_option maxHeartbeats 4000000 in
theorem lc_passO {p : Program} {l : Launch} {e : Env} {s : State} {m : MethodId} {below : List Frame} {meth : Method} {c0 : Code} {Q : State → Prop} {A : Nat → Prop} {D : va_G} {Y : Nat → Nat} {b : Nat} {sg : Sg} {al : Nat → Nat → Nat} {c : Nat} {n t : Int32} (C0 : CallFix p m c0 cL_law 16 s #[Value.ref b] TT RL) (K0 : PK D Y A s) (hlt : l.stackTraces = false) (P : PI c sg) (hc : c < 580) (gE : ∀ (sg' : Sg) (al' : Nat → Nat → Nat) (r0 : Nat) (x2 x3 x5 : Int32), PI (c + 2) sg' → r0 = al' 0 0 → x2 = nI (sN sg' 2) → x3 = nI (sN sg' 3) → x5 = nI (sN sg' 5) → kG p l e room_1 s m #[Value.ref b] below meth c0 Q A 16 (WX D Y A sg' al' []) (kkC (c + 2) sg') (kkS (c + 2) sg') 826 [(7, .int n), (6, .int t), (5, .int 1), (4, .int x5), (3, .int x3), (2, .int x2), (1, .ref r0), (0, .ref (Y 6))] []) (v : Int32) (srt pp j : Nat) (q dd : Nat) (h1 : 1 ≤ q) (h2 : q ≤ 200) (hd : sg.1 0 0 5 = nI dd) (hdd : dd ≤ 3600) (h36 : dd + q ≤ 3600) : kG p l e room_1 s m #[Value.ref b] below meth c0 Q A 16 (WX D Y A sg al []) (kkC c sg) (kkS c sg) 749 [(12, .int (nI q)), (11, .int (nI srt)), (10, .int (nI pp)), (9, .int (nI j)), (8, .int v), (7, .int n), (6, .int t), (5, .int 1), (4, .int (nI (sN sg 5))), (3, .int (nI (sN sg 3))), (2, .int (nI (sN sg 2))), (1, .ref (al 0 0)), (0, .ref (Y 6))] [] := by
  obtain ⟨m, em, en⟩ := pass_cnt sg q
  refine k_aload_n C0 dL_law_749 11 rfl ?_
  refine k_callV C0 K0 dL_law_750 (cc_day l D Y A sg al []) gkL_33 hyX5_day (c_recv (sg := sg) (al := al) K0 0 0 rfl rfl rfl) rfl (by exact Nat.le_of_ble_eq_true rfl) ⟨Nat.le_of_ble_eq_true rfl, Nat.le_of_ble_eq_true rfl⟩ (kk_roomP P (by omega)) (fun E => kX_no E) (fun _ => (k_wid (k2 := kkC c sg) (n2 := kkS c sg) (Nat.le_refl _) (Nat.le_refl _) ?_))
  rw [hd]
  refine k_istore C0 [(13, _), (12, _), (11, _), (10, _), (9, _), (8, _), (7, _), (6, _), (5, _), (4, _), (3, _), (2, _), (1, _), (0, _)] dL_law_753 (by decide) rfl ?_
  refine k_aload_n C0 dL_law_755 12 rfl ?_
  refine k_callV C0 K0 dL_law_756 (cc_salesN l D Y A sg al (P.lw 2 (by decide))) gkL_62 hyX5_sales (c_recv (sg := sg) (al := al) K0 0 0 rfl rfl rfl) rfl (by exact Nat.le_of_ble_eq_true rfl) ⟨Nat.le_of_ble_eq_true rfl, Nat.le_of_ble_eq_true rfl⟩ (kk_roomP P (by omega)) (fun E => kX_no E) (fun _ => (k_wid (k2 := kkC c sg) (n2 := kkS c sg) (Nat.le_refl _) (Nat.le_refl _) ?_))
  refine k_istore C0 [(14, _), (13, _), (12, _), (11, _), (10, _), (9, _), (8, _), (7, _), (6, _), (5, _), (4, _), (3, _), (2, _), (1, _), (0, _)] dL_law_759 (by decide) rfl ?_
  refine k_aload_n C0 dL_law_761 13 rfl ?_
  refine k_iload C0 dL_law_762 2 rfl ?_
  have P2 : PI (c + 1) ((c_passN sg q).2) := (pi_pass P (by omega) hd hdd h36).1
  obtain ⟨⟨u1, u2⟩, ⟨u3, u4⟩, u5, u6⟩ := kk_upP (c := c) (sg := sg) (sg' := ((c_passN sg q).2)) (ph_pass sg q) P2 (by omega)
  refine k_callSW C0 K0 dL_law_764 (lo_pass l D Y A sg al (nI q) (c_passN sg q).1 (Nat.le_of_ble_eq_true rfl) (Nat.le_of_ble_eq_true rfl) (cc_pass l D Y A sg al q dd (P.lw 0 (by decide)) (P.lw 3 (by decide)) hd h1 (by omega) h36 (pi_pass P (by omega) hd hdd h36).2)) gkL_109 hyL_pass rfl (by exact Nat.le_of_ble_eq_true rfl) ⟨Nat.le_of_ble_eq_true rfl, Nat.le_of_ble_eq_true rfl⟩ ⟨u3, u4⟩ (fun E => kX_no E) (fun al2 => k_ex (B := alK al al2) (fun H h => h.1) (fun hak => k_W (V' := WX D Y A ((c_passN sg q).2) al2 []) (fun H h => h.2) (k_wid u1 u2 ?_)))
  rw [em]
  have hm3 : m < 2 ^ 31 := by have := P2.lt (by omega); omega
  have hal : al2 0 0 = al 0 0 := hak 0 0 (by decide) (by decide)
  refine k_istore C0 [(15, _), (14, _), (13, _), (12, _), (11, _), (10, _), (9, _), (8, _), (7, _), (6, _), (5, _), (4, _), (3, _), (2, _), (1, _), (0, _)] dL_law_767 (by decide) rfl ?_
  refine k_iload C0 dL_law_769 0 rfl ?_
  refine k_bipush C0 (-3) dL_law_771 (by decide) ?_
  refine k_icmp_ne C0 795 dL_law_773 (by decide) (fun _ => ?_) (fun zz => absurd zz (ne_m3 hm3))
  rw [← hal]
  refine k_aload_n C0 dL_law_795 14 rfl ?_
  refine k_callV C0 K0 dL_law_796 (cc_day l D Y A ((c_passN sg q).2) al2 []) gkL_33 hyX5_day (c_recv (sg := ((c_passN sg q).2)) (al := al2) K0 0 0 rfl rfl rfl) rfl (by exact Nat.le_of_ble_eq_true rfl) ⟨Nat.le_of_ble_eq_true rfl, Nat.le_of_ble_eq_true rfl⟩ (kk_roomP P2 (by omega)) (fun E => kX_no E) (fun _ => (k_wid (k2 := kkC (c + 1) ((c_passN sg q).2)) (n2 := kkS (c + 1) ((c_passN sg q).2)) (Nat.le_refl _) (Nat.le_refl _) ?_))
  refine k_iload C0 dL_law_799 2 rfl ?_
  refine k_iload C0 dL_law_801 3 rfl ?_
  refine k_iadd C0 dL_law_803 ?_
  refine k_icmp_ne C0 823 dL_law_804 (by decide) (fun zz => absurd (by rw [nI_add]; exact c_passN_day sg dd hd q) zz) (fun _ => ?_)
  refine k_aload_n C0 dL_law_807 14 rfl ?_
  refine k_callV C0 K0 dL_law_808 (cc_salesN l D Y A ((c_passN sg q).2) al2 (P2.lw 2 (by decide))) gkL_62 hyX5_sales (c_recv (sg := ((c_passN sg q).2)) (al := al2) K0 0 0 rfl rfl rfl) rfl (by exact Nat.le_of_ble_eq_true rfl) ⟨Nat.le_of_ble_eq_true rfl, Nat.le_of_ble_eq_true rfl⟩ (kk_roomP P2 (by omega)) (fun E => kX_no E) (fun _ => (k_wid (k2 := kkC (c + 1) ((c_passN sg q).2)) (n2 := kkS (c + 1) ((c_passN sg q).2)) (Nat.le_refl _) (Nat.le_refl _) ?_))
  refine k_iload C0 dL_law_811 1 rfl ?_
  refine k_iload C0 dL_law_813 0 rfl ?_
  refine k_iadd C0 dL_law_815 ?_
  refine k_icmp_ne C0 823 dL_law_816 (by decide) (fun zz => absurd (by rw [en, nI_add]) zz) (fun _ => ?_)
  refine k_iconst C0 1 dL_law_819 (by decide) ?_
  refine k_goto C0 824 dL_law_820 (by decide) ?_
  refine k_istore C0 [(5, _), (15, _), (14, _), (13, _), (12, _), (11, _), (10, _), (9, _), (8, _), (7, _), (6, _), (4, _), (3, _), (2, _), (1, _), (0, _)] dL_law_824 (by decide) rfl ?_
  refine k_lv [9, 10, 0, 11, 12, 13, 14, 15] rfl ?_
  exact (k_wid (kk_suc (c + 1) ((c_passN sg q).2)).1 (kk_suc (c + 1) ((c_passN sg q).2)).2 (gE ((c_passN sg q).2) al2 _ _ _ _ (P2.suc) rfl (congrArg nI (c_passN_2 sg 20 2 0 (by decide) (fun _ => by decide) (fun z => absurd z (by decide)) q).symm) (congrArg nI (c_passN_2 sg 20 3 0 (by decide) (fun _ => by decide) (fun z => absurd z (by decide)) q).symm) (congrArg nI (c_passN_2 sg 20 5 0 (by decide) (fun _ => by decide) (fun z => absurd z (by decide)) q).symm)))
  
set_option maxRecDepth 100000 in
set_option maxHeartbeats 4000000 in
theorem lc_pass {p : Program} {l : Launch} {e : Env} {s : State} {m : MethodId} {below : List Frame} {meth : Method} {c0 : Code} {Q : State → Prop} {A : Nat → Prop} {D : va_G} {Y : Nat → Nat} {b : Nat} {sg : Sg} {al : Nat → Nat → Nat} {c : Nat} {n t : Int32} (C0 : CallFix p m c0 cL_law 16 s #[Value.ref b] TT RL) (K0 : PK D Y A s) (hlt : l.stackTraces = false) (P : PI c sg) (hc : c < 580) (gE : ∀ (sg' : Sg) (al' : Nat → Nat → Nat) (r0 : Nat) (x2 x3 x5 : Int32), PI (c + 2) sg' → r0 = al' 0 0 → x2 = nI (sN sg' 2) → x3 = nI (sN sg' 3) → x5 = nI (sN sg' 5) → kG p l e room_1 s m #[Value.ref b] below meth c0 Q A 16 (WX D Y A sg' al' []) (kkC (c + 2) sg') (kkS (c + 2) sg') 826 [(7, .int n), (6, .int t), (5, .int 1), (4, .int x5), (3, .int x3), (2, .int x2), (1, .ref r0), (0, .ref (Y 6))] []) (v : Int32) (srt pp j : Nat)  : kG p l e room_1 s m #[Value.ref b] below meth c0 Q A 16 (WX D Y A sg al []) (kkC c sg) (kkS c sg) 720 [(11, .int (nI srt)), (10, .int (nI pp)), (9, .int (nI j)), (8, .int v), (7, .int n), (6, .int t), (5, .int 1), (4, .int (nI (sN sg 5))), (3, .int (nI (sN sg 3))), (2, .int (nI (sN sg 2))), (1, .ref (al 0 0)), (0, .ref (Y 6))] [] := by
  refine k_iconst C0 1 dL_law_720 (by decide) ?_
  refine k_iload C0 dL_law_721 3 rfl ?_
  refine k_iload C0 dL_law_723 3 rfl ?_
  refine k_bipush C0 9 dL_law_725 (by decide) ?_
  refine k_ishr C0 dL_law_727 ?_
  refine k_iconst C0 3 dL_law_728 (by decide) ?_
  refine k_callS C0 K0 dL_law_729 (ct_low l D Y A (WX D Y A sg al []) (v >>> (9 &&& 31)) 3 (by decide) (by decide)) gkL_69 hyL_low rfl (by exact Nat.le_of_ble_eq_true rfl) ⟨Nat.le_of_ble_eq_true rfl, Nat.le_of_ble_eq_true rfl⟩ (kk_roomP P (by omega)) (fun E => kX_no E) (fun q1 => k_ex (B := q1 < 3) (fun H h => h.1) (fun hq1 => k_W (V' := WX D Y A sg al []) (fun H h => h.2) (k_wid (k2 := kkC c sg) (n2 := kkS c sg) (Nat.le_refl _) (Nat.le_refl _) ?_)))
  refine k_if_ne C0 741 dL_law_732 (by decide) (fun h732 => ?_) (fun h732 => ?_)
  ·
    refine k_bipush C0 31 dL_law_741 (by decide) ?_
    refine k_callS C0 K0 dL_law_743 (ct_low l D Y A (WX D Y A sg al []) v 31 (by decide) (by decide)) gkL_69 hyL_low rfl (by exact Nat.le_of_ble_eq_true rfl) ⟨Nat.le_of_ble_eq_true rfl, Nat.le_of_ble_eq_true rfl⟩ (kk_roomP P (by omega)) (fun E => kX_no E) (fun q2 => k_ex (B := q2 < 31) (fun H h => h.1) (fun hq2 => k_W (V' := WX D Y A sg al []) (fun H h => h.2) (k_wid (k2 := kkC c sg) (n2 := kkS c sg) (Nat.le_refl _) (Nat.le_refl _) ?_)))
    refine k_iadd C0 dL_law_746 ?_
    rw [show (1 : Int32) + nI q2 = nI (1 + q2) from nI_add 1 q2]
    refine k_istore C0 [(12, _), (11, _), (10, _), (9, _), (8, _), (7, _), (6, _), (5, _), (4, _), (3, _), (2, _), (1, _), (0, _)] dL_law_747 (by decide) rfl ?_
    obtain ⟨dd, hdd, hd, -⟩ := P.2
    by_cases h36 : dd + (1 + q2) ≤ 3600
    · exact lc_passO C0 K0 hlt P hc gE v srt pp j (1 + q2) dd (by omega) (by omega) hd hdd h36
    · exact lc_passX C0 K0 hlt P hc gE v srt pp j (1 + q2) dd (by omega) (by omega) hd hdd h36
  ·
    refine k_sipush C0 200 dL_law_735 (by decide) ?_
    refine k_goto C0 743 dL_law_738 (by decide) ?_
    refine k_callS C0 K0 dL_law_743 (ct_low l D Y A (WX D Y A sg al []) v 200 (by decide) (by decide)) gkL_69 hyL_low rfl (by exact Nat.le_of_ble_eq_true rfl) ⟨Nat.le_of_ble_eq_true rfl, Nat.le_of_ble_eq_true rfl⟩ (kk_roomP P (by omega)) (fun E => kX_no E) (fun q2 => k_ex (B := q2 < 200) (fun H h => h.1) (fun hq2 => k_W (V' := WX D Y A sg al []) (fun H h => h.2) (k_wid (k2 := kkC c sg) (n2 := kkS c sg) (Nat.le_refl _) (Nat.le_refl _) ?_)))
    refine k_iadd C0 dL_law_746 ?_
    rw [show (1 : Int32) + nI q2 = nI (1 + q2) from nI_add 1 q2]
    refine k_istore C0 [(12, _), (11, _), (10, _), (9, _), (8, _), (7, _), (6, _), (5, _), (4, _), (3, _), (2, _), (1, _), (0, _)] dL_law_747 (by decide) rfl ?_
    obtain ⟨dd, hdd, hd, -⟩ := P.2
    by_cases h36 : dd + (1 + q2) ≤ 3600
    · exact lc_passO C0 K0 hlt P hc gE v srt pp j (1 + q2) dd (by omega) (by omega) hd hdd h36
    · exact lc_passX C0 K0 hlt P hc gE v srt pp j (1 + q2) dd (by omega) (by omega) hd hdd h36
set_option maxRecDepth 100000 in
set_option maxHeartbeats 4000000 in
theorem lc_any {p : Program} {l : Launch} {e : Env} {s : State} {m : MethodId} {below : List Frame} {meth : Method} {c0 : Code} {Q : State → Prop} {A : Nat → Prop} {D : va_G} {Y : Nat → Nat} {b : Nat} {sg : Sg} {al : Nat → Nat → Nat} {c : Nat} {n t : Int32} (C0 : CallFix p m c0 cL_law 16 s #[Value.ref b] TT RL) (K0 : PK D Y A s) (hlt : l.stackTraces = false) (P : PI c sg) (hc : c < 580) (gE : ∀ (sg' : Sg) (al' : Nat → Nat → Nat) (r0 : Nat) (x2 x3 x5 : Int32), PI (c + 2) sg' → r0 = al' 0 0 → x2 = nI (sN sg' 2) → x3 = nI (sN sg' 3) → x5 = nI (sN sg' 5) → kG p l e room_1 s m #[Value.ref b] below meth c0 Q A 16 (WX D Y A sg' al' []) (kkC (c + 2) sg') (kkS (c + 2) sg') 826 [(7, .int n), (6, .int t), (5, .int 1), (4, .int x5), (3, .int x3), (2, .int x2), (1, .ref r0), (0, .ref (Y 6))] []) (v : Int32) (srt pp j : Nat) (hj : j < 5) (hp : ¬ sN sg 3 = 0 → pp < sN sg 3) : kG p l e room_1 s m #[Value.ref b] below meth c0 Q A 16 (WX D Y A sg al []) (kkC c sg) (kkS c sg) 125 [(11, .int (nI srt)), (10, .int (nI pp)), (9, .int (nI j)), (8, .int v), (7, .int n), (6, .int t), (5, .int 1), (4, .int (nI (sN sg 5))), (3, .int (nI (sN sg 3))), (2, .int (nI (sN sg 2))), (1, .ref (al 0 0)), (0, .ref (Y 6))] [] := by
  refine k_iload_n C0 dL_law_125 9 rfl ?_
  refine k_if_eq C0 141 dL_law_126 (by decide) (fun h126 => ?_) (fun h126 => ?_)
  ·
    exact lc_addMaker C0 K0 hlt P hc gE v srt pp j (by first | exact (by have := nI_z (by have := P.n2; omega) h126; omega) | exact Nat.not_le.mp (fun z => h138 (nI_le (a := 6) z (by have := P.n2; omega))))
  ·
    refine k_iload C0 dL_law_129 0 rfl ?_
    refine k_iconst C0 1 dL_law_131 (by decide) ?_
    refine k_icmp_ge C0 185 dL_law_132 (by decide) (fun h132 => ?_) (fun h132 => ?_)
    ·
      refine k_iload_n C0 dL_law_185 8 rfl ?_
      refine k_if_eq C0 201 dL_law_186 (by decide) (fun h186 => ?_) (fun h186 => ?_)
      ·
        exact lc_addProduct C0 K0 hlt P hc gE v srt pp j (by first | exact (by have := nI_z (by have := P.n3; omega) h186; omega) | exact Nat.not_le.mp (fun z => h198 (nI_le (a := 20) z (by have := P.n3; omega)))) (Nat.pos_of_ne_zero (fun z => h126 (by rw [z]; rfl)))
      ·
        refine k_iload C0 dL_law_189 0 rfl ?_
        refine k_iconst C0 3 dL_law_191 (by decide) ?_
        refine k_icmp_ge C0 237 dL_law_192 (by decide) (fun h192 => ?_) (fun h192 => ?_)
        ·
          refine k_iload C0 dL_law_237 0 rfl ?_
          refine k_iconst C0 4 dL_law_239 (by decide) ?_
          refine k_icmp_ge C0 318 dL_law_240 (by decide) (fun h240 => ?_) (fun h240 => ?_)
          ·
            refine k_iload C0 dL_law_318 0 rfl ?_
            refine k_iconst C0 5 dL_law_320 (by decide) ?_
            refine k_icmp_ge C0 369 dL_law_321 (by decide) (fun h321 => ?_) (fun h321 => ?_)
            ·
              refine k_iload C0 dL_law_369 0 rfl ?_
              refine k_bipush C0 8 dL_law_371 (by decide) ?_
              refine k_icmp_ge C0 425 dL_law_373 (by decide) (fun h373 => ?_) (fun h373 => ?_)
              ·
                refine k_iload C0 dL_law_425 0 rfl ?_
                refine k_bipush C0 10 dL_law_427 (by decide) ?_
                refine k_icmp_ge C0 520 dL_law_429 (by decide) (fun h429 => ?_) (fun h429 => ?_)
                ·
                  refine k_iload C0 dL_law_520 0 rfl ?_
                  refine k_bipush C0 11 dL_law_522 (by decide) ?_
                  refine k_icmp_ge C0 627 dL_law_524 (by decide) (fun h524 => ?_) (fun h524 => ?_)
                  ·
                    refine k_iload C0 dL_law_627 0 rfl ?_
                    refine k_bipush C0 12 dL_law_629 (by decide) ?_
                    refine k_icmp_ge C0 720 dL_law_631 (by decide) (fun h631 => ?_) (fun h631 => ?_)
                    ·
                      exact lc_pass C0 K0 hlt P hc gE v srt pp j
                    ·
                      refine k_iload C0 dL_law_634 7 rfl ?_
                      refine k_if_le C0 720 dL_law_636 (by decide) (fun h636 => ?_) (fun h636 => ?_)
                      ·
                        exact lc_pass C0 K0 hlt P hc gE v srt pp j
                      ·
                        refine k_iload C0 dL_law_639 3 rfl ?_
                        refine k_iconst C0 3 dL_law_641 (by decide) ?_
                        refine k_callS C0 K0 dL_law_642 (ct_low l D Y A (WX D Y A sg al []) v 3 (by decide) (by decide)) gkL_69 hyL_low rfl (by exact Nat.le_of_ble_eq_true rfl) ⟨Nat.le_of_ble_eq_true rfl, Nat.le_of_ble_eq_true rfl⟩ (kk_roomP P (by omega)) (fun E => kX_no E) (fun q9 => k_ex (B := q9 < 3) (fun H h => h.1) (fun hq9 => k_W (V' := WX D Y A sg al []) (fun H h => h.2) (k_wid (k2 := kkC c sg) (n2 := kkS c sg) (Nat.le_refl _) (Nat.le_refl _) ?_)))
                        refine k_if_ne C0 720 dL_law_645 (by decide) (fun h645 => ?_) (fun h645 => ?_)
                        ·
                          exact lc_pass C0 K0 hlt P hc gE v srt pp j
                        ·
                          exact lc_cancel C0 K0 hlt P hc gE v srt pp j (Nat.pos_of_ne_zero (fun z => h636 (by rw [z]; decide)))
                  ·
                    refine k_aload_n C0 dL_law_527 10 rfl ?_
                    refine k_callV C0 K0 dL_law_528 (cc_salesN l D Y A sg al (P.lw 2 (by decide))) gkL_62 hyX5_sales (c_recv (sg := sg) (al := al) K0 0 0 rfl rfl rfl) rfl (by exact Nat.le_of_ble_eq_true rfl) ⟨Nat.le_of_ble_eq_true rfl, Nat.le_of_ble_eq_true rfl⟩ (kk_roomP P (by omega)) (fun E => kX_no E) (fun _ => (k_wid (k2 := kkC c sg) (n2 := kkS c sg) (Nat.le_refl _) (Nat.le_refl _) ?_))
                    refine k_if_le C0 627 dL_law_531 (by decide) (fun h531 => ?_) (fun h531 => ?_)
                    ·
                      refine k_iload C0 dL_law_627 0 rfl ?_
                      refine k_bipush C0 12 dL_law_629 (by decide) ?_
                      refine k_icmp_ge C0 720 dL_law_631 (by decide) (fun h631 => ?_) (fun h631 => ?_)
                      ·
                        exact lc_pass C0 K0 hlt P hc gE v srt pp j
                      ·
                        refine k_iload C0 dL_law_634 7 rfl ?_
                        refine k_if_le C0 720 dL_law_636 (by decide) (fun h636 => ?_) (fun h636 => ?_)
                        ·
                          exact lc_pass C0 K0 hlt P hc gE v srt pp j
                        ·
                          refine k_iload C0 dL_law_639 3 rfl ?_
                          refine k_iconst C0 3 dL_law_641 (by decide) ?_
                          refine k_callS C0 K0 dL_law_642 (ct_low l D Y A (WX D Y A sg al []) v 3 (by decide) (by decide)) gkL_69 hyL_low rfl (by exact Nat.le_of_ble_eq_true rfl) ⟨Nat.le_of_ble_eq_true rfl, Nat.le_of_ble_eq_true rfl⟩ (kk_roomP P (by omega)) (fun E => kX_no E) (fun q9 => k_ex (B := q9 < 3) (fun H h => h.1) (fun hq9 => k_W (V' := WX D Y A sg al []) (fun H h => h.2) (k_wid (k2 := kkC c sg) (n2 := kkS c sg) (Nat.le_refl _) (Nat.le_refl _) ?_)))
                          refine k_if_ne C0 720 dL_law_645 (by decide) (fun h645 => ?_) (fun h645 => ?_)
                          ·
                            exact lc_pass C0 K0 hlt P hc gE v srt pp j
                          ·
                            exact lc_cancel C0 K0 hlt P hc gE v srt pp j (Nat.pos_of_ne_zero (fun z => h636 (by rw [z]; decide)))
                    ·
                      exact lc_refund C0 K0 hlt P hc gE v srt pp j (Nat.pos_of_ne_zero (fun z => h531 (by rw [z]; decide)))
                ·
                  refine k_iload C0 dL_law_432 7 rfl ?_
                  refine k_bipush C0 40 dL_law_434 (by decide) ?_
                  refine k_icmp_ge C0 520 dL_law_436 (by decide) (fun h436 => ?_) (fun h436 => ?_)
                  ·
                    refine k_iload C0 dL_law_520 0 rfl ?_
                    refine k_bipush C0 11 dL_law_522 (by decide) ?_
                    refine k_icmp_ge C0 627 dL_law_524 (by decide) (fun h524 => ?_) (fun h524 => ?_)
                    ·
                      refine k_iload C0 dL_law_627 0 rfl ?_
                      refine k_bipush C0 12 dL_law_629 (by decide) ?_
                      refine k_icmp_ge C0 720 dL_law_631 (by decide) (fun h631 => ?_) (fun h631 => ?_)
                      ·
                        exact lc_pass C0 K0 hlt P hc gE v srt pp j
                      ·
                        refine k_iload C0 dL_law_634 7 rfl ?_
                        refine k_if_le C0 720 dL_law_636 (by decide) (fun h636 => ?_) (fun h636 => ?_)
                        ·
                          exact lc_pass C0 K0 hlt P hc gE v srt pp j
                        ·
                          refine k_iload C0 dL_law_639 3 rfl ?_
                          refine k_iconst C0 3 dL_law_641 (by decide) ?_
                          refine k_callS C0 K0 dL_law_642 (ct_low l D Y A (WX D Y A sg al []) v 3 (by decide) (by decide)) gkL_69 hyL_low rfl (by exact Nat.le_of_ble_eq_true rfl) ⟨Nat.le_of_ble_eq_true rfl, Nat.le_of_ble_eq_true rfl⟩ (kk_roomP P (by omega)) (fun E => kX_no E) (fun q9 => k_ex (B := q9 < 3) (fun H h => h.1) (fun hq9 => k_W (V' := WX D Y A sg al []) (fun H h => h.2) (k_wid (k2 := kkC c sg) (n2 := kkS c sg) (Nat.le_refl _) (Nat.le_refl _) ?_)))
                          refine k_if_ne C0 720 dL_law_645 (by decide) (fun h645 => ?_) (fun h645 => ?_)
                          ·
                            exact lc_pass C0 K0 hlt P hc gE v srt pp j
                          ·
                            exact lc_cancel C0 K0 hlt P hc gE v srt pp j (Nat.pos_of_ne_zero (fun z => h636 (by rw [z]; decide)))
                    ·
                      refine k_aload_n C0 dL_law_527 10 rfl ?_
                      refine k_callV C0 K0 dL_law_528 (cc_salesN l D Y A sg al (P.lw 2 (by decide))) gkL_62 hyX5_sales (c_recv (sg := sg) (al := al) K0 0 0 rfl rfl rfl) rfl (by exact Nat.le_of_ble_eq_true rfl) ⟨Nat.le_of_ble_eq_true rfl, Nat.le_of_ble_eq_true rfl⟩ (kk_roomP P (by omega)) (fun E => kX_no E) (fun _ => (k_wid (k2 := kkC c sg) (n2 := kkS c sg) (Nat.le_refl _) (Nat.le_refl _) ?_))
                      refine k_if_le C0 627 dL_law_531 (by decide) (fun h531 => ?_) (fun h531 => ?_)
                      ·
                        refine k_iload C0 dL_law_627 0 rfl ?_
                        refine k_bipush C0 12 dL_law_629 (by decide) ?_
                        refine k_icmp_ge C0 720 dL_law_631 (by decide) (fun h631 => ?_) (fun h631 => ?_)
                        ·
                          exact lc_pass C0 K0 hlt P hc gE v srt pp j
                        ·
                          refine k_iload C0 dL_law_634 7 rfl ?_
                          refine k_if_le C0 720 dL_law_636 (by decide) (fun h636 => ?_) (fun h636 => ?_)
                          ·
                            exact lc_pass C0 K0 hlt P hc gE v srt pp j
                          ·
                            refine k_iload C0 dL_law_639 3 rfl ?_
                            refine k_iconst C0 3 dL_law_641 (by decide) ?_
                            refine k_callS C0 K0 dL_law_642 (ct_low l D Y A (WX D Y A sg al []) v 3 (by decide) (by decide)) gkL_69 hyL_low rfl (by exact Nat.le_of_ble_eq_true rfl) ⟨Nat.le_of_ble_eq_true rfl, Nat.le_of_ble_eq_true rfl⟩ (kk_roomP P (by omega)) (fun E => kX_no E) (fun q9 => k_ex (B := q9 < 3) (fun H h => h.1) (fun hq9 => k_W (V' := WX D Y A sg al []) (fun H h => h.2) (k_wid (k2 := kkC c sg) (n2 := kkS c sg) (Nat.le_refl _) (Nat.le_refl _) ?_)))
                            refine k_if_ne C0 720 dL_law_645 (by decide) (fun h645 => ?_) (fun h645 => ?_)
                            ·
                              exact lc_pass C0 K0 hlt P hc gE v srt pp j
                            ·
                              exact lc_cancel C0 K0 hlt P hc gE v srt pp j (Nat.pos_of_ne_zero (fun z => h636 (by rw [z]; decide)))
                      ·
                        exact lc_refund C0 K0 hlt P hc gE v srt pp j (Nat.pos_of_ne_zero (fun z => h531 (by rw [z]; decide)))
                  ·
                    exact lc_subscribe C0 K0 hlt P hc gE v srt pp j hj (hp (fun z => h186 (by rw [z]; rfl))) (Nat.not_le.mp (fun z => h436 (nI_le (a := 40) z (by have := P.n5; omega))))
              ·
                exact lc_buy C0 K0 hlt P hc gE v srt pp j hj (hp (fun z => h186 (by rw [z]; rfl)))
            ·
              exact lc_setPrice C0 K0 hlt P hc gE v srt pp j hj (hp (fun z => h186 (by rw [z]; rfl)))
          ·
            exact lc_setTax C0 K0 hlt P hc gE v srt pp j hj
        ·
          refine k_iload_n C0 dL_law_195 8 rfl ?_
          refine k_bipush C0 20 dL_law_196 (by decide) ?_
          refine k_icmp_ge C0 237 dL_law_198 (by decide) (fun h198 => ?_) (fun h198 => ?_)
          ·
            refine k_iload C0 dL_law_237 0 rfl ?_
            refine k_iconst C0 4 dL_law_239 (by decide) ?_
            refine k_icmp_ge C0 318 dL_law_240 (by decide) (fun h240 => ?_) (fun h240 => ?_)
            ·
              refine k_iload C0 dL_law_318 0 rfl ?_
              refine k_iconst C0 5 dL_law_320 (by decide) ?_
              refine k_icmp_ge C0 369 dL_law_321 (by decide) (fun h321 => ?_) (fun h321 => ?_)
              ·
                refine k_iload C0 dL_law_369 0 rfl ?_
                refine k_bipush C0 8 dL_law_371 (by decide) ?_
                refine k_icmp_ge C0 425 dL_law_373 (by decide) (fun h373 => ?_) (fun h373 => ?_)
                ·
                  refine k_iload C0 dL_law_425 0 rfl ?_
                  refine k_bipush C0 10 dL_law_427 (by decide) ?_
                  refine k_icmp_ge C0 520 dL_law_429 (by decide) (fun h429 => ?_) (fun h429 => ?_)
                  ·
                    refine k_iload C0 dL_law_520 0 rfl ?_
                    refine k_bipush C0 11 dL_law_522 (by decide) ?_
                    refine k_icmp_ge C0 627 dL_law_524 (by decide) (fun h524 => ?_) (fun h524 => ?_)
                    ·
                      refine k_iload C0 dL_law_627 0 rfl ?_
                      refine k_bipush C0 12 dL_law_629 (by decide) ?_
                      refine k_icmp_ge C0 720 dL_law_631 (by decide) (fun h631 => ?_) (fun h631 => ?_)
                      ·
                        exact lc_pass C0 K0 hlt P hc gE v srt pp j
                      ·
                        refine k_iload C0 dL_law_634 7 rfl ?_
                        refine k_if_le C0 720 dL_law_636 (by decide) (fun h636 => ?_) (fun h636 => ?_)
                        ·
                          exact lc_pass C0 K0 hlt P hc gE v srt pp j
                        ·
                          refine k_iload C0 dL_law_639 3 rfl ?_
                          refine k_iconst C0 3 dL_law_641 (by decide) ?_
                          refine k_callS C0 K0 dL_law_642 (ct_low l D Y A (WX D Y A sg al []) v 3 (by decide) (by decide)) gkL_69 hyL_low rfl (by exact Nat.le_of_ble_eq_true rfl) ⟨Nat.le_of_ble_eq_true rfl, Nat.le_of_ble_eq_true rfl⟩ (kk_roomP P (by omega)) (fun E => kX_no E) (fun q9 => k_ex (B := q9 < 3) (fun H h => h.1) (fun hq9 => k_W (V' := WX D Y A sg al []) (fun H h => h.2) (k_wid (k2 := kkC c sg) (n2 := kkS c sg) (Nat.le_refl _) (Nat.le_refl _) ?_)))
                          refine k_if_ne C0 720 dL_law_645 (by decide) (fun h645 => ?_) (fun h645 => ?_)
                          ·
                            exact lc_pass C0 K0 hlt P hc gE v srt pp j
                          ·
                            exact lc_cancel C0 K0 hlt P hc gE v srt pp j (Nat.pos_of_ne_zero (fun z => h636 (by rw [z]; decide)))
                    ·
                      refine k_aload_n C0 dL_law_527 10 rfl ?_
                      refine k_callV C0 K0 dL_law_528 (cc_salesN l D Y A sg al (P.lw 2 (by decide))) gkL_62 hyX5_sales (c_recv (sg := sg) (al := al) K0 0 0 rfl rfl rfl) rfl (by exact Nat.le_of_ble_eq_true rfl) ⟨Nat.le_of_ble_eq_true rfl, Nat.le_of_ble_eq_true rfl⟩ (kk_roomP P (by omega)) (fun E => kX_no E) (fun _ => (k_wid (k2 := kkC c sg) (n2 := kkS c sg) (Nat.le_refl _) (Nat.le_refl _) ?_))
                      refine k_if_le C0 627 dL_law_531 (by decide) (fun h531 => ?_) (fun h531 => ?_)
                      ·
                        refine k_iload C0 dL_law_627 0 rfl ?_
                        refine k_bipush C0 12 dL_law_629 (by decide) ?_
                        refine k_icmp_ge C0 720 dL_law_631 (by decide) (fun h631 => ?_) (fun h631 => ?_)
                        ·
                          exact lc_pass C0 K0 hlt P hc gE v srt pp j
                        ·
                          refine k_iload C0 dL_law_634 7 rfl ?_
                          refine k_if_le C0 720 dL_law_636 (by decide) (fun h636 => ?_) (fun h636 => ?_)
                          ·
                            exact lc_pass C0 K0 hlt P hc gE v srt pp j
                          ·
                            refine k_iload C0 dL_law_639 3 rfl ?_
                            refine k_iconst C0 3 dL_law_641 (by decide) ?_
                            refine k_callS C0 K0 dL_law_642 (ct_low l D Y A (WX D Y A sg al []) v 3 (by decide) (by decide)) gkL_69 hyL_low rfl (by exact Nat.le_of_ble_eq_true rfl) ⟨Nat.le_of_ble_eq_true rfl, Nat.le_of_ble_eq_true rfl⟩ (kk_roomP P (by omega)) (fun E => kX_no E) (fun q9 => k_ex (B := q9 < 3) (fun H h => h.1) (fun hq9 => k_W (V' := WX D Y A sg al []) (fun H h => h.2) (k_wid (k2 := kkC c sg) (n2 := kkS c sg) (Nat.le_refl _) (Nat.le_refl _) ?_)))
                            refine k_if_ne C0 720 dL_law_645 (by decide) (fun h645 => ?_) (fun h645 => ?_)
                            ·
                              exact lc_pass C0 K0 hlt P hc gE v srt pp j
                            ·
                              exact lc_cancel C0 K0 hlt P hc gE v srt pp j (Nat.pos_of_ne_zero (fun z => h636 (by rw [z]; decide)))
                      ·
                        exact lc_refund C0 K0 hlt P hc gE v srt pp j (Nat.pos_of_ne_zero (fun z => h531 (by rw [z]; decide)))
                  ·
                    refine k_iload C0 dL_law_432 7 rfl ?_
                    refine k_bipush C0 40 dL_law_434 (by decide) ?_
                    refine k_icmp_ge C0 520 dL_law_436 (by decide) (fun h436 => ?_) (fun h436 => ?_)
                    ·
                      refine k_iload C0 dL_law_520 0 rfl ?_
                      refine k_bipush C0 11 dL_law_522 (by decide) ?_
                      refine k_icmp_ge C0 627 dL_law_524 (by decide) (fun h524 => ?_) (fun h524 => ?_)
                      ·
                        refine k_iload C0 dL_law_627 0 rfl ?_
                        refine k_bipush C0 12 dL_law_629 (by decide) ?_
                        refine k_icmp_ge C0 720 dL_law_631 (by decide) (fun h631 => ?_) (fun h631 => ?_)
                        ·
                          exact lc_pass C0 K0 hlt P hc gE v srt pp j
                        ·
                          refine k_iload C0 dL_law_634 7 rfl ?_
                          refine k_if_le C0 720 dL_law_636 (by decide) (fun h636 => ?_) (fun h636 => ?_)
                          ·
                            exact lc_pass C0 K0 hlt P hc gE v srt pp j
                          ·
                            refine k_iload C0 dL_law_639 3 rfl ?_
                            refine k_iconst C0 3 dL_law_641 (by decide) ?_
                            refine k_callS C0 K0 dL_law_642 (ct_low l D Y A (WX D Y A sg al []) v 3 (by decide) (by decide)) gkL_69 hyL_low rfl (by exact Nat.le_of_ble_eq_true rfl) ⟨Nat.le_of_ble_eq_true rfl, Nat.le_of_ble_eq_true rfl⟩ (kk_roomP P (by omega)) (fun E => kX_no E) (fun q9 => k_ex (B := q9 < 3) (fun H h => h.1) (fun hq9 => k_W (V' := WX D Y A sg al []) (fun H h => h.2) (k_wid (k2 := kkC c sg) (n2 := kkS c sg) (Nat.le_refl _) (Nat.le_refl _) ?_)))
                            refine k_if_ne C0 720 dL_law_645 (by decide) (fun h645 => ?_) (fun h645 => ?_)
                            ·
                              exact lc_pass C0 K0 hlt P hc gE v srt pp j
                            ·
                              exact lc_cancel C0 K0 hlt P hc gE v srt pp j (Nat.pos_of_ne_zero (fun z => h636 (by rw [z]; decide)))
                      ·
                        refine k_aload_n C0 dL_law_527 10 rfl ?_
                        refine k_callV C0 K0 dL_law_528 (cc_salesN l D Y A sg al (P.lw 2 (by decide))) gkL_62 hyX5_sales (c_recv (sg := sg) (al := al) K0 0 0 rfl rfl rfl) rfl (by exact Nat.le_of_ble_eq_true rfl) ⟨Nat.le_of_ble_eq_true rfl, Nat.le_of_ble_eq_true rfl⟩ (kk_roomP P (by omega)) (fun E => kX_no E) (fun _ => (k_wid (k2 := kkC c sg) (n2 := kkS c sg) (Nat.le_refl _) (Nat.le_refl _) ?_))
                        refine k_if_le C0 627 dL_law_531 (by decide) (fun h531 => ?_) (fun h531 => ?_)
                        ·
                          refine k_iload C0 dL_law_627 0 rfl ?_
                          refine k_bipush C0 12 dL_law_629 (by decide) ?_
                          refine k_icmp_ge C0 720 dL_law_631 (by decide) (fun h631 => ?_) (fun h631 => ?_)
                          ·
                            exact lc_pass C0 K0 hlt P hc gE v srt pp j
                          ·
                            refine k_iload C0 dL_law_634 7 rfl ?_
                            refine k_if_le C0 720 dL_law_636 (by decide) (fun h636 => ?_) (fun h636 => ?_)
                            ·
                              exact lc_pass C0 K0 hlt P hc gE v srt pp j
                            ·
                              refine k_iload C0 dL_law_639 3 rfl ?_
                              refine k_iconst C0 3 dL_law_641 (by decide) ?_
                              refine k_callS C0 K0 dL_law_642 (ct_low l D Y A (WX D Y A sg al []) v 3 (by decide) (by decide)) gkL_69 hyL_low rfl (by exact Nat.le_of_ble_eq_true rfl) ⟨Nat.le_of_ble_eq_true rfl, Nat.le_of_ble_eq_true rfl⟩ (kk_roomP P (by omega)) (fun E => kX_no E) (fun q9 => k_ex (B := q9 < 3) (fun H h => h.1) (fun hq9 => k_W (V' := WX D Y A sg al []) (fun H h => h.2) (k_wid (k2 := kkC c sg) (n2 := kkS c sg) (Nat.le_refl _) (Nat.le_refl _) ?_)))
                              refine k_if_ne C0 720 dL_law_645 (by decide) (fun h645 => ?_) (fun h645 => ?_)
                              ·
                                exact lc_pass C0 K0 hlt P hc gE v srt pp j
                              ·
                                exact lc_cancel C0 K0 hlt P hc gE v srt pp j (Nat.pos_of_ne_zero (fun z => h636 (by rw [z]; decide)))
                        ·
                          exact lc_refund C0 K0 hlt P hc gE v srt pp j (Nat.pos_of_ne_zero (fun z => h531 (by rw [z]; decide)))
                    ·
                      exact lc_subscribe C0 K0 hlt P hc gE v srt pp j hj (hp (fun z => h186 (by rw [z]; rfl))) (Nat.not_le.mp (fun z => h436 (nI_le (a := 40) z (by have := P.n5; omega))))
                ·
                  exact lc_buy C0 K0 hlt P hc gE v srt pp j hj (hp (fun z => h186 (by rw [z]; rfl)))
              ·
                exact lc_setPrice C0 K0 hlt P hc gE v srt pp j hj (hp (fun z => h186 (by rw [z]; rfl)))
            ·
              exact lc_setTax C0 K0 hlt P hc gE v srt pp j hj
          ·
            exact lc_addProduct C0 K0 hlt P hc gE v srt pp j (by first | exact (by have := nI_z (by have := P.n3; omega) h186; omega) | exact Nat.not_le.mp (fun z => h198 (nI_le (a := 20) z (by have := P.n3; omega)))) (Nat.pos_of_ne_zero (fun z => h126 (by rw [z]; rfl)))
    ·
      refine k_iload_n C0 dL_law_135 9 rfl ?_
      refine k_bipush C0 6 dL_law_136 (by decide) ?_
      refine k_icmp_ge C0 185 dL_law_138 (by decide) (fun h138 => ?_) (fun h138 => ?_)
      ·
        refine k_iload_n C0 dL_law_185 8 rfl ?_
        refine k_if_eq C0 201 dL_law_186 (by decide) (fun h186 => ?_) (fun h186 => ?_)
        ·
          exact lc_addProduct C0 K0 hlt P hc gE v srt pp j (by first | exact (by have := nI_z (by have := P.n3; omega) h186; omega) | exact Nat.not_le.mp (fun z => h198 (nI_le (a := 20) z (by have := P.n3; omega)))) (Nat.pos_of_ne_zero (fun z => h126 (by rw [z]; rfl)))
        ·
          refine k_iload C0 dL_law_189 0 rfl ?_
          refine k_iconst C0 3 dL_law_191 (by decide) ?_
          refine k_icmp_ge C0 237 dL_law_192 (by decide) (fun h192 => ?_) (fun h192 => ?_)
          ·
            refine k_iload C0 dL_law_237 0 rfl ?_
            refine k_iconst C0 4 dL_law_239 (by decide) ?_
            refine k_icmp_ge C0 318 dL_law_240 (by decide) (fun h240 => ?_) (fun h240 => ?_)
            ·
              refine k_iload C0 dL_law_318 0 rfl ?_
              refine k_iconst C0 5 dL_law_320 (by decide) ?_
              refine k_icmp_ge C0 369 dL_law_321 (by decide) (fun h321 => ?_) (fun h321 => ?_)
              ·
                refine k_iload C0 dL_law_369 0 rfl ?_
                refine k_bipush C0 8 dL_law_371 (by decide) ?_
                refine k_icmp_ge C0 425 dL_law_373 (by decide) (fun h373 => ?_) (fun h373 => ?_)
                ·
                  refine k_iload C0 dL_law_425 0 rfl ?_
                  refine k_bipush C0 10 dL_law_427 (by decide) ?_
                  refine k_icmp_ge C0 520 dL_law_429 (by decide) (fun h429 => ?_) (fun h429 => ?_)
                  ·
                    refine k_iload C0 dL_law_520 0 rfl ?_
                    refine k_bipush C0 11 dL_law_522 (by decide) ?_
                    refine k_icmp_ge C0 627 dL_law_524 (by decide) (fun h524 => ?_) (fun h524 => ?_)
                    ·
                      refine k_iload C0 dL_law_627 0 rfl ?_
                      refine k_bipush C0 12 dL_law_629 (by decide) ?_
                      refine k_icmp_ge C0 720 dL_law_631 (by decide) (fun h631 => ?_) (fun h631 => ?_)
                      ·
                        exact lc_pass C0 K0 hlt P hc gE v srt pp j
                      ·
                        refine k_iload C0 dL_law_634 7 rfl ?_
                        refine k_if_le C0 720 dL_law_636 (by decide) (fun h636 => ?_) (fun h636 => ?_)
                        ·
                          exact lc_pass C0 K0 hlt P hc gE v srt pp j
                        ·
                          refine k_iload C0 dL_law_639 3 rfl ?_
                          refine k_iconst C0 3 dL_law_641 (by decide) ?_
                          refine k_callS C0 K0 dL_law_642 (ct_low l D Y A (WX D Y A sg al []) v 3 (by decide) (by decide)) gkL_69 hyL_low rfl (by exact Nat.le_of_ble_eq_true rfl) ⟨Nat.le_of_ble_eq_true rfl, Nat.le_of_ble_eq_true rfl⟩ (kk_roomP P (by omega)) (fun E => kX_no E) (fun q9 => k_ex (B := q9 < 3) (fun H h => h.1) (fun hq9 => k_W (V' := WX D Y A sg al []) (fun H h => h.2) (k_wid (k2 := kkC c sg) (n2 := kkS c sg) (Nat.le_refl _) (Nat.le_refl _) ?_)))
                          refine k_if_ne C0 720 dL_law_645 (by decide) (fun h645 => ?_) (fun h645 => ?_)
                          ·
                            exact lc_pass C0 K0 hlt P hc gE v srt pp j
                          ·
                            exact lc_cancel C0 K0 hlt P hc gE v srt pp j (Nat.pos_of_ne_zero (fun z => h636 (by rw [z]; decide)))
                    ·
                      refine k_aload_n C0 dL_law_527 10 rfl ?_
                      refine k_callV C0 K0 dL_law_528 (cc_salesN l D Y A sg al (P.lw 2 (by decide))) gkL_62 hyX5_sales (c_recv (sg := sg) (al := al) K0 0 0 rfl rfl rfl) rfl (by exact Nat.le_of_ble_eq_true rfl) ⟨Nat.le_of_ble_eq_true rfl, Nat.le_of_ble_eq_true rfl⟩ (kk_roomP P (by omega)) (fun E => kX_no E) (fun _ => (k_wid (k2 := kkC c sg) (n2 := kkS c sg) (Nat.le_refl _) (Nat.le_refl _) ?_))
                      refine k_if_le C0 627 dL_law_531 (by decide) (fun h531 => ?_) (fun h531 => ?_)
                      ·
                        refine k_iload C0 dL_law_627 0 rfl ?_
                        refine k_bipush C0 12 dL_law_629 (by decide) ?_
                        refine k_icmp_ge C0 720 dL_law_631 (by decide) (fun h631 => ?_) (fun h631 => ?_)
                        ·
                          exact lc_pass C0 K0 hlt P hc gE v srt pp j
                        ·
                          refine k_iload C0 dL_law_634 7 rfl ?_
                          refine k_if_le C0 720 dL_law_636 (by decide) (fun h636 => ?_) (fun h636 => ?_)
                          ·
                            exact lc_pass C0 K0 hlt P hc gE v srt pp j
                          ·
                            refine k_iload C0 dL_law_639 3 rfl ?_
                            refine k_iconst C0 3 dL_law_641 (by decide) ?_
                            refine k_callS C0 K0 dL_law_642 (ct_low l D Y A (WX D Y A sg al []) v 3 (by decide) (by decide)) gkL_69 hyL_low rfl (by exact Nat.le_of_ble_eq_true rfl) ⟨Nat.le_of_ble_eq_true rfl, Nat.le_of_ble_eq_true rfl⟩ (kk_roomP P (by omega)) (fun E => kX_no E) (fun q9 => k_ex (B := q9 < 3) (fun H h => h.1) (fun hq9 => k_W (V' := WX D Y A sg al []) (fun H h => h.2) (k_wid (k2 := kkC c sg) (n2 := kkS c sg) (Nat.le_refl _) (Nat.le_refl _) ?_)))
                            refine k_if_ne C0 720 dL_law_645 (by decide) (fun h645 => ?_) (fun h645 => ?_)
                            ·
                              exact lc_pass C0 K0 hlt P hc gE v srt pp j
                            ·
                              exact lc_cancel C0 K0 hlt P hc gE v srt pp j (Nat.pos_of_ne_zero (fun z => h636 (by rw [z]; decide)))
                      ·
                        exact lc_refund C0 K0 hlt P hc gE v srt pp j (Nat.pos_of_ne_zero (fun z => h531 (by rw [z]; decide)))
                  ·
                    refine k_iload C0 dL_law_432 7 rfl ?_
                    refine k_bipush C0 40 dL_law_434 (by decide) ?_
                    refine k_icmp_ge C0 520 dL_law_436 (by decide) (fun h436 => ?_) (fun h436 => ?_)
                    ·
                      refine k_iload C0 dL_law_520 0 rfl ?_
                      refine k_bipush C0 11 dL_law_522 (by decide) ?_
                      refine k_icmp_ge C0 627 dL_law_524 (by decide) (fun h524 => ?_) (fun h524 => ?_)
                      ·
                        refine k_iload C0 dL_law_627 0 rfl ?_
                        refine k_bipush C0 12 dL_law_629 (by decide) ?_
                        refine k_icmp_ge C0 720 dL_law_631 (by decide) (fun h631 => ?_) (fun h631 => ?_)
                        ·
                          exact lc_pass C0 K0 hlt P hc gE v srt pp j
                        ·
                          refine k_iload C0 dL_law_634 7 rfl ?_
                          refine k_if_le C0 720 dL_law_636 (by decide) (fun h636 => ?_) (fun h636 => ?_)
                          ·
                            exact lc_pass C0 K0 hlt P hc gE v srt pp j
                          ·
                            refine k_iload C0 dL_law_639 3 rfl ?_
                            refine k_iconst C0 3 dL_law_641 (by decide) ?_
                            refine k_callS C0 K0 dL_law_642 (ct_low l D Y A (WX D Y A sg al []) v 3 (by decide) (by decide)) gkL_69 hyL_low rfl (by exact Nat.le_of_ble_eq_true rfl) ⟨Nat.le_of_ble_eq_true rfl, Nat.le_of_ble_eq_true rfl⟩ (kk_roomP P (by omega)) (fun E => kX_no E) (fun q9 => k_ex (B := q9 < 3) (fun H h => h.1) (fun hq9 => k_W (V' := WX D Y A sg al []) (fun H h => h.2) (k_wid (k2 := kkC c sg) (n2 := kkS c sg) (Nat.le_refl _) (Nat.le_refl _) ?_)))
                            refine k_if_ne C0 720 dL_law_645 (by decide) (fun h645 => ?_) (fun h645 => ?_)
                            ·
                              exact lc_pass C0 K0 hlt P hc gE v srt pp j
                            ·
                              exact lc_cancel C0 K0 hlt P hc gE v srt pp j (Nat.pos_of_ne_zero (fun z => h636 (by rw [z]; decide)))
                      ·
                        refine k_aload_n C0 dL_law_527 10 rfl ?_
                        refine k_callV C0 K0 dL_law_528 (cc_salesN l D Y A sg al (P.lw 2 (by decide))) gkL_62 hyX5_sales (c_recv (sg := sg) (al := al) K0 0 0 rfl rfl rfl) rfl (by exact Nat.le_of_ble_eq_true rfl) ⟨Nat.le_of_ble_eq_true rfl, Nat.le_of_ble_eq_true rfl⟩ (kk_roomP P (by omega)) (fun E => kX_no E) (fun _ => (k_wid (k2 := kkC c sg) (n2 := kkS c sg) (Nat.le_refl _) (Nat.le_refl _) ?_))
                        refine k_if_le C0 627 dL_law_531 (by decide) (fun h531 => ?_) (fun h531 => ?_)
                        ·
                          refine k_iload C0 dL_law_627 0 rfl ?_
                          refine k_bipush C0 12 dL_law_629 (by decide) ?_
                          refine k_icmp_ge C0 720 dL_law_631 (by decide) (fun h631 => ?_) (fun h631 => ?_)
                          ·
                            exact lc_pass C0 K0 hlt P hc gE v srt pp j
                          ·
                            refine k_iload C0 dL_law_634 7 rfl ?_
                            refine k_if_le C0 720 dL_law_636 (by decide) (fun h636 => ?_) (fun h636 => ?_)
                            ·
                              exact lc_pass C0 K0 hlt P hc gE v srt pp j
                            ·
                              refine k_iload C0 dL_law_639 3 rfl ?_
                              refine k_iconst C0 3 dL_law_641 (by decide) ?_
                              refine k_callS C0 K0 dL_law_642 (ct_low l D Y A (WX D Y A sg al []) v 3 (by decide) (by decide)) gkL_69 hyL_low rfl (by exact Nat.le_of_ble_eq_true rfl) ⟨Nat.le_of_ble_eq_true rfl, Nat.le_of_ble_eq_true rfl⟩ (kk_roomP P (by omega)) (fun E => kX_no E) (fun q9 => k_ex (B := q9 < 3) (fun H h => h.1) (fun hq9 => k_W (V' := WX D Y A sg al []) (fun H h => h.2) (k_wid (k2 := kkC c sg) (n2 := kkS c sg) (Nat.le_refl _) (Nat.le_refl _) ?_)))
                              refine k_if_ne C0 720 dL_law_645 (by decide) (fun h645 => ?_) (fun h645 => ?_)
                              ·
                                exact lc_pass C0 K0 hlt P hc gE v srt pp j
                              ·
                                exact lc_cancel C0 K0 hlt P hc gE v srt pp j (Nat.pos_of_ne_zero (fun z => h636 (by rw [z]; decide)))
                        ·
                          exact lc_refund C0 K0 hlt P hc gE v srt pp j (Nat.pos_of_ne_zero (fun z => h531 (by rw [z]; decide)))
                    ·
                      exact lc_subscribe C0 K0 hlt P hc gE v srt pp j hj (hp (fun z => h186 (by rw [z]; rfl))) (Nat.not_le.mp (fun z => h436 (nI_le (a := 40) z (by have := P.n5; omega))))
                ·
                  exact lc_buy C0 K0 hlt P hc gE v srt pp j hj (hp (fun z => h186 (by rw [z]; rfl)))
              ·
                exact lc_setPrice C0 K0 hlt P hc gE v srt pp j hj (hp (fun z => h186 (by rw [z]; rfl)))
            ·
              exact lc_setTax C0 K0 hlt P hc gE v srt pp j hj
          ·
            refine k_iload_n C0 dL_law_195 8 rfl ?_
            refine k_bipush C0 20 dL_law_196 (by decide) ?_
            refine k_icmp_ge C0 237 dL_law_198 (by decide) (fun h198 => ?_) (fun h198 => ?_)
            ·
              refine k_iload C0 dL_law_237 0 rfl ?_
              refine k_iconst C0 4 dL_law_239 (by decide) ?_
              refine k_icmp_ge C0 318 dL_law_240 (by decide) (fun h240 => ?_) (fun h240 => ?_)
              ·
                refine k_iload C0 dL_law_318 0 rfl ?_
                refine k_iconst C0 5 dL_law_320 (by decide) ?_
                refine k_icmp_ge C0 369 dL_law_321 (by decide) (fun h321 => ?_) (fun h321 => ?_)
                ·
                  refine k_iload C0 dL_law_369 0 rfl ?_
                  refine k_bipush C0 8 dL_law_371 (by decide) ?_
                  refine k_icmp_ge C0 425 dL_law_373 (by decide) (fun h373 => ?_) (fun h373 => ?_)
                  ·
                    refine k_iload C0 dL_law_425 0 rfl ?_
                    refine k_bipush C0 10 dL_law_427 (by decide) ?_
                    refine k_icmp_ge C0 520 dL_law_429 (by decide) (fun h429 => ?_) (fun h429 => ?_)
                    ·
                      refine k_iload C0 dL_law_520 0 rfl ?_
                      refine k_bipush C0 11 dL_law_522 (by decide) ?_
                      refine k_icmp_ge C0 627 dL_law_524 (by decide) (fun h524 => ?_) (fun h524 => ?_)
                      ·
                        refine k_iload C0 dL_law_627 0 rfl ?_
                        refine k_bipush C0 12 dL_law_629 (by decide) ?_
                        refine k_icmp_ge C0 720 dL_law_631 (by decide) (fun h631 => ?_) (fun h631 => ?_)
                        ·
                          exact lc_pass C0 K0 hlt P hc gE v srt pp j
                        ·
                          refine k_iload C0 dL_law_634 7 rfl ?_
                          refine k_if_le C0 720 dL_law_636 (by decide) (fun h636 => ?_) (fun h636 => ?_)
                          ·
                            exact lc_pass C0 K0 hlt P hc gE v srt pp j
                          ·
                            refine k_iload C0 dL_law_639 3 rfl ?_
                            refine k_iconst C0 3 dL_law_641 (by decide) ?_
                            refine k_callS C0 K0 dL_law_642 (ct_low l D Y A (WX D Y A sg al []) v 3 (by decide) (by decide)) gkL_69 hyL_low rfl (by exact Nat.le_of_ble_eq_true rfl) ⟨Nat.le_of_ble_eq_true rfl, Nat.le_of_ble_eq_true rfl⟩ (kk_roomP P (by omega)) (fun E => kX_no E) (fun q9 => k_ex (B := q9 < 3) (fun H h => h.1) (fun hq9 => k_W (V' := WX D Y A sg al []) (fun H h => h.2) (k_wid (k2 := kkC c sg) (n2 := kkS c sg) (Nat.le_refl _) (Nat.le_refl _) ?_)))
                            refine k_if_ne C0 720 dL_law_645 (by decide) (fun h645 => ?_) (fun h645 => ?_)
                            ·
                              exact lc_pass C0 K0 hlt P hc gE v srt pp j
                            ·
                              exact lc_cancel C0 K0 hlt P hc gE v srt pp j (Nat.pos_of_ne_zero (fun z => h636 (by rw [z]; decide)))
                      ·
                        refine k_aload_n C0 dL_law_527 10 rfl ?_
                        refine k_callV C0 K0 dL_law_528 (cc_salesN l D Y A sg al (P.lw 2 (by decide))) gkL_62 hyX5_sales (c_recv (sg := sg) (al := al) K0 0 0 rfl rfl rfl) rfl (by exact Nat.le_of_ble_eq_true rfl) ⟨Nat.le_of_ble_eq_true rfl, Nat.le_of_ble_eq_true rfl⟩ (kk_roomP P (by omega)) (fun E => kX_no E) (fun _ => (k_wid (k2 := kkC c sg) (n2 := kkS c sg) (Nat.le_refl _) (Nat.le_refl _) ?_))
                        refine k_if_le C0 627 dL_law_531 (by decide) (fun h531 => ?_) (fun h531 => ?_)
                        ·
                          refine k_iload C0 dL_law_627 0 rfl ?_
                          refine k_bipush C0 12 dL_law_629 (by decide) ?_
                          refine k_icmp_ge C0 720 dL_law_631 (by decide) (fun h631 => ?_) (fun h631 => ?_)
                          ·
                            exact lc_pass C0 K0 hlt P hc gE v srt pp j
                          ·
                            refine k_iload C0 dL_law_634 7 rfl ?_
                            refine k_if_le C0 720 dL_law_636 (by decide) (fun h636 => ?_) (fun h636 => ?_)
                            ·
                              exact lc_pass C0 K0 hlt P hc gE v srt pp j
                            ·
                              refine k_iload C0 dL_law_639 3 rfl ?_
                              refine k_iconst C0 3 dL_law_641 (by decide) ?_
                              refine k_callS C0 K0 dL_law_642 (ct_low l D Y A (WX D Y A sg al []) v 3 (by decide) (by decide)) gkL_69 hyL_low rfl (by exact Nat.le_of_ble_eq_true rfl) ⟨Nat.le_of_ble_eq_true rfl, Nat.le_of_ble_eq_true rfl⟩ (kk_roomP P (by omega)) (fun E => kX_no E) (fun q9 => k_ex (B := q9 < 3) (fun H h => h.1) (fun hq9 => k_W (V' := WX D Y A sg al []) (fun H h => h.2) (k_wid (k2 := kkC c sg) (n2 := kkS c sg) (Nat.le_refl _) (Nat.le_refl _) ?_)))
                              refine k_if_ne C0 720 dL_law_645 (by decide) (fun h645 => ?_) (fun h645 => ?_)
                              ·
                                exact lc_pass C0 K0 hlt P hc gE v srt pp j
                              ·
                                exact lc_cancel C0 K0 hlt P hc gE v srt pp j (Nat.pos_of_ne_zero (fun z => h636 (by rw [z]; decide)))
                        ·
                          exact lc_refund C0 K0 hlt P hc gE v srt pp j (Nat.pos_of_ne_zero (fun z => h531 (by rw [z]; decide)))
                    ·
                      refine k_iload C0 dL_law_432 7 rfl ?_
                      refine k_bipush C0 40 dL_law_434 (by decide) ?_
                      refine k_icmp_ge C0 520 dL_law_436 (by decide) (fun h436 => ?_) (fun h436 => ?_)
                      ·
                        refine k_iload C0 dL_law_520 0 rfl ?_
                        refine k_bipush C0 11 dL_law_522 (by decide) ?_
                        refine k_icmp_ge C0 627 dL_law_524 (by decide) (fun h524 => ?_) (fun h524 => ?_)
                        ·
                          refine k_iload C0 dL_law_627 0 rfl ?_
                          refine k_bipush C0 12 dL_law_629 (by decide) ?_
                          refine k_icmp_ge C0 720 dL_law_631 (by decide) (fun h631 => ?_) (fun h631 => ?_)
                          ·
                            exact lc_pass C0 K0 hlt P hc gE v srt pp j
                          ·
                            refine k_iload C0 dL_law_634 7 rfl ?_
                            refine k_if_le C0 720 dL_law_636 (by decide) (fun h636 => ?_) (fun h636 => ?_)
                            ·
                              exact lc_pass C0 K0 hlt P hc gE v srt pp j
                            ·
                              refine k_iload C0 dL_law_639 3 rfl ?_
                              refine k_iconst C0 3 dL_law_641 (by decide) ?_
                              refine k_callS C0 K0 dL_law_642 (ct_low l D Y A (WX D Y A sg al []) v 3 (by decide) (by decide)) gkL_69 hyL_low rfl (by exact Nat.le_of_ble_eq_true rfl) ⟨Nat.le_of_ble_eq_true rfl, Nat.le_of_ble_eq_true rfl⟩ (kk_roomP P (by omega)) (fun E => kX_no E) (fun q9 => k_ex (B := q9 < 3) (fun H h => h.1) (fun hq9 => k_W (V' := WX D Y A sg al []) (fun H h => h.2) (k_wid (k2 := kkC c sg) (n2 := kkS c sg) (Nat.le_refl _) (Nat.le_refl _) ?_)))
                              refine k_if_ne C0 720 dL_law_645 (by decide) (fun h645 => ?_) (fun h645 => ?_)
                              ·
                                exact lc_pass C0 K0 hlt P hc gE v srt pp j
                              ·
                                exact lc_cancel C0 K0 hlt P hc gE v srt pp j (Nat.pos_of_ne_zero (fun z => h636 (by rw [z]; decide)))
                        ·
                          refine k_aload_n C0 dL_law_527 10 rfl ?_
                          refine k_callV C0 K0 dL_law_528 (cc_salesN l D Y A sg al (P.lw 2 (by decide))) gkL_62 hyX5_sales (c_recv (sg := sg) (al := al) K0 0 0 rfl rfl rfl) rfl (by exact Nat.le_of_ble_eq_true rfl) ⟨Nat.le_of_ble_eq_true rfl, Nat.le_of_ble_eq_true rfl⟩ (kk_roomP P (by omega)) (fun E => kX_no E) (fun _ => (k_wid (k2 := kkC c sg) (n2 := kkS c sg) (Nat.le_refl _) (Nat.le_refl _) ?_))
                          refine k_if_le C0 627 dL_law_531 (by decide) (fun h531 => ?_) (fun h531 => ?_)
                          ·
                            refine k_iload C0 dL_law_627 0 rfl ?_
                            refine k_bipush C0 12 dL_law_629 (by decide) ?_
                            refine k_icmp_ge C0 720 dL_law_631 (by decide) (fun h631 => ?_) (fun h631 => ?_)
                            ·
                              exact lc_pass C0 K0 hlt P hc gE v srt pp j
                            ·
                              refine k_iload C0 dL_law_634 7 rfl ?_
                              refine k_if_le C0 720 dL_law_636 (by decide) (fun h636 => ?_) (fun h636 => ?_)
                              ·
                                exact lc_pass C0 K0 hlt P hc gE v srt pp j
                              ·
                                refine k_iload C0 dL_law_639 3 rfl ?_
                                refine k_iconst C0 3 dL_law_641 (by decide) ?_
                                refine k_callS C0 K0 dL_law_642 (ct_low l D Y A (WX D Y A sg al []) v 3 (by decide) (by decide)) gkL_69 hyL_low rfl (by exact Nat.le_of_ble_eq_true rfl) ⟨Nat.le_of_ble_eq_true rfl, Nat.le_of_ble_eq_true rfl⟩ (kk_roomP P (by omega)) (fun E => kX_no E) (fun q9 => k_ex (B := q9 < 3) (fun H h => h.1) (fun hq9 => k_W (V' := WX D Y A sg al []) (fun H h => h.2) (k_wid (k2 := kkC c sg) (n2 := kkS c sg) (Nat.le_refl _) (Nat.le_refl _) ?_)))
                                refine k_if_ne C0 720 dL_law_645 (by decide) (fun h645 => ?_) (fun h645 => ?_)
                                ·
                                  exact lc_pass C0 K0 hlt P hc gE v srt pp j
                                ·
                                  exact lc_cancel C0 K0 hlt P hc gE v srt pp j (Nat.pos_of_ne_zero (fun z => h636 (by rw [z]; decide)))
                          ·
                            exact lc_refund C0 K0 hlt P hc gE v srt pp j (Nat.pos_of_ne_zero (fun z => h531 (by rw [z]; decide)))
                      ·
                        exact lc_subscribe C0 K0 hlt P hc gE v srt pp j hj (hp (fun z => h186 (by rw [z]; rfl))) (Nat.not_le.mp (fun z => h436 (nI_le (a := 40) z (by have := P.n5; omega))))
                  ·
                    exact lc_buy C0 K0 hlt P hc gE v srt pp j hj (hp (fun z => h186 (by rw [z]; rfl)))
                ·
                  exact lc_setPrice C0 K0 hlt P hc gE v srt pp j hj (hp (fun z => h186 (by rw [z]; rfl)))
              ·
                exact lc_setTax C0 K0 hlt P hc gE v srt pp j hj
            ·
              exact lc_addProduct C0 K0 hlt P hc gE v srt pp j (by first | exact (by have := nI_z (by have := P.n3; omega) h186; omega) | exact Nat.not_le.mp (fun z => h198 (nI_le (a := 20) z (by have := P.n3; omega)))) (Nat.pos_of_ne_zero (fun z => h126 (by rw [z]; rfl)))
      ·
        exact lc_addMaker C0 K0 hlt P hc gE v srt pp j (by first | exact (by have := nI_z (by have := P.n2; omega) h126; omega) | exact Nat.not_le.mp (fun z => h138 (nI_le (a := 6) z (by have := P.n2; omega))))
