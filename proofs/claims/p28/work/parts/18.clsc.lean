def c_pct (sg : Sg) (p : Nat) (lt : Int32) : Int32 := if ¬ lt = 0 ∨ sg.1 2 (sg.2 3 p 1) 4 < 1000000 then 15 else 30
def c_new (sg : Sg) (p j : Nat) (v lt : Int32) : Sg := n_sale sg (sg.2 3 p 1) j (g_sale sg j (sg.1 0 0 5 / 30) v (c_pct sg p lt))
def c_net (sg : Sg) (p j : Nat) (v lt : Int32) : Sg := sI (c_new sg p j v lt) 2 (sg.2 3 p 1) 4 ((c_new sg p j v lt).1 2 (sg.2 3 p 1) 4 + (v - (c_new sg p j v lt).1 4 (sN sg 4) 4))
def c_bkd (sg : Sg) (p j : Nat) (v lt : Int32) : Sg := c_book (c_net sg p j v lt) (sN sg 4) 1
def c_sell (sg : Sg) (p j : Nat) (v lt : Int32) : Sg := c_add (c_bkd sg p j v lt) 2
theorem c_book_2 (sg : Sg) (i : Nat) (g : Int32) : (c_book sg i g).2 = sg.2 := by
  unfold c_book
  split <;> rfl
theorem c_bkd_2 (sg : Sg) (p j : Nat) (v lt : Int32) : (c_bkd sg p j v lt).2 = (c_new sg p j v lt).2 := c_book_2 _ _ _
theorem c_new_L (sg : Sg) (p j : Nat) (v lt : Int32) (f L : Nat) : (c_new sg p j v lt).2 (f + 21) L 0 = sg.2 (f + 21) L 0 := by
  show up3 (up3 (up3 sg.2 4 (sN sg 4) 0 (sg.2 3 p 1)) 4 (sN sg 4) 1 j) 20 4 0 (sN sg 4 + 1) (f + 21) L 0 = _
  rw [up3_k (by omega) rfl, up3_k (by omega) rfl, up3_k (by omega) rfl]
theorem c_new_0 (sg : Sg) (p j : Nat) (v lt : Int32) : (c_new sg p j v lt).2 4 (sN sg 4) 0 = sg.2 3 p 1 := (n_sale_r _ _ _ _ _ _).trans (up3_j (by decide) up3_at)
theorem c_new_1 (sg : Sg) (p j : Nat) (v lt : Int32) : (c_new sg p j v lt).2 4 (sN sg 4) 1 = j := (n_sale_r _ _ _ _ _ _).trans up3_at
theorem c_bkd_Z (sg : Sg) (p j : Nat) (v lt : Int32) (L : Nat) : sZ (c_bkd sg p j v lt) L = sZ sg L := (congrFun (congrFun (congrFun (c_bkd_2 sg p j v lt) 21) L) 0).trans (c_new_L sg p j v lt 0 L)
theorem c_bkd_C (sg : Sg) (p j : Nat) (v lt : Int32) (L : Nat) : sC (c_bkd sg p j v lt) L = sC sg L := (congrFun (congrFun (congrFun (c_bkd_2 sg p j v lt) 22) L) 0).trans (c_new_L sg p j v lt 1 L)
theorem c_bkd_F (sg : Sg) (p j : Nat) (v lt : Int32) (L : Nat) : sF (c_bkd sg p j v lt) L = sF sg L := (congrFun (congrFun (congrFun (c_bkd_2 sg p j v lt) 23) L) 0).trans (c_new_L sg p j v lt 2 L)
theorem c_bkd_N4 (sg : Sg) (p j : Nat) (v lt : Int32) : sN (c_bkd sg p j v lt) 4 = sN sg 4 + 1 := congrFun (congrFun (congrFun (c_bkd_2 sg p j v lt) 20) 4) 0
theorem c_bkd_cap (sg : Sg) (p j : Nat) (v lt : Int32) (L : Nat) : capN (c_bkd sg p j v lt) L = capN sg L := by
  unfold capN
  rw [c_bkd_F, c_bkd_C]
/-- what came back of addresses: all but sales and lists' arrays are as they were -/
def alK (al al' : Nat → Nat → Nat) : Prop := ∀ k i, k ≠ 4 → k ≠ 10 → al' k i = al k i
theorem gkX5_117 : GoodIn TT (wsV RX5 117 yX5_currentMonth.cls yX5_currentMonth (Cond.code yX5_currentMonth cX5_currentMonth 1 (some .int) :: TT)) := goodTV (tB 140 rfl rfl) (tB 142 rfl rfl) (tP 8 rfl) (tA 1 rfl rfl) (tB 143 rfl rfl)
theorem hyX5_currentMonth : yX5_currentMonth.cls ≠ "java/lang/invoke/MethodHandle" ∧ yX5_currentMonth.cls ≠ "java/lang/invoke/VarHandle" ∧ (parseMethodDescriptor yX5_currentMonth.desc).map (fun d => d.parameters.length) = some 0 := by decide +kernel
theorem hyX3_init : yX3_init.cls ≠ "java/lang/invoke/MethodHandle" ∧ yX3_init.cls ≠ "java/lang/invoke/VarHandle" ∧ (parseMethodDescriptor yX3_init.desc).map (fun d => d.parameters.length) = some 5 := by decide +kernel
theorem gkX5_125 : GoodIn TT (wsV RX5 125 yX5_book.cls yX5_book (Cond.code yX5_book cX5_book 3 none :: TT)) := goodTV (tB 189 rfl rfl) (tB 191 rfl rfl) (tP 9 rfl) (tA 1 rfl rfl) (tB 192 rfl rfl)
theorem hyX5_book : yX5_book.cls ≠ "java/lang/invoke/MethodHandle" ∧ yX5_book.cls ≠ "java/lang/invoke/VarHandle" ∧ (parseMethodDescriptor yX5_book.desc).map (fun d => d.parameters.length) = some 2 := by decide +kernel
theorem gkX5_71 : GoodIn TT (wsV RX5 71 yJx4a65c_add_9ea2d.cls yJx4a65c_add_9ea2d (Cond.code yJx4a65c_add_9ea2d cJx4a65c_add_9ea2d 2 (some .boolean) :: TT)) := goodTV (tA 239 rfl rfl) (tB 0 rfl rfl) (tB 1 rfl rfl) (tA 4 rfl rfl) (tB 2 rfl rfl)
theorem hyJx4a65c_add_9ea2d : yJx4a65c_add_9ea2d.cls ≠ "java/lang/invoke/MethodHandle" ∧ yJx4a65c_add_9ea2d.cls ≠ "java/lang/invoke/VarHandle" ∧ (parseMethodDescriptor yJx4a65c_add_9ea2d.desc).map (fun d => d.parameters.length) = some 1 := by decide +kernel
set_option maxRecDepth 100000 in
set_option maxHeartbeats 4000000 in
theorem cc_sell (l : Launch) (D : va_G) (Y : Nat → Nat) (A : Nat → Prop) (sg : Sg) (al : Nat → Nat → Nat) (p j : Nat) (hp : p < sN sg 3) (hj : j < 5) (v lt : Int32) (hm : sg.2 3 p 1 < sN sg 2) (hd : 0 < 100 + sg.1 1 j 1) (hb : sg.1 1 j 2 = 0 ∨ sg.1 1 j 2 = 1) (hw : lw sg 2) (h6 : sN sg 4 < 6000) : CT l yX5_sell (Cond.code yX5_sell cX5_sell 8 (some .int)) 9 211 D Y A [.ref (al 0 0), .ref (al 3 p), .ref (al 1 j), .int v, .int lt] (WX D Y A sg al []) (fun _ : Nat → Nat → Nat => some (.int (nI (sN sg 4)))) (fun al' : Nat → Nat → Nat => fun H => alK al al' ∧ WX D Y A (c_sell sg p j v lt) al' [] H) noX (1 + (capN sg 2 - sC sg 2)) (9 + 4 * (capN sg 2 - sC sg 2)) := by
  refine CT.of (by decide) (Nat.le_of_ble_eq_true rfl) ?_
  intro p_ e_ s_ m_ below_ meth_ c_ C0 K0 hr hlk htab hnm_
  obtain ⟨w1, w2, w3, w4, w5⟩ := hw; have w1 : sZ sg 2 = sN sg 4 := w1; have w2 : sF sg 2 = sN sg 4 := w2; have w3 : sN sg 4 ≤ sC sg 2 := w3
  refine k_aload_n C0 dX5_sell_0 0 rfl ?_
  refine c_get C0 K0 0 0 rfl rfl inX5 rfl 3 (.ref (al 9 2)) (by decide) dX5_sell_1 (tA 84 rfl rfl) (fun _ h => h) rfl ?_
  refine k_callV C0 K0 dX5_sell_4 (cl_size l D Y A sg al [] 2 (by decide)) gkX5_60 hyJx4a65c_size_8abf5 (c_recv (sg := sg) (al := al) K0 9 2 (show (2 : Nat) < 4 by decide) rfl rfl) rfl (by exact Nat.le_of_ble_eq_true rfl) ⟨Nat.le_of_ble_eq_true rfl, Nat.le_of_ble_eq_true rfl⟩ ⟨Nat.zero_le _, Nat.zero_le _⟩ (fun E => kX_no E) (fun _ => ?_)
  refine k_sipush C0 6000 dX5_sell_7 (by decide) ?_
  refine k_icmp_lt C0 15 dX5_sell_10 (by decide) (fun _ => ?_) (fun zz => absurd ((nI_ltI (b := 6000) (Nat.lt_of_le_of_lt (Nat.le_trans (Nat.le_of_eq w1) w3) (Nat.lt_of_le_of_lt w5 (by decide))) (by decide)).mpr (Nat.lt_of_le_of_lt (Nat.le_of_eq w1) h6)) zz)
  refine k_aload_n C0 dX5_sell_15 1 rfl ?_
  refine c_get C0 K0 3 p hp rfl inX2 rfl 1 (.ref (al 2 (sg.2 3 p 1))) (by decide) dX5_sell_16 (tB 103 rfl rfl) (fun _ h => h) rfl ?_
  refine k_astore C0 [(5, _), (0, _), (1, _), (2, _), (3, _), (4, _)] dX5_sell_19 (by decide) rfl ?_
  refine k_join (fun x => x = (if (¬ lt = 0 ∨ sg.1 2 (sg.2 3 p 1) 4 < 1000000) then (1 : Int32) else 0)) 41 0 (fun J1 => ?_) (fun x1 ex1 => ?_)
  ·
    refine k_iload C0 dX5_sell_21 5 rfl ?_
    refine k_if_ne C0 36 dX5_sell_23 (by decide) (fun h23 => ?_) (fun h23 => ?_)
    ·
      refine k_iconst C0 1 dX5_sell_36 (by decide) ?_
      refine k_goto C0 41 dX5_sell_37 (by decide) ?_
      exact J1 _ (by first | exact (if_pos (Or.inl h23)).symm | exact (if_pos (Or.inr (Int32.not_le.mp h33))).symm | exact (if_neg (fun z => z.elim (fun y => y h23) (fun y => Int32.not_lt.mpr h33 y))).symm)
    ·
      refine k_aload C0 dX5_sell_26 0 rfl ?_
      refine c_getI C0 K0 2 (sg.2 3 p 1) hm rfl inX1 rfl 4 (sg.1 2 (sg.2 3 p 1) 4) (by decide) dX5_sell_28 (tA 226 rfl rfl) (fun _ h => h) rfl rfl ?_
      refine k_ldc C0 (v := 1000000) dX5_sell_31 (tA 190 rfl rfl) ?_
      refine k_icmp_ge C0 40 dX5_sell_33 (by decide) (fun h33 => ?_) (fun h33 => ?_)
      ·
        refine k_iconst C0 0 dX5_sell_40 (by decide) ?_
        exact J1 _ (by first | exact (if_pos (Or.inl h23)).symm | exact (if_pos (Or.inr (Int32.not_le.mp h33))).symm | exact (if_neg (fun z => z.elim (fun y => y h23) (fun y => Int32.not_lt.mpr h33 y))).symm)
      ·
        refine k_iconst C0 1 dX5_sell_36 (by decide) ?_
        refine k_goto C0 41 dX5_sell_37 (by decide) ?_
        exact J1 _ (by first | exact (if_pos (Or.inl h23)).symm | exact (if_pos (Or.inr (Int32.not_le.mp h33))).symm | exact (if_neg (fun z => z.elim (fun y => y h23) (fun y => Int32.not_lt.mpr h33 y))).symm)
  ·
    subst ex1
    refine k_istore C0 [(6, _), (5, _), (0, _), (1, _), (2, _), (3, _), (4, _)] dX5_sell_41 (by decide) rfl ?_
    refine x_new (ci := 4) C0 K0 [.null, .null, .int 0, .int 0, .int 0, .int 0, .int 0, .int 0, .int 0] inX3 rfl tyX3 tyX3_ok (tB 138 rfl rfl) (tB 139 rfl rfl) (tA 20 rfl rfl) (fun j hj => by rcases (show j = 0 ∨ j = 1 ∨ j = 2 ∨ j = 3 ∨ j = 4 ∨ j = 5 ∨ j = 6 ∨ j = 7 ∨ j = 8 by omega) with rfl | rfl | rfl | rfl | rfl | rfl | rfl | rfl | rfl <;> rfl) (Nat.le_add_right 1 _) (Nat.le_add_right 9 _) dX5_sell_43 (fun q1 => ?_)
    refine k_dup C0 dX5_sell_46 rfl ?_
    refine k_aload C0 dX5_sell_47 1 rfl ?_
    refine k_aload_n C0 dX5_sell_49 4 rfl ?_
    refine k_aload_n C0 dX5_sell_50 2 rfl ?_
    refine k_callV C0 K0 dX5_sell_51 (cc_currentMonth l D Y A sg al [(q1, .inr (4, [.null, .null, .int 0, .int 0, .int 0, .int 0, .int 0, .int 0, .int 0]))] ) gkX5_117 hyX5_currentMonth (c_recv (sg := sg) (al := al) K0 0 0 rfl rfl rfl) rfl (by exact Nat.le_of_ble_eq_true rfl) ⟨Nat.le_of_ble_eq_true rfl, Nat.le_of_ble_eq_true rfl⟩ ⟨Nat.le_add_right 1 _, Nat.le_add_right 9 _⟩ (fun E => kX_no E) (fun _ => ?_)
    refine k_iload_n C0 dX5_sell_54 5 rfl ?_
    refine k_join (fun x => x = c_pct sg p lt) 67 0 (fun J2 => ?_) (fun x2 ex2 => ?_)
    ·
      refine k_iload C0 dX5_sell_55 0 rfl ?_
      refine k_if_eq C0 65 dX5_sell_57 (by decide) (fun h57 => ?_) (fun h57 => ?_)
      ·
        refine k_bipush C0 30 dX5_sell_65 (by decide) ?_
        exact J2 _ (by unfold c_pct; first | (rw [if_pos (Classical.byContradiction (fun z => h57 (if_neg z)))]; done) | (rw [if_neg (fun z => absurd ((if_pos z).symm.trans h57) (by decide))]; done))
      ·
        refine k_bipush C0 15 dX5_sell_60 (by decide) ?_
        refine k_goto C0 67 dX5_sell_62 (by decide) ?_
        exact J2 _ (by unfold c_pct; first | (rw [if_pos (Classical.byContradiction (fun z => h57 (if_neg z)))]; done) | (rw [if_neg (fun z => absurd ((if_pos z).symm.trans h57) (by decide))]; done))
    ·
      subst ex2
      refine k_callI C0 K0 dX5_sell_67 (ci_sale l D Y A sg al q1 (sg.2 3 p 1) j hj (sg.1 0 0 5 / 30) v (c_pct sg p lt) hd hb) (tB 146 rfl rfl) (tA 20 rfl rfl) (tB 144 rfl rfl) (tB 145 rfl rfl) rfl hyX3_init rfl (by exact Nat.le_of_ble_eq_true rfl) ⟨Nat.le_of_ble_eq_true rfl, Nat.le_of_ble_eq_true rfl⟩ ⟨Nat.le_add_right 1 _, Nat.le_add_right 9 _⟩ (fun E => kX_no E) (fun _ => ?_)
      refine k_astore C0 [(7, _), (6, _), (5, _), (0, _), (1, _), (2, _), (3, _), (4, _)] dX5_sell_70 (by decide) rfl ?_
      refine k_W (V' := WX D Y A (c_new sg p j v lt) (aU al 4 (sN sg 4) q1) []) (fun H h => WX.addSale (g := g_sale sg j (sg.1 0 0 5 / 30) v (c_pct sg p lt)) (Nat.le_of_eq w2) h) ?_
      rw [show Value.ref q1 = Value.ref (aU al 4 (sN sg 4) q1 4 (sN sg 4)) from congrArg Value.ref aU_at.symm]
      have hn4 : sN sg 4 < sN (c_new sg p j v lt) 4 := Nat.lt_succ_self (sN sg 4)
      have hm4 : (c_new sg p j v lt).2 4 (sN sg 4) 0 < sN sg 2 := by rw [c_new_0]; exact hm
      have hl4 : (c_new sg p j v lt).2 4 (sN sg 4) 1 < 5 := by rw [c_new_1]; exact hj
      refine k_aload C0 dX5_sell_72 2 rfl ?_
      refine k_dup C0 dX5_sell_74 rfl ?_
      refine c_getI (sg := (c_new sg p j v lt)) (al := (aU al 4 (sN sg 4) q1)) C0 K0 2 (sg.2 3 p 1) hm rfl inX1 rfl 4 ((c_new sg p j v lt).1 2 (sg.2 3 p 1) 4) (by decide) dX5_sell_75 (tA 226 rfl rfl) (fun _ h => h) rfl rfl ?_
      refine k_iload_n C0 dX5_sell_78 6 rfl ?_
      refine k_aload C0 dX5_sell_79 0 rfl ?_
      refine c_getI (sg := (c_new sg p j v lt)) (al := (aU al 4 (sN sg 4) q1)) C0 K0 4 (sN sg 4) hn4 rfl inX3 rfl 4 ((c_new sg p j v lt).1 4 (sN sg 4) 4) (by decide) dX5_sell_81 (tB 161 rfl rfl) (fun _ h => h) rfl rfl ?_
      refine k_isub C0 dX5_sell_84 ?_
      refine k_iadd C0 dX5_sell_85 ?_
      refine c_putI (sg := (c_new sg p j v lt)) (al := (aU al 4 (sN sg 4) q1)) C0 K0 2 (sg.2 3 p 1) hm (ty := .int) rfl inX1 rfl tyX1 tyX1_ok nmX1 4 (by decide) dX5_sell_86 (tA 226 rfl rfl) (fun _ h => h) rfl (by decide +kernel) rfl rfl (Nat.le_of_ble_eq_true rfl) rfl ?_
      refine k_W (V' := WX D Y A (c_net sg p j v lt) (aU al 4 (sN sg 4) q1) []) (fun H h => h) ?_
      refine k_aload_n C0 dX5_sell_89 3 rfl ?_
      refine k_aload C0 dX5_sell_90 0 rfl ?_
      refine k_iconst C0 1 dX5_sell_92 (by decide) ?_
      refine k_callV C0 K0 dX5_sell_93 (cc_book l D Y A (c_net sg p j v lt) (aU al 4 (sN sg 4) q1) [] (sN sg 4) hn4 1 hm4 hl4) gkX5_125 hyX5_book (c_recv (sg := (c_net sg p j v lt)) (al := (aU al 4 (sN sg 4) q1)) K0 0 0 rfl rfl rfl) rfl (by exact Nat.le_of_ble_eq_true rfl) ⟨Nat.le_of_ble_eq_true rfl, Nat.le_of_ble_eq_true rfl⟩ ⟨Nat.le_add_right 1 _, Nat.le_add_right 9 _⟩ (fun E => kX_no E) (fun _ => k_W (V' := WX D Y A (c_bkd sg p j v lt) (aU al 4 (sN sg 4) q1) []) (fun H h => h) ?_)
      refine k_aload_n C0 dX5_sell_96 3 rfl ?_
      refine c_get (sg := (c_bkd sg p j v lt)) (al := (aU al 4 (sN sg 4) q1)) C0 K0 0 0 rfl rfl inX5 rfl 3 (.ref ((aU al 4 (sN sg 4) q1) 9 2)) (by decide) dX5_sell_97 (tA 84 rfl rfl) (fun _ h => h) rfl ?_
      refine k_aload C0 dX5_sell_100 0 rfl ?_
      rw [show Value.ref (aU al 4 (sN sg 4) q1 4 (sN sg 4)) = Value.ref (aU al 4 (sN sg 4) q1 (2 + 2) (sF (c_bkd sg p j v lt) 2)) from by rw [c_bkd_F, w2]]
      refine k_callV C0 K0 dX5_sell_102 (cl_add l D Y A (c_bkd sg p j v lt) (aU al 4 (sN sg 4) q1) [] 2 (by decide) ((c_bkd_Z sg p j v lt 2).trans (w1.trans (w2.symm.trans (c_bkd_F sg p j v lt 2).symm))) (by rw [c_bkd_F, c_bkd_C]; exact Nat.le_trans (Nat.le_of_eq w2) w3) (by rw [c_bkd_C]; exact w4) (by rw [c_bkd_C]; exact w5) (by rw [c_bkd_F]; show sF sg 2 < sN (c_bkd sg p j v lt) 4; rw [c_bkd_N4]; omega)) gkX5_71 hyJx4a65c_add_9ea2d (c_recv (sg := (c_bkd sg p j v lt)) (al := (aU al 4 (sN sg 4) q1)) K0 9 2 (show (2 : Nat) < 4 by decide) rfl rfl) rfl (by exact Nat.le_of_ble_eq_true rfl) ⟨Nat.le_of_ble_eq_true rfl, Nat.le_of_ble_eq_true rfl⟩ ⟨(by show 1 + (capN (c_bkd sg p j v lt) 2 - sC (c_bkd sg p j v lt) 2) ≤ (1 + (capN sg 2 - sC sg 2)); rw [c_bkd_cap, c_bkd_C]; exact Nat.le_refl _), (by show 9 + 4 * (capN (c_bkd sg p j v lt) 2 - sC (c_bkd sg p j v lt) 2) ≤ (9 + 4 * (capN sg 2 - sC sg 2)); rw [c_bkd_cap, c_bkd_C]; exact Nat.le_refl _)⟩ (fun E => kX_no E) (fun q2 => k_W (V' := WX D Y A (c_sell sg p j v lt) (aU (aU al 4 (sN sg 4) q1) 10 2 q2) []) (fun H h => h) ?_)
      refine k_pop C0 dX5_sell_105 rfl ?_
      refine k_aload_n C0 dX5_sell_106 3 rfl ?_
      refine c_get (sg := (c_sell sg p j v lt)) (al := (aU (aU al 4 (sN sg 4) q1) 10 2 q2)) C0 K0 0 0 rfl rfl inX5 rfl 3 (.ref ((aU (aU al 4 (sN sg 4) q1) 10 2 q2) 9 2)) (by decide) dX5_sell_107 (tA 84 rfl rfl) (fun _ h => h) rfl ?_
      refine k_callV C0 K0 dX5_sell_110 (cl_size l D Y A (c_sell sg p j v lt) (aU (aU al 4 (sN sg 4) q1) 10 2 q2) [] 2 (by decide)) gkX5_60 hyJx4a65c_size_8abf5 (c_recv (sg := (c_sell sg p j v lt)) (al := (aU (aU al 4 (sN sg 4) q1) 10 2 q2)) K0 9 2 (show (2 : Nat) < 4 by decide) rfl rfl) rfl (by exact Nat.le_of_ble_eq_true rfl) ⟨Nat.le_of_ble_eq_true rfl, Nat.le_of_ble_eq_true rfl⟩ ⟨(by show 1 + (capN (c_bkd sg p j v lt) 2 - sC (c_bkd sg p j v lt) 2) ≤ (1 + (capN sg 2 - sC sg 2)); rw [c_bkd_cap, c_bkd_C]; exact Nat.le_refl _), (by show 9 + 4 * (capN (c_bkd sg p j v lt) 2 - sC (c_bkd sg p j v lt) 2) ≤ (9 + 4 * (capN sg 2 - sC sg 2)); rw [c_bkd_cap, c_bkd_C]; exact Nat.le_refl _)⟩ (fun E => kX_no E) (fun _ => ?_)
      refine k_iconst C0 1 dX5_sell_113 (by decide) ?_
      refine k_isub C0 dX5_sell_114 ?_
      exact k_iret C0 dX5_sell_115 hr hlk (by show 1 + (capN (c_bkd sg p j v lt) 2 - sC (c_bkd sg p j v lt) 2) ≤ (1 + (capN sg 2 - sC sg 2)); rw [c_bkd_cap, c_bkd_C]; exact Nat.le_refl _) (by show 9 + 4 * (capN (c_bkd sg p j v lt) 2 - sC (c_bkd sg p j v lt) 2) ≤ (9 + 4 * (capN sg 2 - sC sg 2)); rw [c_bkd_cap, c_bkd_C]; exact Nat.le_refl _) (aU (aU al 4 (sN sg 4) q1) 10 2 q2) (by show some (Value.int (nI (sN sg 4))) = some (Value.int (nI ((c_sell sg p j v lt).2 21 2 0) - 1)); rw [show (c_sell sg p j v lt).2 21 2 0 = sN sg 4 + 1 from (show (c_sell sg p j v lt).2 21 2 0 = sF (c_bkd sg p j v lt) 2 + 1 from rfl).trans (by rw [c_bkd_F, w2]), nI_pred]) (fun H h => ⟨fun k i h4 h10 => (aU_ne (al := aU al 4 (sN sg 4) q1) (fun z => h10 z.1)).trans (aU_ne (fun z => h4 z.1)), h⟩)
def c_late (sg : Sg) (u : Nat) : Int32 := if (c_count sg u (sg.1 0 0 5)).1 5 u 5 < 13 then 0 else 1
def c_pay (sg : Sg) (u : Nat) : Sg := c_sell (c_count sg u (sg.1 0 0 5)) (sg.2 5 u 2) (sg.2 5 u 0) (c_priceN sg u) (c_late sg u)
def c_try (sg : Sg) (u : Nat) : Sg := if sg.1 5 u 3 = 0 then c_pay sg u else c_fail sg u
def c_tp (sg : Sg) (u : Nat) : Int32 := if sg.1 5 u 3 = 0 then 1 else 0
def c_mc (sg : Sg) (u : Nat) : Nat := if sg.1 5 u 3 = 0 then 1 + (capN sg 2 - sC sg 2) else 0
def c_ms (sg : Sg) (u : Nat) : Nat := if sg.1 5 u 3 = 0 then 9 + 4 * (capN sg 2 - sC sg 2) else 0
/-- what a sale to a subscription asks -/
def c_payOK (sg : Sg) (u : Nat) : Prop := sg.2 5 u 2 < sN sg 3 ∧ sg.2 5 u 0 < 5 ∧ sg.2 3 (sg.2 5 u 2) 1 < sN sg 2 ∧ (0 < 100 + sg.1 1 (sg.2 5 u 0) 1) ∧ (sg.1 1 (sg.2 5 u 0) 2 = 0 ∨ sg.1 1 (sg.2 5 u 0) 2 = 1) ∧ lw sg 2 ∧ sN sg 4 < 6000
theorem phc_ex : ∃ f : Sg → Nat, ∀ sg, f sg = sN sg 4 + sC sg 2 := ⟨_, fun _ => rfl⟩
theorem phs_ex : ∃ f : Sg → Nat, ∀ sg, f sg = 9 * sN sg 4 + 4 * sC sg 2 := ⟨_, fun _ => rfl⟩
/-- sealed: nobody looks into them -/
noncomputable def phc : Sg → Nat := Classical.choose phc_ex
noncomputable def phs : Sg → Nat := Classical.choose phs_ex
theorem phc_eq (sg : Sg) : phc sg = sN sg 4 + sC sg 2 := Classical.choose_spec phc_ex sg
theorem phs_eq (sg : Sg) : phs sg = 9 * sN sg 4 + 4 * sC sg 2 := Classical.choose_spec phs_ex sg
theorem c_sell_2 (sg : Sg) (p j : Nat) (v lt : Int32) (k i f : Nat) (h4 : k ≠ 4) (h20 : k = 20 → i ≠ 4) (h21 : 21 ≤ k → i ≠ 2) : (c_sell sg p j v lt).2 k i f = sg.2 k i f := by
  show up3 (up3 (up3 (c_bkd sg p j v lt).2 22 2 0 (capN (c_bkd sg p j v lt) 2)) 23 2 0 (sF (c_bkd sg p j v lt) 2 + 1)) 21 2 0 (sF (c_bkd sg p j v lt) 2 + 1) k i f = _
  have a1 : ∀ (P : Nat → Nat → Nat → Nat) (k0 v : Nat), 21 ≤ k0 → up3 P k0 2 0 v k i f = P k i f := fun P k0 v h => if_neg (fun z => h21 (by omega) z.2.1)
  rw [a1 _ 21 _ (by decide), a1 _ 23 _ (by decide), a1 _ 22 _ (by decide), c_bkd_2]
  show up3 (up3 (up3 sg.2 4 (sN sg 4) 0 (sg.2 3 p 1)) 4 (sN sg 4) 1 j) 20 4 0 (sN sg 4 + 1) k i f = _
  have b1 : ∀ (P : Nat → Nat → Nat → Nat) (v : Nat), up3 P 20 4 0 v k i f = P k i f := fun P v => if_neg (fun z => h20 z.1 z.2.1)
  have b2 : ∀ (P : Nat → Nat → Nat → Nat) (x y v : Nat), up3 P 4 x y v k i f = P k i f := fun P x y v => if_neg (fun z => h4 z.1)
  rw [b1, b2, b2]
theorem c_sell_N (sg : Sg) (p j : Nat) (v lt : Int32) : sN (c_sell sg p j v lt) 4 = sN sg 4 + 1 := c_bkd_N4 sg p j v lt
theorem c_sell_C (sg : Sg) (p j : Nat) (v lt : Int32) : sC (c_sell sg p j v lt) 2 = capN sg 2 := (show sC (c_sell sg p j v lt) 2 = capN (c_bkd sg p j v lt) 2 from rfl).trans (c_bkd_cap sg p j v lt 2)
theorem capN_le (sg : Sg) (L : Nat) : sC sg L ≤ capN sg L := by
  unfold capN
  split
  · exact Nat.le_refl _
  · split <;> omega
theorem c_fail_2 (sg : Sg) (u : Nat) : (c_fail sg u).2 = sg.2 := rfl
theorem c_try_2 (sg : Sg) (u : Nat) (k i f : Nat) (h4 : k ≠ 4) (h20 : k = 20 → i ≠ 4) (h21 : 21 ≤ k → i ≠ 2) : (c_try sg u).2 k i f = sg.2 k i f := by
  unfold c_try
  split
  · exact c_sell_2 _ _ _ _ _ k i f h4 h20 h21
  · rfl
theorem c_try_c (sg : Sg) (u : Nat) : phc (c_try sg u) = phc sg + c_mc sg u := by
  rw [phc_eq, phc_eq]
  unfold c_try c_mc
  split
  · unfold c_pay
    rw [c_sell_N, c_sell_C]
    have e : capN (c_count sg u (sg.1 0 0 5)) 2 = capN sg 2 := rfl
    have e2 : sN (c_count sg u (sg.1 0 0 5)) 4 = sN sg 4 := rfl
    have := capN_le sg 2
    rw [e, e2]
    omega
  · rw [Nat.add_zero]; rfl
theorem c_try_s (sg : Sg) (u : Nat) : phs (c_try sg u) = phs sg + c_ms sg u := by
  rw [phs_eq, phs_eq]
  unfold c_try c_ms
  split
  · unfold c_pay
    rw [c_sell_N, c_sell_C]
    have e : capN (c_count sg u (sg.1 0 0 5)) 2 = capN sg 2 := rfl
    have e2 : sN (c_count sg u (sg.1 0 0 5)) 4 = sN sg 4 := rfl
    have := capN_le sg 2
    rw [e, e2]
    omega
  · rw [Nat.add_zero]; rfl
def c_step (q : Int32 × Sg) (i : Nat) : Int32 × Sg := if q.2.1 5 i 6 = q.2.1 0 0 5 then ((if c_tp q.2 i = 0 then q.1 else q.1 + 1), c_try q.2 i) else q
def c_collN (q : Int32 × Sg) : Nat → Int32 × Sg
  | 0 => q
  | i + 1 => c_step (c_collN q i) i
theorem c_step_c (q : Int32 × Sg) (i : Nat) : phc q.2 ≤ phc (c_step q i).2 ∧ phs q.2 ≤ phs (c_step q i).2 := by
  unfold c_step
  split
  · exact ⟨by show _ ≤ phc (c_try q.2 i); rw [c_try_c]; omega, by show _ ≤ phs (c_try q.2 i); rw [c_try_s]; omega⟩
  · exact ⟨Nat.le_refl _, Nat.le_refl _⟩
theorem c_collN_mono (q : Int32 × Sg) : ∀ (d i : Nat), phc (c_collN q i).2 ≤ phc (c_collN q (i + d)).2 ∧ phs (c_collN q i).2 ≤ phs (c_collN q (i + d)).2
  | 0, i => ⟨Nat.le_refl _, Nat.le_refl _⟩
  | d + 1, i => ⟨Nat.le_trans (c_collN_mono q d i).1 (c_step_c (c_collN q (i + d)) (i + d)).1, Nat.le_trans (c_collN_mono q d i).2 (c_step_c (c_collN q (i + d)) (i + d)).2⟩
theorem c_collN_le (q : Int32 × Sg) {i j : Nat} (h : i ≤ j) : phc (c_collN q i).2 ≤ phc (c_collN q j).2 ∧ phs (c_collN q i).2 ≤ phs (c_collN q j).2 := by
  have := c_collN_mono q (j - i) i
  rwa [show i + (j - i) = j by omega] at this
theorem c_step_2 (q : Int32 × Sg) (u : Nat) (k i f : Nat) (h4 : k ≠ 4) (h20 : k = 20 → i ≠ 4) (h21 : 21 ≤ k → i ≠ 2) : (c_step q u).2.2 k i f = q.2.2 k i f := by
  unfold c_step
  split
  · exact c_try_2 _ u k i f h4 h20 h21
  · rfl
theorem c_collN_2 (q : Int32 × Sg) (k i f : Nat) (h4 : k ≠ 4) (h20 : k = 20 → i ≠ 4) (h21 : 21 ≤ k → i ≠ 2) : ∀ n, (c_collN q n).2.2 k i f = q.2.2 k i f
  | 0 => rfl
  | n + 1 => (c_step_2 _ n k i f h4 h20 h21).trans (c_collN_2 q k i f h4 h20 h21 n)
theorem lw_of {sg sg' : Sg} {L : Nat} (h20 : sN sg' (2 + L) = sN sg (2 + L)) (h21 : sZ sg' L = sZ sg L) (h22 : sC sg' L = sC sg L) (h23 : sF sg' L = sF sg L) (h : lw sg L) : lw sg' L := by
  unfold lw
  rw [h20, h21, h22, h23]
  exact h
theorem c_collN_lw (q : Int32 × Sg) (L : Nat) (hL : L ≠ 2) (n : Nat) (h : lw q.2 L) : lw (c_collN q n).2 L := lw_of (c_collN_2 q 20 (2 + L) 0 (by decide) (fun _ => by omega) (fun z => absurd z (by decide)) n) (c_collN_2 q 21 L 0 (by decide) (fun z => absurd z (by decide)) (fun _ => hL) n) (c_collN_2 q 22 L 0 (by decide) (fun z => absurd z (by decide)) (fun _ => hL) n) (c_collN_2 q 23 L 0 (by decide) (fun z => absurd z (by decide)) (fun _ => hL) n) h
theorem gkX5_265 : GoodIn TT (wsV RX5 265 yX4_priceOfNext.cls yX4_priceOfNext (Cond.code yX4_priceOfNext cX4_priceOfNext 2 (some .int) :: TT)) := goodTV (tC 86 rfl rfl) (tC 87 rfl rfl) (tC 88 rfl rfl) (tA 21 rfl rfl) (tC 89 rfl rfl)
theorem hyX4_priceOfNext : yX4_priceOfNext.cls ≠ "java/lang/invoke/MethodHandle" ∧ yX4_priceOfNext.cls ≠ "java/lang/invoke/VarHandle" ∧ (parseMethodDescriptor yX4_priceOfNext.desc).map (fun d => d.parameters.length) = some 0 := by decide +kernel
theorem gkX5_268 : GoodIn TT (wsV RX5 268 yX4_countPayment.cls yX4_countPayment (Cond.code yX4_countPayment cX4_countPayment 2 none :: TT)) := goodTV (tC 91 rfl rfl) (tC 92 rfl rfl) (tC 93 rfl rfl) (tA 21 rfl rfl) (tC 94 rfl rfl)
theorem hyX4_countPayment : yX4_countPayment.cls ≠ "java/lang/invoke/MethodHandle" ∧ yX4_countPayment.cls ≠ "java/lang/invoke/VarHandle" ∧ (parseMethodDescriptor yX4_countPayment.desc).map (fun d => d.parameters.length) = some 1 := by decide +kernel
theorem gkX5_97 : GoodIn TT (wsV RX5 97 yX5_sell.cls yX5_sell (Cond.code yX5_sell cX5_sell 8 (some .int) :: TT)) := goodTV (tB 134 rfl rfl) (tB 136 rfl rfl) (tP 7 rfl) (tA 1 rfl rfl) (tB 137 rfl rfl)
theorem hyX5_sell : yX5_sell.cls ≠ "java/lang/invoke/MethodHandle" ∧ yX5_sell.cls ≠ "java/lang/invoke/VarHandle" ∧ (parseMethodDescriptor yX5_sell.desc).map (fun d => d.parameters.length) = some 4 := by decide +kernel
theorem gkX5_262 : GoodIn TT (wsV RX5 262 yX4_fail.cls yX4_fail (Cond.code yX4_fail cX4_fail 1 none :: TT)) := goodTV (tC 78 rfl rfl) (tC 79 rfl rfl) (tC 80 rfl rfl) (tA 21 rfl rfl) (tC 81 rfl rfl)
theorem hyX4_fail : yX4_fail.cls ≠ "java/lang/invoke/MethodHandle" ∧ yX4_fail.cls ≠ "java/lang/invoke/VarHandle" ∧ (parseMethodDescriptor yX4_fail.desc).map (fun d => d.parameters.length) = some 0 := by decide +kernel
set_option maxRecDepth 100000 in
set_option maxHeartbeats 4000000 in
theorem cc_try1 (l : Launch) (D : va_G) (Y : Nat → Nat) (A : Nat → Prop) (sg : Sg) (al : Nat → Nat → Nat) (u : Nat) (hu : u < sN sg 5) (hf : sg.1 5 u 3 = 0) (ok : c_payOK sg u) : CT l yX5_tryPayment (Cond.code yX5_tryPayment cX5_tryPayment 4 (some .boolean)) 10 238 D Y A [.ref (al 0 0), .ref (al 5 u)] (WX D Y A sg al []) (fun _ : Nat → Nat → Nat => some (.int 1)) (fun al' : Nat → Nat → Nat => fun H => alK al al' ∧ WX D Y A (c_pay sg u) al' [] H) noX (1 + (capN sg 2 - sC sg 2)) (9 + 4 * (capN sg 2 - sC sg 2)) := by
  refine CT.of (by decide) (Nat.le_of_ble_eq_true rfl) ?_
  intro p_ e_ s_ m_ below_ meth_ c_ C0 K0 hr hlk htab hnm_
  obtain ⟨hp, hl_, hm, hd, hb, hw, h6⟩ := ok
  refine k_aload_n C0 dX5_tryPayment_0 1 rfl ?_
  refine c_getI C0 K0 5 u hu rfl inX4 rfl 3 (sg.1 5 u 3) (by decide) dX5_tryPayment_1 (tB 222 rfl rfl) (fun _ h => h) rfl rfl ?_
  refine k_if_eq C0 13 dX5_tryPayment_4 (by decide) (fun _ => ?_) (fun zz => absurd hf zz)
  refine k_aload_n C0 dX5_tryPayment_13 1 rfl ?_
  refine k_callV C0 K0 dX5_tryPayment_14 (cc_priceOfNext l D Y A sg al [] u hu hp hl_) gkX5_265 hyX4_priceOfNext (c_recv (sg := sg) (al := al) K0 5 u hu rfl rfl) rfl (by exact Nat.le_of_ble_eq_true rfl) ⟨Nat.le_of_ble_eq_true rfl, Nat.le_of_ble_eq_true rfl⟩ ⟨Nat.zero_le _, Nat.zero_le _⟩ (fun E => kX_no E) (fun _ => ?_)
  refine k_istore_n C0 [(2, _), (0, _), (1, _)] dX5_tryPayment_17 (by decide) rfl ?_
  refine k_aload_n C0 dX5_tryPayment_18 2 rfl ?_
  refine k_aload_n C0 dX5_tryPayment_19 1 rfl ?_
  refine c_getI C0 K0 0 0 rfl rfl inX5 rfl 5 (sg.1 0 0 5) (by decide) dX5_tryPayment_20 (tA 86 rfl rfl) (fun _ h => h) rfl rfl ?_
  refine k_callV C0 K0 dX5_tryPayment_23 (cc_countPayment l D Y A sg al [] u hu (sg.1 0 0 5)) gkX5_268 hyX4_countPayment (c_recv (sg := sg) (al := al) K0 5 u hu rfl rfl) rfl (by exact Nat.le_of_ble_eq_true rfl) ⟨Nat.le_of_ble_eq_true rfl, Nat.le_of_ble_eq_true rfl⟩ ⟨Nat.zero_le _, Nat.zero_le _⟩ (fun E => kX_no E) (fun _ => ?_)
  refine k_aload_n C0 dX5_tryPayment_26 2 rfl ?_
  refine k_join (fun x => x = c_late sg u) 40 1 (fun J1 => ?_) (fun x1 ex1 => ?_)
  ·
    refine c_getI C0 K0 5 u hu rfl inX4 rfl 5 ((c_count sg u (sg.1 0 0 5)).1 5 u 5) (by decide) dX5_tryPayment_27 (tB 225 rfl rfl) (fun _ h => h) rfl rfl ?_
    refine k_bipush C0 13 dX5_tryPayment_30 (by decide) ?_
    refine k_icmp_lt C0 39 dX5_tryPayment_32 (by decide) (fun h32 => ?_) (fun h32 => ?_)
    ·
      refine k_iconst C0 0 dX5_tryPayment_39 (by decide) ?_
      exact J1 _ (by unfold c_late; first | exact (if_pos h32).symm | exact (if_neg h32).symm)
    ·
      refine k_iconst C0 1 dX5_tryPayment_35 (by decide) ?_
      refine k_goto C0 40 dX5_tryPayment_36 (by decide) ?_
      exact J1 _ (by unfold c_late; first | exact (if_pos h32).symm | exact (if_neg h32).symm)
  ·
    subst ex1
    refine k_istore_n C0 [(3, _), (2, _), (0, _), (1, _)] dX5_tryPayment_40 (by decide) rfl ?_
    refine k_aload_n C0 dX5_tryPayment_41 2 rfl ?_
    refine k_aload_n C0 dX5_tryPayment_42 3 rfl ?_
    refine c_get C0 K0 5 u hu rfl inX4 rfl 2 (.ref (al 3 ((c_count sg u (sg.1 0 0 5)).2 5 u 2))) (by decide) dX5_tryPayment_43 (tB 220 rfl rfl) (fun _ h => h) rfl ?_
    refine k_aload_n C0 dX5_tryPayment_46 3 rfl ?_
    refine c_get C0 K0 5 u hu rfl inX4 rfl 0 (.ref (al 1 ((c_count sg u (sg.1 0 0 5)).2 5 u 0))) (by decide) dX5_tryPayment_47 (tB 217 rfl rfl) (fun _ h => h) rfl ?_
    refine k_iload_n C0 dX5_tryPayment_50 1 rfl ?_
    refine k_iload_n C0 dX5_tryPayment_51 0 rfl ?_
    refine k_callV C0 K0 dX5_tryPayment_52 (cc_sell l D Y A (c_count sg u (sg.1 0 0 5)) al (sg.2 5 u 2) (sg.2 5 u 0) hp hl_ (c_priceN sg u) (c_late sg u) hm hd hb hw h6) gkX5_97 hyX5_sell (c_recv (sg := c_count sg u (sg.1 0 0 5)) (al := al) K0 0 0 rfl rfl rfl) rfl (by exact Nat.le_of_ble_eq_true rfl) ⟨Nat.le_of_ble_eq_true rfl, Nat.le_of_ble_eq_true rfl⟩ ⟨Nat.le_of_eq (Nat.zero_add _), Nat.le_of_eq (Nat.zero_add _)⟩ (fun E => kX_no E) (fun al2 => k_ex (fun H h => h.1) (fun ha2 => k_W (V' := WX D Y A (c_pay sg u) al2 []) (fun H h => h.2) ?_))
    refine k_pop C0 dX5_tryPayment_55 rfl ?_
    refine k_iconst C0 1 dX5_tryPayment_56 (by decide) ?_
    exact k_zret C0 dX5_tryPayment_57 hr rfl hlk (Nat.le_of_eq (Nat.zero_add _)) (Nat.le_of_eq (Nat.zero_add _)) al2 rfl (fun H h => ⟨ha2, h⟩)
set_option maxRecDepth 100000 in
set_option maxHeartbeats 4000000 in
theorem cc_try0 (l : Launch) (D : va_G) (Y : Nat → Nat) (A : Nat → Prop) (sg : Sg) (al : Nat → Nat → Nat) (u : Nat) (hu : u < sN sg 5) (hf : ¬ sg.1 5 u 3 = 0) : CT l yX5_tryPayment (Cond.code yX5_tryPayment cX5_tryPayment 4 (some .boolean)) 10 238 D Y A [.ref (al 0 0), .ref (al 5 u)] (WX D Y A sg al []) (fun _ : Nat → Nat → Nat => some (.int 0)) (fun al' : Nat → Nat → Nat => fun H => alK al al' ∧ WX D Y A (c_fail sg u) al' [] H) noX 0 0 := by
  refine CT.of (by decide) (Nat.le_of_ble_eq_true rfl) ?_
  intro p_ e_ s_ m_ below_ meth_ c_ C0 K0 hr hlk htab hnm_
  refine k_aload_n C0 dX5_tryPayment_0 1 rfl ?_
  refine c_getI C0 K0 5 u hu rfl inX4 rfl 3 (sg.1 5 u 3) (by decide) dX5_tryPayment_1 (tB 222 rfl rfl) (fun _ h => h) rfl rfl ?_
  refine k_if_eq C0 13 dX5_tryPayment_4 (by decide) (fun zz => absurd zz hf) (fun _ => ?_)
  refine k_aload_n C0 dX5_tryPayment_7 1 rfl ?_
  refine k_callV C0 K0 dX5_tryPayment_8 (cc_fail l D Y A sg al [] u hu) gkX5_262 hyX4_fail (c_recv (sg := sg) (al := al) K0 5 u hu rfl rfl) rfl (by exact Nat.le_of_ble_eq_true rfl) ⟨Nat.le_of_ble_eq_true rfl, Nat.le_of_ble_eq_true rfl⟩ ⟨Nat.le_of_ble_eq_true rfl, Nat.le_of_ble_eq_true rfl⟩ (fun E => kX_no E) (fun _ => ?_)
  refine k_iconst C0 0 dX5_tryPayment_11 (by decide) ?_
  exact k_zret C0 dX5_tryPayment_12 hr rfl hlk (Nat.le_of_ble_eq_true rfl) (Nat.le_of_ble_eq_true rfl) al rfl (fun H h => ⟨fun _ _ _ _ => rfl, h⟩)
theorem cc_try (l : Launch) (D : va_G) (Y : Nat → Nat) (A : Nat → Prop) (sg : Sg) (al : Nat → Nat → Nat) (u : Nat) (hu : u < sN sg 5) (ok : sg.1 5 u 3 = 0 → c_payOK sg u) : CT l yX5_tryPayment (Cond.code yX5_tryPayment cX5_tryPayment 4 (some .boolean)) 10 238 D Y A [.ref (al 0 0), .ref (al 5 u)] (WX D Y A sg al []) (fun _ : Nat → Nat → Nat => some (.int (c_tp sg u))) (fun al' : Nat → Nat → Nat => fun H => alK al al' ∧ WX D Y A (c_try sg u) al' [] H) noX (c_mc sg u) (c_ms sg u) := by
  by_cases hf : sg.1 5 u 3 = 0
  · unfold c_tp c_try c_mc c_ms
    rw [if_pos hf, if_pos hf, if_pos hf, if_pos hf]
    exact cc_try1 l D Y A sg al u hu hf (ok hf)
  · unfold c_tp c_try c_mc c_ms
    rw [if_neg hf, if_neg hf, if_neg hf, if_neg hf]
    exact cc_try0 l D Y A sg al u hu hf
