def c_day (sg : Sg) : Int32 × Sg := c_collN (0, c_day0 sg) (sN (c_day0 sg) 5)
def c_passN (sg : Sg) : Nat → Int32 × Sg
  | 0 => (0, sg)
  | i + 1 => ((c_passN sg i).1 + (c_day (c_passN sg i).2).1, (c_day (c_passN sg i).2).2)
/-- what a day's payments ask -/
def c_daySafe (sg : Sg) : Prop := ∀ i, i < sN (c_day0 sg) 5 → (c_collN (0, c_day0 sg) i).2.1 5 i 6 = (c_collN (0, c_day0 sg) i).2.1 0 0 5 → (c_collN (0, c_day0 sg) i).2.1 5 i 3 = 0 → c_payOK (c_collN (0, c_day0 sg) i).2 i
theorem c_day0_ph (sg : Sg) : phc (c_day0 sg) = phc sg ∧ phs (c_day0 sg) = phs sg := by
  rw [phc_eq, phc_eq, phs_eq, phs_eq]
  unfold sN sC
  rw [c_day0_2]
  exact ⟨rfl, rfl⟩
theorem c_day_ph (sg : Sg) : phc sg ≤ phc (c_day sg).2 ∧ phs sg ≤ phs (c_day sg).2 := by
  have h := c_collN_le (0, c_day0 sg) (Nat.zero_le (sN (c_day0 sg) 5))
  have h1 : phc (c_day0 sg) ≤ phc (c_day sg).2 := h.1
  have h2 : phs (c_day0 sg) ≤ phs (c_day sg).2 := h.2
  rw [(c_day0_ph sg).1] at h1
  rw [(c_day0_ph sg).2] at h2
  exact ⟨h1, h2⟩
theorem c_passN_mono (sg : Sg) (d i : Nat) : phc (c_passN sg i).2 ≤ phc (c_passN sg (i + d)).2 ∧ phs (c_passN sg i).2 ≤ phs (c_passN sg (i + d)).2 := by
  induction d with
  | zero => exact ⟨Nat.le_refl _, Nat.le_refl _⟩
  | succ d ih =>
    have e : (c_passN sg (i + (d + 1))).2 = (c_day (c_passN sg (i + d)).2).2 := rfl
    have h := c_day_ph (c_passN sg (i + d)).2
    rw [e]
    exact ⟨Nat.le_trans ih.1 h.1, Nat.le_trans ih.2 h.2⟩
theorem c_passN_le (sg : Sg) {i j : Nat} (h : i ≤ j) : phc (c_passN sg i).2 ≤ phc (c_passN sg j).2 ∧ phs (c_passN sg i).2 ≤ phs (c_passN sg j).2 := by
  have := c_passN_mono sg (j - i) i
  rwa [show i + (j - i) = j by omega] at this
theorem c_day_2 (sg : Sg) (k i f : Nat) (h4 : k ≠ 4) (h20 : k = 20 → i ≠ 4) (h21 : 21 ≤ k → i ≠ 2) : (c_day sg).2.2 k i f = sg.2 k i f :=
  (c_collN_2 (0, c_day0 sg) k i f h4 h20 h21 _).trans (congrFun (congrFun (congrFun (c_day0_2 sg) k) i) f)
theorem c_passN_2 (sg : Sg) (k i f : Nat) (h4 : k ≠ 4) (h20 : k = 20 → i ≠ 4) (h21 : 21 ≤ k → i ≠ 2) : ∀ n, (c_passN sg n).2.2 k i f = sg.2 k i f
  | 0 => rfl
  | n + 1 => (c_day_2 _ k i f h4 h20 h21).trans (c_passN_2 sg k i f h4 h20 h21 n)
theorem c_passN_lw (sg : Sg) (L : Nat) (hL : L ≠ 2) (n : Nat) (h : lw sg L) : lw (c_passN sg n).2 L := lw_of (c_passN_2 sg 20 (2 + L) 0 (by decide) (fun _ => by omega) (fun z => absurd z (by decide)) n) (c_passN_2 sg 21 L 0 (by decide) (fun z => absurd z (by decide)) (fun _ => hL) n) (c_passN_2 sg 22 L 0 (by decide) (fun z => absurd z (by decide)) (fun _ => hL) n) (c_passN_2 sg 23 L 0 (by decide) (fun z => absurd z (by decide)) (fun _ => hL) n) h
theorem c_book_day (sg : Sg) (i : Nat) (g : Int32) : (c_book sg i g).1 0 0 5 = sg.1 0 0 5 := by
  unfold c_book
  split <;> rfl
theorem c_sell_day (sg : Sg) (p j : Nat) (v lt : Int32) : (c_sell sg p j v lt).1 0 0 5 = sg.1 0 0 5 := (c_book_day _ _ _).trans rfl
theorem c_try_day (sg : Sg) (u : Nat) : (c_try sg u).1 0 0 5 = sg.1 0 0 5 := by
  unfold c_try
  split
  · exact (c_sell_day _ _ _ _ _).trans rfl
  · rfl
theorem c_collN_day (q : Int32 × Sg) : ∀ n, (c_collN q n).2.1 0 0 5 = q.2.1 0 0 5
  | 0 => rfl
  | n + 1 => by
    have h := c_collN_day q n
    show (c_step (c_collN q n) n).2.1 0 0 5 = _
    unfold c_step
    split
    · exact (c_try_day _ _).trans h
    · exact h
theorem c_day0_day (sg : Sg) : (c_day0 sg).1 0 0 5 = sg.1 0 0 5 + 1 := by
  have h1 : (c_dayC (c_dayB (c_dayA sg))).1 0 = (c_dayB (c_dayA sg)).1 0 := by
    unfold c_dayC
    split
    · have : ∀ (s : Sg) n, (c_yearN s n).1 0 = s.1 0 := fun s n => by
        induction n with
        | zero => rfl
        | succ n ih => exact (show (c_yearN s (n + 1)).1 0 = (c_yearN s n).1 0 from rfl).trans ih
      exact this _ _
    · rfl
  show (c_dayC (c_dayB (c_dayA sg))).1 0 0 5 = _
  rw [h1, c_dayB_0]
  rfl
theorem c_passN_day (sg : Sg) (d : Nat) (h : sg.1 0 0 5 = nI d) : ∀ n, (c_passN sg n).2.1 0 0 5 = nI (d + n)
  | 0 => h
  | n + 1 => by
    show (c_collN (0, c_day0 (c_passN sg n).2) _).2.1 0 0 5 = _
    rw [c_collN_day]
    show (c_day0 (c_passN sg n).2).1 0 0 5 = _
    rw [c_day0_day, c_passN_day sg d h n, nI_1]
    rfl
theorem gkX5_252 : GoodIn TT (wsV RX5 252 yX5_collectPayments.cls yX5_collectPayments (Cond.code yX5_collectPayments cX5_collectPayments 4 (some .int) :: TT)) := goodTV (tC 70 rfl rfl) (tC 72 rfl rfl) (tP 15 rfl) (tA 1 rfl rfl) (tC 73 rfl rfl)
theorem hyX5_collectPayments : yX5_collectPayments.cls ≠ "java/lang/invoke/MethodHandle" ∧ yX5_collectPayments.cls ≠ "java/lang/invoke/VarHandle" ∧ (parseMethodDescriptor yX5_collectPayments.desc).map (fun d => d.parameters.length) = some 0 := by decide +kernel
theorem gkX5_249 : GoodIn TT (wsV RX5 249 yX5_beginYear.cls yX5_beginYear (Cond.code yX5_beginYear cX5_beginYear 2 none :: TT)) := goodTV (tC 66 rfl rfl) (tC 68 rfl rfl) (tP 14 rfl) (tA 1 rfl rfl) (tC 69 rfl rfl)
theorem hyX5_beginYear : yX5_beginYear.cls ≠ "java/lang/invoke/MethodHandle" ∧ yX5_beginYear.cls ≠ "java/lang/invoke/VarHandle" ∧ (parseMethodDescriptor yX5_beginYear.desc).map (fun d => d.parameters.length) = some 0 := by decide +kernel
theorem gkX5_246 : GoodIn TT (wsV RX5 246 yX5_closeMonth.cls yX5_closeMonth (Cond.code yX5_closeMonth cX5_closeMonth 3 none :: TT)) := goodTV (tC 54 rfl rfl) (tC 56 rfl rfl) (tP 13 rfl) (tA 1 rfl rfl) (tC 57 rfl rfl)
theorem hyX5_closeMonth : yX5_closeMonth.cls ≠ "java/lang/invoke/MethodHandle" ∧ yX5_closeMonth.cls ≠ "java/lang/invoke/VarHandle" ∧ (parseMethodDescriptor yX5_closeMonth.desc).map (fun d => d.parameters.length) = some 1 := by decide +kernel
theorem gkX5_199 : GoodIn TT (wsV RX5 199 yX5_beginNextDay.cls yX5_beginNextDay (Cond.code yX5_beginNextDay cX5_beginNextDay 1 (some .int) :: TT)) := goodTV (tC 50 rfl rfl) (tC 52 rfl rfl) (tP 12 rfl) (tA 1 rfl rfl) (tC 53 rfl rfl)
theorem hyX5_beginNextDay : yX5_beginNextDay.cls ≠ "java/lang/invoke/MethodHandle" ∧ yX5_beginNextDay.cls ≠ "java/lang/invoke/VarHandle" ∧ (parseMethodDescriptor yX5_beginNextDay.desc).map (fun d => d.parameters.length) = some 0 := by decide +kernel
theorem gkX5_48 : GoodIn TT (va_wsS RX5 48 yX5_requireRange (Cond.code yX5_requireRange cX5_requireRange 3 none :: TT)) := goodTS (tA 182 rfl rfl) (tA 183 rfl rfl) (tA 1 rfl rfl) (goodTT (tA 184 rfl rfl))
theorem hyX5_requireRange : yX5_requireRange.cls ≠ "java/lang/invoke/MethodHandle" ∧ yX5_requireRange.cls ≠ "java/lang/invoke/VarHandle" ∧ (parseMethodDescriptor yX5_requireRange.desc).map (fun d => d.parameters.length) = some 3 := by decide +kernel
set_option maxRecDepth 100000 in
set_option maxHeartbeats 4000000 in
theorem cc_begin (l : Launch) (D : va_G) (Y : Nat → Nat) (A : Nat → Prop) (sg : Sg) (al : Nat → Nat → Nat) (hw0 : lw sg 0) (hw3 : lw sg 3) (dd : Nat) (hdd : sg.1 0 0 5 = nI dd) (h36 : dd + 1 ≤ 3600) (safe : c_daySafe sg) : CT l yX5_beginNextDay (Cond.code yX5_beginNextDay cX5_beginNextDay 1 (some .int)) 12 284 D Y A [.ref (al 0 0)] (WX D Y A sg al []) (fun _ : Nat → Nat → Nat => some (.int (c_day sg).1)) (fun al' : Nat → Nat → Nat => fun H => alK al al' ∧ WX D Y A ((c_day sg).2) al' [] H) noX (phc (c_day sg).2 - phc sg) (phs (c_day sg).2 - phs sg) := by
  refine CT.of (by decide) (Nat.le_of_ble_eq_true rfl) ?_
  intro p_ e_ s_ m_ below_ meth_ c_ C0 K0 hr hlk htab hnm_
  refine k_aload_n C0 dX5_beginNextDay_0 0 rfl ?_
  refine k_dup C0 dX5_beginNextDay_1 rfl ?_
  refine c_getI C0 K0 0 0 rfl rfl inX5 rfl 5 (sg.1 0 0 5) (by decide) dX5_beginNextDay_2 (tA 86 rfl rfl) (fun _ h => h) rfl rfl ?_
  refine k_iconst C0 1 dX5_beginNextDay_5 (by decide) ?_
  refine k_iadd C0 dX5_beginNextDay_6 ?_
  refine c_putI C0 K0 0 0 rfl (ty := .int) rfl inX5 rfl tyX5 tyX5_ok nmX5 5 (by decide) dX5_beginNextDay_7 (tA 86 rfl rfl) (fun _ h => h) rfl (by decide +kernel) rfl rfl (Nat.le_of_ble_eq_true rfl) rfl ?_
  refine k_W (V' := WX D Y A (c_dayA sg) al []) (fun H h => h) ?_
  refine k_aload_n C0 dX5_beginNextDay_10 0 rfl ?_
  refine c_getI C0 K0 0 0 rfl rfl inX5 rfl 5 ((c_dayA sg).1 0 0 5) (by decide) dX5_beginNextDay_11 (tA 86 rfl rfl) (fun _ h => h) rfl rfl ?_
  refine k_bipush C0 30 dX5_beginNextDay_14 (by decide) ?_
  refine k_irem C0 dX5_beginNextDay_16 (by decide) ?_
  refine k_if_ne C0 30 dX5_beginNextDay_17 (by decide) (fun h17 => ?_) (fun h17 => ?_)
  ·
    first | refine k_W (V' := WX D Y A (c_dayB (c_dayA sg)) al []) (fun H h => by unfold c_dayB; rw [if_pos h17, ej]; exact h) ?_ | refine k_W (V' := WX D Y A (c_dayB (c_dayA sg)) al []) (fun H h => by unfold c_dayB; rw [if_neg h17]; exact h) ?_
    refine k_aload_n C0 dX5_beginNextDay_30 0 rfl ?_
    refine c_getI C0 K0 0 0 rfl rfl inX5 rfl 5 ((c_dayB (c_dayA sg)).1 0 0 5) (by decide) dX5_beginNextDay_31 (tA 86 rfl rfl) (fun _ h => h) rfl rfl ?_
    refine k_sipush C0 360 dX5_beginNextDay_34 (by decide) ?_
    refine k_irem C0 dX5_beginNextDay_37 (by decide) ?_
    refine k_if_ne C0 45 dX5_beginNextDay_38 (by decide) (fun h38 => ?_) (fun h38 => ?_)
    ·
      first | refine k_W (V' := WX D Y A (c_day0 sg) al []) (fun H h => by unfold c_day0 c_dayC; rw [if_pos h38]; exact h) ?_ | refine k_W (V' := WX D Y A (c_day0 sg) al []) (fun H h => by unfold c_day0 c_dayC; rw [if_neg h38]; exact h) ?_
      refine k_aload_n C0 dX5_beginNextDay_45 0 rfl ?_
      refine k_callV C0 K0 dX5_beginNextDay_46 (cc_collect l D Y A (c_day0 sg) al (lw_eq (c_day0_2 sg) 3 hw3) safe) gkX5_252 hyX5_collectPayments (c_recv (sg := (c_day0 sg)) (al := al) K0 0 0 rfl rfl rfl) rfl (by exact Nat.le_of_ble_eq_true rfl) ⟨Nat.le_of_ble_eq_true rfl, Nat.le_of_ble_eq_true rfl⟩ ⟨Nat.le_of_eq ((Nat.zero_add _).trans (congrArg (fun z => phc (c_day sg).2 - z) (c_day0_ph sg).1)), Nat.le_of_eq ((Nat.zero_add _).trans (congrArg (fun z => phs (c_day sg).2 - z) (c_day0_ph sg).2))⟩ (fun E => kX_no E) (fun al3 => k_ex (fun H h => h.1) (fun ha3 => k_W (V' := WX D Y A (c_day sg).2 al3 []) (fun H h => h.2) ?_))
      exact k_iret C0 dX5_beginNextDay_49 hr hlk (Nat.le_of_eq ((Nat.zero_add _).trans (congrArg (fun z => phc (c_day sg).2 - z) (c_day0_ph sg).1))) (Nat.le_of_eq ((Nat.zero_add _).trans (congrArg (fun z => phs (c_day sg).2 - z) (c_day0_ph sg).2))) al3 rfl (fun H h => ⟨ha3, h⟩)
    ·
      refine k_aload_n C0 dX5_beginNextDay_41 0 rfl ?_
      refine k_callV C0 K0 dX5_beginNextDay_42 (cc_beginYear l D Y A (c_dayB (c_dayA sg)) al (lw_eq (c_dayB_2 (c_dayA sg)) 0 hw0)) gkX5_249 hyX5_beginYear (c_recv (sg := (c_dayB (c_dayA sg))) (al := al) K0 0 0 rfl rfl rfl) rfl (by exact Nat.le_of_ble_eq_true rfl) ⟨Nat.le_of_ble_eq_true rfl, Nat.le_of_ble_eq_true rfl⟩ ⟨Nat.zero_le _, Nat.zero_le _⟩ (fun E => kX_no E) (fun _ => ?_)
      first | refine k_W (V' := WX D Y A (c_day0 sg) al []) (fun H h => by unfold c_day0 c_dayC; rw [if_pos h38]; exact h) ?_ | refine k_W (V' := WX D Y A (c_day0 sg) al []) (fun H h => by unfold c_day0 c_dayC; rw [if_neg h38]; exact h) ?_
      refine k_aload_n C0 dX5_beginNextDay_45 0 rfl ?_
      refine k_callV C0 K0 dX5_beginNextDay_46 (cc_collect l D Y A (c_day0 sg) al (lw_eq (c_day0_2 sg) 3 hw3) safe) gkX5_252 hyX5_collectPayments (c_recv (sg := (c_day0 sg)) (al := al) K0 0 0 rfl rfl rfl) rfl (by exact Nat.le_of_ble_eq_true rfl) ⟨Nat.le_of_ble_eq_true rfl, Nat.le_of_ble_eq_true rfl⟩ ⟨Nat.le_of_eq ((Nat.zero_add _).trans (congrArg (fun z => phc (c_day sg).2 - z) (c_day0_ph sg).1)), Nat.le_of_eq ((Nat.zero_add _).trans (congrArg (fun z => phs (c_day sg).2 - z) (c_day0_ph sg).2))⟩ (fun E => kX_no E) (fun al3 => k_ex (fun H h => h.1) (fun ha3 => k_W (V' := WX D Y A (c_day sg).2 al3 []) (fun H h => h.2) ?_))
      exact k_iret C0 dX5_beginNextDay_49 hr hlk (Nat.le_of_eq ((Nat.zero_add _).trans (congrArg (fun z => phc (c_day sg).2 - z) (c_day0_ph sg).1))) (Nat.le_of_eq ((Nat.zero_add _).trans (congrArg (fun z => phs (c_day sg).2 - z) (c_day0_ph sg).2))) al3 rfl (fun H h => ⟨ha3, h⟩)
  ·
    refine k_aload_n C0 dX5_beginNextDay_20 0 rfl ?_
    refine k_aload_n C0 dX5_beginNextDay_21 0 rfl ?_
    refine k_callV C0 K0 dX5_beginNextDay_22 (cc_currentMonth l D Y A (c_dayA sg) al [] ) gkX5_117 hyX5_currentMonth (c_recv (sg := (c_dayA sg)) (al := al) K0 0 0 rfl rfl rfl) rfl (by exact Nat.le_of_ble_eq_true rfl) ⟨Nat.le_of_ble_eq_true rfl, Nat.le_of_ble_eq_true rfl⟩ ⟨Nat.zero_le _, Nat.zero_le _⟩ (fun E => kX_no E) (fun _ => ?_)
    refine k_iconst C0 1 dX5_beginNextDay_25 (by decide) ?_
    refine k_isub C0 dX5_beginNextDay_26 ?_
    obtain ⟨j, ej, hj⟩ := r_mon (d := dd + 1) (x := (c_dayA sg).1 0 0 5) ((congrArg (fun z : Int32 => z + 1) hdd).trans (nI_1 dd)) (by omega) h17 (by omega)
    rw [ej]
    refine k_callV C0 K0 dX5_beginNextDay_27 (cc_closeMonth l D Y A (c_dayA sg) al hw0 j hj) gkX5_246 hyX5_closeMonth (c_recv (sg := (c_dayA sg)) (al := al) K0 0 0 rfl rfl rfl) rfl (by exact Nat.le_of_ble_eq_true rfl) ⟨Nat.le_of_ble_eq_true rfl, Nat.le_of_ble_eq_true rfl⟩ ⟨Nat.zero_le _, Nat.zero_le _⟩ (fun E => kX_no E) (fun _ => ?_)
    first | refine k_W (V' := WX D Y A (c_dayB (c_dayA sg)) al []) (fun H h => by unfold c_dayB; rw [if_pos h17, ej]; exact h) ?_ | refine k_W (V' := WX D Y A (c_dayB (c_dayA sg)) al []) (fun H h => by unfold c_dayB; rw [if_neg h17]; exact h) ?_
    refine k_aload_n C0 dX5_beginNextDay_30 0 rfl ?_
    refine c_getI C0 K0 0 0 rfl rfl inX5 rfl 5 ((c_dayB (c_dayA sg)).1 0 0 5) (by decide) dX5_beginNextDay_31 (tA 86 rfl rfl) (fun _ h => h) rfl rfl ?_
    refine k_sipush C0 360 dX5_beginNextDay_34 (by decide) ?_
    refine k_irem C0 dX5_beginNextDay_37 (by decide) ?_
    refine k_if_ne C0 45 dX5_beginNextDay_38 (by decide) (fun h38 => ?_) (fun h38 => ?_)
    ·
      first | refine k_W (V' := WX D Y A (c_day0 sg) al []) (fun H h => by unfold c_day0 c_dayC; rw [if_pos h38]; exact h) ?_ | refine k_W (V' := WX D Y A (c_day0 sg) al []) (fun H h => by unfold c_day0 c_dayC; rw [if_neg h38]; exact h) ?_
      refine k_aload_n C0 dX5_beginNextDay_45 0 rfl ?_
      refine k_callV C0 K0 dX5_beginNextDay_46 (cc_collect l D Y A (c_day0 sg) al (lw_eq (c_day0_2 sg) 3 hw3) safe) gkX5_252 hyX5_collectPayments (c_recv (sg := (c_day0 sg)) (al := al) K0 0 0 rfl rfl rfl) rfl (by exact Nat.le_of_ble_eq_true rfl) ⟨Nat.le_of_ble_eq_true rfl, Nat.le_of_ble_eq_true rfl⟩ ⟨Nat.le_of_eq ((Nat.zero_add _).trans (congrArg (fun z => phc (c_day sg).2 - z) (c_day0_ph sg).1)), Nat.le_of_eq ((Nat.zero_add _).trans (congrArg (fun z => phs (c_day sg).2 - z) (c_day0_ph sg).2))⟩ (fun E => kX_no E) (fun al3 => k_ex (fun H h => h.1) (fun ha3 => k_W (V' := WX D Y A (c_day sg).2 al3 []) (fun H h => h.2) ?_))
      exact k_iret C0 dX5_beginNextDay_49 hr hlk (Nat.le_of_eq ((Nat.zero_add _).trans (congrArg (fun z => phc (c_day sg).2 - z) (c_day0_ph sg).1))) (Nat.le_of_eq ((Nat.zero_add _).trans (congrArg (fun z => phs (c_day sg).2 - z) (c_day0_ph sg).2))) al3 rfl (fun H h => ⟨ha3, h⟩)
    ·
      refine k_aload_n C0 dX5_beginNextDay_41 0 rfl ?_
      refine k_callV C0 K0 dX5_beginNextDay_42 (cc_beginYear l D Y A (c_dayB (c_dayA sg)) al (lw_eq (c_dayB_2 (c_dayA sg)) 0 hw0)) gkX5_249 hyX5_beginYear (c_recv (sg := (c_dayB (c_dayA sg))) (al := al) K0 0 0 rfl rfl rfl) rfl (by exact Nat.le_of_ble_eq_true rfl) ⟨Nat.le_of_ble_eq_true rfl, Nat.le_of_ble_eq_true rfl⟩ ⟨Nat.zero_le _, Nat.zero_le _⟩ (fun E => kX_no E) (fun _ => ?_)
      first | refine k_W (V' := WX D Y A (c_day0 sg) al []) (fun H h => by unfold c_day0 c_dayC; rw [if_pos h38]; exact h) ?_ | refine k_W (V' := WX D Y A (c_day0 sg) al []) (fun H h => by unfold c_day0 c_dayC; rw [if_neg h38]; exact h) ?_
      refine k_aload_n C0 dX5_beginNextDay_45 0 rfl ?_
      refine k_callV C0 K0 dX5_beginNextDay_46 (cc_collect l D Y A (c_day0 sg) al (lw_eq (c_day0_2 sg) 3 hw3) safe) gkX5_252 hyX5_collectPayments (c_recv (sg := (c_day0 sg)) (al := al) K0 0 0 rfl rfl rfl) rfl (by exact Nat.le_of_ble_eq_true rfl) ⟨Nat.le_of_ble_eq_true rfl, Nat.le_of_ble_eq_true rfl⟩ ⟨Nat.le_of_eq ((Nat.zero_add _).trans (congrArg (fun z => phc (c_day sg).2 - z) (c_day0_ph sg).1)), Nat.le_of_eq ((Nat.zero_add _).trans (congrArg (fun z => phs (c_day sg).2 - z) (c_day0_ph sg).2))⟩ (fun E => kX_no E) (fun al3 => k_ex (fun H h => h.1) (fun ha3 => k_W (V' := WX D Y A (c_day sg).2 al3 []) (fun H h => h.2) ?_))
      exact k_iret C0 dX5_beginNextDay_49 hr hlk (Nat.le_of_eq ((Nat.zero_add _).trans (congrArg (fun z => phc (c_day sg).2 - z) (c_day0_ph sg).1))) (Nat.le_of_eq ((Nat.zero_add _).trans (congrArg (fun z => phs (c_day sg).2 - z) (c_day0_ph sg).2))) al3 rfl (fun H h => ⟨ha3, h⟩)
set_option maxRecDepth 100000 in
set_option maxHeartbeats 4000000 in
theorem lp_pass {p : Program} {l : Launch} {e : Env} {R : Room} {s_ : State} {m_ : MethodId} {args_ : Array Value} {below_ : List Frame} {meth_ : Method} {c_ : Code} {Q : State → Prop} {D : va_G} {Y : Nat → Nat} {A : Nat → Prop} {k n : Nat} (C0 : CallFix p m_ c_ cX5_pass 4 s_ args_ TT RX5) (K0 : PK D Y A s_) (sg : Sg) (al : Nat → Nat → Nat) (nd dd : Nat) (hw0 : lw sg 0) (hw3 : lw sg 3) (hdd : sg.1 0 0 5 = nI dd) (h36 : dd + nd ≤ 3600) (safe : ∀ i, i < nd → c_daySafe (c_passN sg i).2) (hR : 13 ≤ R.frames ∧ 304 ≤ R.locals) (hRc : k + (phc (c_passN sg nd).2 - phc sg) ≤ R.cells ∧ n + (phs (c_passN sg nd).2 - phs sg) ≤ R.slots) (exit : kG p l e R s_ m_ args_ below_ meth_ c_ Q A 4 (fun H => ∃ al2 : Nat → Nat → Nat, alK al al2 ∧ WX D Y A ((c_passN sg nd).2) al2 [] H) (k + (phc (c_passN sg nd).2 - phc sg)) (n + (phs (c_passN sg nd).2 - phs sg)) 52 [(3, .int (nI nd)), (2, .int ((c_passN sg nd).1)), (0, .ref (al 0 0)), (1, .int (nI nd))] []) : ∀ (d i : Nat), i + d = nd → kG p l e R s_ m_ args_ below_ meth_ c_ Q A 4 (fun H => ∃ al2 : Nat → Nat → Nat, alK al al2 ∧ WX D Y A ((c_passN sg i).2) al2 [] H) (k + (phc (c_passN sg i).2 - phc sg)) (n + (phs (c_passN sg i).2 - phs sg)) 34 [(3, .int (nI i)), (2, .int ((c_passN sg i).1)), (0, .ref (al 0 0)), (1, .int (nI nd))] [] := by
  intro d
  induction d with
  | zero =>
    intro i hi
    have hb : i = nd := by omega
    subst hb
    refine k_exV (fun al1 => ?_)
    refine k_ex (fun H h => h.1) (fun ha => ?_)
    refine k_W (V' := WX D Y A (c_passN sg i).2 al1 []) (fun H h => h.2) ?_
    rw [show Value.ref (al 0 0) = Value.ref (al1 0 0) from congrArg Value.ref (ha 0 0 (by decide) (by decide)).symm]
    refine k_iload_n C0 dX5_pass_34 0 rfl ?_
    refine k_iload_n C0 dX5_pass_35 3 rfl ?_
    refine k_icmp_ge C0 52 dX5_pass_36 (by decide) (fun _ => ?_) (fun zz => absurd (Int32.le_refl _) zz)
    rw [show Value.ref (al1 0 0) = Value.ref (al 0 0) from congrArg Value.ref (ha 0 0 (by decide) (by decide))]; exact k_W (fun H h => ⟨al1, ha, h⟩) exit
  | succ d ih =>
    intro i hi
    refine k_exV (fun al1 => ?_)
    refine k_ex (fun H h => h.1) (fun ha => ?_)
    refine k_W (V' := WX D Y A (c_passN sg i).2 al1 []) (fun H h => h.2) ?_
    rw [show Value.ref (al 0 0) = Value.ref (al1 0 0) from congrArg Value.ref (ha 0 0 (by decide) (by decide)).symm]
    have m0 := c_passN_le sg (i := 0) (j := i) (Nat.zero_le _)
    have m0a : phc sg ≤ phc (c_passN sg i).2 := m0.1
    have m0b : phs sg ≤ phs (c_passN sg i).2 := m0.2
    have m1 := c_passN_le sg (i := i + 1) (j := nd) (by omega)
    have e0 : (c_passN sg (i + 1)).2 = (c_day (c_passN sg i).2).2 := rfl
    have eC : phc (c_passN sg (i + 1)).2 = phc (c_day (c_passN sg i).2).2 := congrArg phc e0
    have eD : phs (c_passN sg (i + 1)).2 = phs (c_day (c_passN sg i).2).2 := congrArg phs e0
    have m1a : phc (c_day (c_passN sg i).2).2 ≤ phc (c_passN sg nd).2 := by rw [← e0]; exact m1.1
    have m1b : phs (c_day (c_passN sg i).2).2 ≤ phs (c_passN sg nd).2 := by rw [← e0]; exact m1.2
    have m2 := c_day_ph (c_passN sg i).2
    refine k_iload_n C0 dX5_pass_34 0 rfl ?_
    refine k_iload_n C0 dX5_pass_35 3 rfl ?_
    refine k_icmp_ge C0 52 dX5_pass_36 (by decide) (fun zz => absurd zz (nI_ge (by omega) (by omega))) (fun _ => ?_)
    refine k_iload_n C0 dX5_pass_39 1 rfl ?_
    refine k_aload_n C0 dX5_pass_40 2 rfl ?_
    refine k_callV C0 K0 dX5_pass_41 (cc_begin l D Y A (c_passN sg i).2 al1 (c_passN_lw sg 0 (by decide) i hw0) (c_passN_lw sg 3 (by decide) i hw3) (dd + i) (c_passN_day sg dd hdd i) (by omega) (safe i (by omega))) gkX5_199 hyX5_beginNextDay (c_recv (sg := (c_passN sg i).2) (al := al1) K0 0 0 rfl rfl rfl) rfl (by exact Nat.le_of_ble_eq_true rfl) ⟨Nat.le_trans (Nat.le_of_ble_eq_true rfl) hR.1, Nat.le_trans (Nat.le_of_ble_eq_true rfl) hR.2⟩ ⟨by have := hRc.1; show k + (phc (c_passN sg i).2 - phc sg) + (phc (c_day (c_passN sg i).2).2 - phc (c_passN sg i).2) ≤ _; omega, by have := hRc.2; show n + (phs (c_passN sg i).2 - phs sg) + (phs (c_day (c_passN sg i).2).2 - phs (c_passN sg i).2) ≤ _; omega⟩ (fun E => kX_no E) (fun al3 => k_ex (fun H h => h.1) (fun ha3 => k_W (V' := WX D Y A (c_day (c_passN sg i).2).2 al3 []) (fun H h => h.2) ?_))
    refine k_iadd C0 dX5_pass_44 ?_
    refine k_istore_n C0 [(2, _), (3, _), (0, _), (1, _)] dX5_pass_45 (by decide) rfl ?_
    refine k_iinc C0 (nI (i + 1)) [(3, _), (2, _), (0, _), (1, _)] dX5_pass_46 1 rfl (nI_1 i) (by decide) rfl ?_
    refine k_goto C0 34 dX5_pass_49 (by decide) ?_
    have hx := ih (i + 1) (by omega)
    rw [show Value.ref (al1 0 0) = Value.ref (al 0 0) from congrArg Value.ref (ha 0 0 (by decide) (by decide))]
    refine k_wid (k2 := k + (phc (c_passN sg (i + 1)).2 - phc sg)) (n2 := n + (phs (c_passN sg (i + 1)).2 - phs sg)) (by rw [eC]; omega) (by rw [eD]; omega) (k_W (fun H h => ⟨al3, ha.tr ha3, h⟩) hx)
set_option maxRecDepth 100000 in
set_option maxHeartbeats 4000000 in
theorem cc_pass (l : Launch) (D : va_G) (Y : Nat → Nat) (A : Nat → Prop) (sg : Sg) (al : Nat → Nat → Nat) (nd dd : Nat) (hw0 : lw sg 0) (hw3 : lw sg 3) (hdd : sg.1 0 0 5 = nI dd) (h1 : 1 ≤ nd) (h400 : nd ≤ 400) (h36 : dd + nd ≤ 3600) (safe : ∀ i, i < nd → c_daySafe (c_passN sg i).2) : CT l yX5_pass (Cond.code yX5_pass cX5_pass 4 (some .int)) 13 304 D Y A [.ref (al 0 0), .int (nI nd)] (WX D Y A sg al []) (fun _ : Nat → Nat → Nat => some (.int (c_passN sg nd).1)) (fun al' : Nat → Nat → Nat => fun H => alK al al' ∧ WX D Y A ((c_passN sg nd).2) al' [] H) noX (phc (c_passN sg nd).2 - phc sg) (phs (c_passN sg nd).2 - phs sg) := by
  refine CT.of (by decide) (Nat.le_of_ble_eq_true rfl) ?_
  intro p_ e_ s_ m_ below_ meth_ c_ C0 K0 hr hlk htab hnm_
  refine k_iload_n C0 dX5_pass_0 1 rfl ?_
  refine k_iconst C0 1 dX5_pass_1 (by decide) ?_
  refine k_sipush C0 400 dX5_pass_2 (by decide) ?_
  refine k_callS C0 K0 dX5_pass_5 (cc_requireRange l D Y A (WX D Y A sg al []) (nI nd) (1 : Int32) (400 : Int32) (nI_le (a := 1) (by omega) (by omega)) (nI_le (b := 400) (by omega) (by decide))) gkX5_48 hyX5_requireRange rfl (by exact Nat.le_of_ble_eq_true rfl) ⟨Nat.le_of_ble_eq_true rfl, Nat.le_of_ble_eq_true rfl⟩ ⟨Nat.zero_le _, Nat.zero_le _⟩ (fun E => kX_no E) (fun _ => ?_)
  refine k_aload_n C0 dX5_pass_8 0 rfl ?_
  refine c_getI C0 K0 0 0 rfl rfl inX5 rfl 5 (sg.1 0 0 5) (by decide) dX5_pass_9 (tA 86 rfl rfl) (fun _ h => h) rfl rfl ?_
  refine k_iload_n C0 dX5_pass_12 1 rfl ?_
  refine k_iadd C0 dX5_pass_13 ?_
  refine k_sipush C0 3600 dX5_pass_14 (by decide) ?_
  refine k_icmp_le C0 30 dX5_pass_17 (by decide) (fun _ => ?_) (fun zz => absurd (by rw [hdd, nI_add]; exact nI_le (b := 3600) (by omega) (by decide)) zz)
  refine k_iconst C0 0 dX5_pass_30 (by decide) ?_
  refine k_istore_n C0 [(2, _), (0, _), (1, _)] dX5_pass_31 (by decide) rfl ?_
  refine k_iconst C0 0 dX5_pass_32 (by decide) ?_
  refine k_istore_n C0 [(3, _), (2, _), (0, _), (1, _)] dX5_pass_33 (by decide) rfl ?_
  refine k_wid (k2 := 0 + (phc sg - phc sg)) (n2 := 0 + (phs sg - phs sg)) (Nat.zero_le _) (Nat.zero_le _) ?_
  refine k_W (V' := (fun H => ∃ al2 : Nat → Nat → Nat, alK al al2 ∧ WX D Y A ((c_passN sg 0).2) al2 [] H)) (fun H h => ⟨al, alK.rf al, h⟩) ?_
  refine lp_pass C0 K0 sg al nd dd hw0 hw3 hdd h36 safe ⟨Nat.le_of_ble_eq_true rfl, Nat.le_of_ble_eq_true rfl⟩ ⟨Nat.le_of_eq (Nat.zero_add _), Nat.le_of_eq (Nat.zero_add _)⟩ ?_ nd 0 (Nat.zero_add _)
  refine k_exV (fun al1 => ?_)
  refine k_ex (fun H h => h.1) (fun ha => ?_)
  refine k_W (V' := WX D Y A (c_passN sg nd).2 al1 []) (fun H h => h.2) ?_
  refine k_iload_n C0 dX5_pass_52 1 rfl ?_
  exact k_iret C0 dX5_pass_53 hr hlk (Nat.le_of_eq (Nat.zero_add _)) (Nat.le_of_eq (Nat.zero_add _)) al1 rfl (fun H h => ⟨ha, h⟩)
set_option maxRecDepth 100000 in
set_option maxHeartbeats 4000000 in
theorem cx_pass_1 (l : Launch) (D : va_G) (Y : Nat → Nat) (A : Nat → Prop) (sg : Sg) (al : Nat → Nat → Nat) (X : va_W) (hlt : l.stackTraces = false) (x : Int32) (h : ¬ (1 ≤ x ∧ x ≤ 400)) : CT l yX5_pass (Cond.code yX5_pass cX5_pass 4 (some .int)) 7 104 D Y A [.ref (al 0 0), .int x] (WX D Y A sg al X) (fun _ : Unit => none) (fun (_ : Unit) (_ : Heap) => False) (xE "java/lang/IllegalArgumentException" (WX D Y A sg al X)) 1 6 := by
  refine CT.of (by decide) (Nat.le_of_ble_eq_true rfl) ?_
  intro p_ e_ s_ m_ below_ meth_ c_ C0 K0 hr hlk htab hnm_
  refine k_iload_n C0 dX5_pass_0 1 rfl ?_
  refine k_iconst C0 1 dX5_pass_1 (by decide) ?_
  refine k_sipush C0 400 dX5_pass_2 (by decide) ?_
  refine k_callS C0 K0 dX5_pass_5 (cx_requireRange l D Y A sg al X hlt x (1 : Int32) (400 : Int32) h) gkX5_48 hyX5_requireRange rfl (by exact Nat.le_of_ble_eq_true rfl) ⟨Nat.le_of_ble_eq_true rfl, Nat.le_of_ble_eq_true rfl⟩ ⟨Nat.le_of_ble_eq_true rfl, Nat.le_of_ble_eq_true rfl⟩ (fun E => kX_out htab hlk (Nat.le_of_ble_eq_true rfl) (Nat.le_of_ble_eq_true rfl) (fun H h => h)) (fun _ => kG_no)
set_option maxRecDepth 100000 in
set_option maxHeartbeats 4000000 in
theorem cx_pass_2 (l : Launch) (D : va_G) (Y : Nat → Nat) (A : Nat → Prop) (sg : Sg) (al : Nat → Nat → Nat) (X : va_W) (hlt : l.stackTraces = false) (x : Int32) (h1 : 1 ≤ x) (h2 : x ≤ 400) (h : ¬ sg.1 0 0 5 + x ≤ 3600) : CT l yX5_pass (Cond.code yX5_pass cX5_pass 4 (some .int)) 6 82 D Y A [.ref (al 0 0), .int x] (WX D Y A sg al X) (fun _ : Unit => none) (fun (_ : Unit) (_ : Heap) => False) (xE "java/lang/IllegalStateException" (WX D Y A sg al X)) 1 6 := by
  refine CT.of (by decide) (Nat.le_of_ble_eq_true rfl) ?_
  intro p_ e_ s_ m_ below_ meth_ c_ C0 K0 hr hlk htab hnm_
  refine k_iload_n C0 dX5_pass_0 1 rfl ?_
  refine k_iconst C0 1 dX5_pass_1 (by decide) ?_
  refine k_sipush C0 400 dX5_pass_2 (by decide) ?_
  refine k_callS C0 K0 dX5_pass_5 (cc_requireRange l D Y A (WX D Y A sg al X) x (1 : Int32) (400 : Int32) h1 h2) gkX5_48 hyX5_requireRange rfl (by exact Nat.le_of_ble_eq_true rfl) ⟨Nat.le_of_ble_eq_true rfl, Nat.le_of_ble_eq_true rfl⟩ ⟨Nat.le_of_ble_eq_true rfl, Nat.le_of_ble_eq_true rfl⟩ (fun E => kX_no E) (fun _ => ?_)
  refine k_aload_n C0 dX5_pass_8 0 rfl ?_
  refine c_getI C0 K0 0 0 rfl rfl inX5 rfl 5 (sg.1 0 0 5) (by decide) dX5_pass_9 (tA 86 rfl rfl) (fun _ h => h) rfl rfl ?_
  refine k_iload_n C0 dX5_pass_12 1 rfl ?_
  refine k_iadd C0 dX5_pass_13 ?_
  refine k_sipush C0 3600 dX5_pass_14 (by decide) ?_
  refine k_icmp_le C0 30 dX5_pass_17 (by decide) (fun zz => absurd zz h) (fun _ => ?_)
  exact k_throwS C0 K0 hlt htab hlk rfl (text := "the day would be above the last one") (by decide) (by decide +kernel) (tA 198 rfl rfl) (tA 13 rfl rfl) in_x1 in_y1 in_z1 (by decide) dX5_pass_20 dX5_pass_23 dX5_pass_24 dX5_pass_26 dX5_pass_29 (Nat.le_of_ble_eq_true rfl) (Nat.le_of_ble_eq_true rfl) (Nat.le_of_ble_eq_true rfl) (Nat.le_of_ble_eq_true rfl) (Nat.le_of_ble_eq_true rfl) (Nat.le_of_ble_eq_true rfl) rfl (fun H H2 hV _ oq => ⟨rfl, hV.keep oq⟩)
