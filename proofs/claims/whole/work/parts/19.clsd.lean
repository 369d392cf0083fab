def c_closeN (sg : Sg) (mo : Int32) : Nat → Sg
  | 0 => sg
  | i + 1 => c_settle (c_closeN sg mo i) i mo
def c_yearN (sg : Sg) : Nat → Sg
  | 0 => sg
  | i + 1 => sI (c_yearN sg i) 2 i 4 0
theorem c_closeN_2 (sg : Sg) (mo : Int32) : ∀ i, (c_closeN sg mo i).2 = sg.2
  | 0 => rfl
  | i + 1 => (show (c_settle (c_closeN sg mo i) i mo).2 = (c_closeN sg mo i).2 from rfl).trans (c_closeN_2 sg mo i)
theorem c_yearN_2 (sg : Sg) : ∀ i, (c_yearN sg i).2 = sg.2
  | 0 => rfl
  | i + 1 => c_yearN_2 sg i
theorem lw_eq {sg sg' : Sg} (e : sg'.2 = sg.2) (L : Nat) (h : lw sg L) : lw sg' L := by
  unfold lw sZ sF sC sN at *
  rw [e]
  exact h
theorem N_eq {sg sg' : Sg} (e : sg'.2 = sg.2) (k : Nat) : sN sg' k = sN sg k := by
  unfold sN
  rw [e]
def c_dayA (sg : Sg) : Sg := sI sg 0 0 5 (sg.1 0 0 5 + 1)
def c_dayB (sg : Sg) : Sg := if sg.1 0 0 5 - sg.1 0 0 5 / 30 * 30 = 0 then c_closeN sg (sg.1 0 0 5 / 30 - 1) (sN sg 2) else sg
def c_dayC (sg : Sg) : Sg := if sg.1 0 0 5 - sg.1 0 0 5 / 360 * 360 = 0 then c_yearN sg (sN sg 2) else sg
def c_day0 (sg : Sg) : Sg := c_dayC (c_dayB (c_dayA sg))
theorem c_dayB_2 (sg : Sg) : (c_dayB sg).2 = sg.2 := by
  unfold c_dayB
  split
  · exact c_closeN_2 _ _ _
  · rfl
theorem c_dayC_2 (sg : Sg) : (c_dayC sg).2 = sg.2 := by
  unfold c_dayC
  split
  · exact c_yearN_2 _ _
  · rfl
theorem c_day0_2 (sg : Sg) : (c_day0 sg).2 = sg.2 := (c_dayC_2 _).trans ((c_dayB_2 _).trans rfl)
theorem c_closeN_0 (sg : Sg) (mo : Int32) : ∀ i, (c_closeN sg mo i).1 0 = sg.1 0
  | 0 => rfl
  | i + 1 => (show (c_settle (c_closeN sg mo i) i mo).1 0 = (c_closeN sg mo i).1 0 from rfl).trans (c_closeN_0 sg mo i)
theorem c_dayB_0 (sg : Sg) : (c_dayB sg).1 0 = sg.1 0 := by
  unfold c_dayB
  split
  · exact c_closeN_0 _ _ _
  · rfl
theorem gkX5_255 : GoodIn TT (wsV RX5 255 yX1_settle.cls yX1_settle (Cond.code yX1_settle cX1_settle 4 none :: TT)) := goodTV (tC 179 rfl rfl) (tC 180 rfl rfl) (tC 181 rfl rfl) (tA 12 rfl rfl) (tC 182 rfl rfl)
theorem hyX1_settle : yX1_settle.cls ≠ "java/lang/invoke/MethodHandle" ∧ yX1_settle.cls ≠ "java/lang/invoke/VarHandle" ∧ (parseMethodDescriptor yX1_settle.desc).map (fun d => d.parameters.length) = some 1 := by decide +kernel
set_option maxRecDepth 100000 in
set_option maxHeartbeats 4000000 in
theorem lp_close {p : Program} {l : Launch} {e : Env} {R : Room} {s_ : State} {m_ : MethodId} {args_ : Array Value} {below_ : List Frame} {meth_ : Method} {c_ : Code} {Q : State → Prop} {D : va_G} {Y : Nat → Nat} {A : Nat → Prop} {k n : Nat} (C0 : CallFix p m_ c_ cX5_closeMonth 3 s_ args_ TT RX5) (K0 : PK D Y A s_) (sg : Sg) (al : Nat → Nat → Nat) (nm : Nat) (hnm : sN sg 2 = nm) (hw0 : lw sg 0) (j : Nat) (hj : j < 120) (hR : 3 ≤ R.frames ∧ 64 ≤ R.locals) (hRc : k ≤ R.cells ∧ n ≤ R.slots) (exit : kG p l e R s_ m_ args_ below_ meth_ c_ Q A 3 (WX D Y A (c_closeN sg (nI j) nm) al []) k n 34 [(2, .int (nI nm)), (0, .ref (al 0 0)), (1, .int (nI j))] []) : ∀ (d i : Nat), i + d = nm → kG p l e R s_ m_ args_ below_ meth_ c_ Q A 3 (WX D Y A (c_closeN sg (nI j) i) al []) k n 2 [(2, .int (nI i)), (0, .ref (al 0 0)), (1, .int (nI j))] [] := by
  intro d
  induction d with
  | zero =>
    intro i hi
    have hb : i = nm := by omega
    subst hb
    have hw := lw_eq (c_closeN_2 sg (nI j) i) 0 hw0
    have w1 : sZ (c_closeN sg (nI j) i) 0 = sN (c_closeN sg (nI j) i) 2 := hw.1
    have w2 : sF (c_closeN sg (nI j) i) 0 = sN (c_closeN sg (nI j) i) 2 := hw.2.1
    have w3 : sN (c_closeN sg (nI j) i) 2 ≤ sC (c_closeN sg (nI j) i) 0 := hw.2.2.1
    have w5 := hw.2.2.2.2
    have hN : sN (c_closeN sg (nI j) i) 2 = i := (N_eq (c_closeN_2 sg (nI j) i) 2).trans hnm
    refine k_iload_n C0 dX5_closeMonth_2 0 rfl ?_
    refine k_aload_n C0 dX5_closeMonth_3 1 rfl ?_
    refine c_get C0 K0 0 0 rfl rfl inX5 rfl 1 (.ref (al 9 0)) (by decide) dX5_closeMonth_4 (tA 83 rfl rfl) (fun _ h => h) rfl ?_
    refine k_callV C0 K0 dX5_closeMonth_7 (cl_size l D Y A (c_closeN sg (nI j) i) al [] 0 (by decide)) gkX5_60 hyJx4a65c_size_8abf5 (c_recv (sg := (c_closeN sg (nI j) i)) (al := al) K0 9 0 (show (0 : Nat) < 4 by decide) rfl rfl) rfl (by exact Nat.le_of_ble_eq_true rfl) ⟨Nat.le_trans (Nat.le_of_ble_eq_true rfl) hR.1, Nat.le_trans (Nat.le_of_ble_eq_true rfl) hR.2⟩ hRc (fun E => kX_no E) (fun _ => ?_)
    refine k_icmp_ge C0 34 dX5_closeMonth_10 (by decide) (fun _ => ?_) (fun zz => absurd (by show nI (sZ (c_closeN sg (nI j) i) 0) ≤ _; rw [w1, hN]; exact Int32.le_refl _) zz)
    exact exit
  | succ d ih =>
    intro i hi
    have hw := lw_eq (c_closeN_2 sg (nI j) i) 0 hw0
    have w1 : sZ (c_closeN sg (nI j) i) 0 = sN (c_closeN sg (nI j) i) 2 := hw.1
    have w2 : sF (c_closeN sg (nI j) i) 0 = sN (c_closeN sg (nI j) i) 2 := hw.2.1
    have w3 : sN (c_closeN sg (nI j) i) 2 ≤ sC (c_closeN sg (nI j) i) 0 := hw.2.2.1
    have w5 := hw.2.2.2.2
    have hN : sN (c_closeN sg (nI j) i) 2 = nm := (N_eq (c_closeN_2 sg (nI j) i) 2).trans hnm
    refine k_iload_n C0 dX5_closeMonth_2 0 rfl ?_
    refine k_aload_n C0 dX5_closeMonth_3 1 rfl ?_
    refine c_get C0 K0 0 0 rfl rfl inX5 rfl 1 (.ref (al 9 0)) (by decide) dX5_closeMonth_4 (tA 83 rfl rfl) (fun _ h => h) rfl ?_
    refine k_callV C0 K0 dX5_closeMonth_7 (cl_size l D Y A (c_closeN sg (nI j) i) al [] 0 (by decide)) gkX5_60 hyJx4a65c_size_8abf5 (c_recv (sg := (c_closeN sg (nI j) i)) (al := al) K0 9 0 (show (0 : Nat) < 4 by decide) rfl rfl) rfl (by exact Nat.le_of_ble_eq_true rfl) ⟨Nat.le_trans (Nat.le_of_ble_eq_true rfl) hR.1, Nat.le_trans (Nat.le_of_ble_eq_true rfl) hR.2⟩ hRc (fun E => kX_no E) (fun _ => ?_)
    refine k_icmp_ge C0 34 dX5_closeMonth_10 (by decide) (fun zz => absurd zz (by show ¬ nI (sZ (c_closeN sg (nI j) i) 0) ≤ _; rw [w1]; exact nI_ge (by omega) (by omega))) (fun _ => ?_)
    refine k_aload_n C0 dX5_closeMonth_13 1 rfl ?_
    refine c_get C0 K0 0 0 rfl rfl inX5 rfl 1 (.ref (al 9 0)) (by decide) dX5_closeMonth_14 (tA 83 rfl rfl) (fun _ h => h) rfl ?_
    refine k_iload_n C0 dX5_closeMonth_17 0 rfl ?_
    refine k_callV C0 K0 dX5_closeMonth_18 (cl_get l D Y A (c_closeN sg (nI j) i) al [] 0 (by decide) i (Nat.lt_of_lt_of_eq (show i < sN (c_closeN sg (nI j) i) 2 by omega) w1.symm) (Nat.lt_of_lt_of_eq (show i < sN (c_closeN sg (nI j) i) 2 by omega) w2.symm) (Nat.le_trans (Nat.le_of_eq w2) w3) (Nat.lt_of_le_of_lt w5 (by decide)) (Nat.lt_of_le_of_lt (Nat.le_trans (Nat.le_of_eq w1) w3) (Nat.lt_of_le_of_lt w5 (by decide)))) gkX5_209 hyJx4a65c_get_915e3 (c_recv (sg := (c_closeN sg (nI j) i)) (al := al) K0 9 0 (show (0 : Nat) < 4 by decide) rfl rfl) rfl (by exact Nat.le_of_ble_eq_true rfl) ⟨Nat.le_trans (Nat.le_of_ble_eq_true rfl) hR.1, Nat.le_trans (Nat.le_of_ble_eq_true rfl) hR.2⟩ hRc (fun E => kX_no E) (fun _ => ?_)
    refine c_cast C0 K0 2 i (show i < sN (c_closeN sg (nI j) i) 2 by omega) rfl rfl (tA 239 rfl rfl) dX5_closeMonth_21 ?_
    refine k_iload_n C0 dX5_closeMonth_24 2 rfl ?_
    refine k_callV C0 K0 dX5_closeMonth_25 (cc_settle l D Y A (c_closeN sg (nI j) i) al [] i (show i < sN (c_closeN sg (nI j) i) 2 by omega) j hj) gkX5_255 hyX1_settle (c_recv (sg := (c_closeN sg (nI j) i)) (al := al) K0 2 i (show i < sN (c_closeN sg (nI j) i) 2 by omega) rfl rfl) rfl (by exact Nat.le_of_ble_eq_true rfl) ⟨Nat.le_trans (Nat.le_of_ble_eq_true rfl) hR.1, Nat.le_trans (Nat.le_of_ble_eq_true rfl) hR.2⟩ hRc (fun E => kX_no E) (fun _ => ?_)
    refine k_iinc C0 (nI (i + 1)) [(2, _), (0, _), (1, _)] dX5_closeMonth_28 0 rfl (nI_1 i) (by decide) rfl ?_
    refine k_goto C0 2 dX5_closeMonth_31 (by decide) ?_
    exact ih (i + 1) (by omega)
set_option maxRecDepth 100000 in
set_option maxHeartbeats 4000000 in
theorem cc_closeMonth (l : Launch) (D : va_G) (Y : Nat → Nat) (A : Nat → Prop) (sg : Sg) (al : Nat → Nat → Nat) (hw0 : lw sg 0) (j : Nat) (hj : j < 120) : CT l yX5_closeMonth (Cond.code yX5_closeMonth cX5_closeMonth 3 none) 3 64 D Y A [.ref (al 0 0), .int (nI j)] (WX D Y A sg al []) (fun _ : Unit => none) (fun _ : Unit => WX D Y A (c_closeN sg (nI j) (sN sg 2)) al []) noX 0 0 := by
  refine CT.of (by decide) (Nat.le_of_ble_eq_true rfl) ?_
  intro p_ e_ s_ m_ below_ meth_ c_ C0 K0 hr hlk htab hnm_
  refine k_iconst C0 0 dX5_closeMonth_0 (by decide) ?_
  refine k_istore_n C0 [(2, _), (0, _), (1, _)] dX5_closeMonth_1 (by decide) rfl ?_
  refine lp_close C0 K0 sg al (sN sg 2) rfl hw0 j hj ⟨Nat.le_of_ble_eq_true rfl, Nat.le_of_ble_eq_true rfl⟩ ⟨Nat.le_refl _, Nat.le_refl _⟩ ?_ (sN sg 2) 0 (Nat.zero_add _)
  exact k_vret C0 dX5_closeMonth_34 hr hlk (Nat.le_of_ble_eq_true rfl) (Nat.le_of_ble_eq_true rfl) () rfl (fun H h => h)
set_option maxRecDepth 100000 in
set_option maxHeartbeats 4000000 in
theorem lp_year_ {p : Program} {l : Launch} {e : Env} {R : Room} {s_ : State} {m_ : MethodId} {args_ : Array Value} {below_ : List Frame} {meth_ : Method} {c_ : Code} {Q : State → Prop} {D : va_G} {Y : Nat → Nat} {A : Nat → Prop} {k n : Nat} (C0 : CallFix p m_ c_ cX5_beginYear 2 s_ args_ TT RX5) (K0 : PK D Y A s_) (sg : Sg) (al : Nat → Nat → Nat) (nm : Nat) (hnm : sN sg 2 = nm) (hw0 : lw sg 0) (hR : 3 ≤ R.frames ∧ 64 ≤ R.locals) (hRc : k ≤ R.cells ∧ n ≤ R.slots) (exit : kG p l e R s_ m_ args_ below_ meth_ c_ Q A 2 (WX D Y A (c_yearN sg nm) al []) k n 34 [(1, .int (nI nm)), (0, .ref (al 0 0))] []) : ∀ (d i : Nat), i + d = nm → kG p l e R s_ m_ args_ below_ meth_ c_ Q A 2 (WX D Y A (c_yearN sg i) al []) k n 2 [(1, .int (nI i)), (0, .ref (al 0 0))] [] := by
  intro d
  induction d with
  | zero =>
    intro i hi
    have hb : i = nm := by omega
    subst hb
    have hw := lw_eq (c_yearN_2 sg i) 0 hw0
    have w1 : sZ (c_yearN sg i) 0 = sN (c_yearN sg i) 2 := hw.1
    have w2 : sF (c_yearN sg i) 0 = sN (c_yearN sg i) 2 := hw.2.1
    have w3 : sN (c_yearN sg i) 2 ≤ sC (c_yearN sg i) 0 := hw.2.2.1
    have w5 := hw.2.2.2.2
    have hN : sN (c_yearN sg i) 2 = i := (N_eq (c_yearN_2 sg i) 2).trans hnm
    refine k_iload_n C0 dX5_beginYear_2 0 rfl ?_
    refine k_aload_n C0 dX5_beginYear_3 1 rfl ?_
    refine c_get C0 K0 0 0 rfl rfl inX5 rfl 1 (.ref (al 9 0)) (by decide) dX5_beginYear_4 (tA 83 rfl rfl) (fun _ h => h) rfl ?_
    refine k_callV C0 K0 dX5_beginYear_7 (cl_size l D Y A (c_yearN sg i) al [] 0 (by decide)) gkX5_60 hyJx4a65c_size_8abf5 (c_recv (sg := (c_yearN sg i)) (al := al) K0 9 0 (show (0 : Nat) < 4 by decide) rfl rfl) rfl (by exact Nat.le_of_ble_eq_true rfl) ⟨Nat.le_trans (Nat.le_of_ble_eq_true rfl) hR.1, Nat.le_trans (Nat.le_of_ble_eq_true rfl) hR.2⟩ hRc (fun E => kX_no E) (fun _ => ?_)
    refine k_icmp_ge C0 34 dX5_beginYear_10 (by decide) (fun _ => ?_) (fun zz => absurd (by show nI (sZ (c_yearN sg i) 0) ≤ _; rw [w1, hN]; exact Int32.le_refl _) zz)
    exact exit
  | succ d ih =>
    intro i hi
    have hw := lw_eq (c_yearN_2 sg i) 0 hw0
    have w1 : sZ (c_yearN sg i) 0 = sN (c_yearN sg i) 2 := hw.1
    have w2 : sF (c_yearN sg i) 0 = sN (c_yearN sg i) 2 := hw.2.1
    have w3 : sN (c_yearN sg i) 2 ≤ sC (c_yearN sg i) 0 := hw.2.2.1
    have w5 := hw.2.2.2.2
    have hN : sN (c_yearN sg i) 2 = nm := (N_eq (c_yearN_2 sg i) 2).trans hnm
    refine k_iload_n C0 dX5_beginYear_2 0 rfl ?_
    refine k_aload_n C0 dX5_beginYear_3 1 rfl ?_
    refine c_get C0 K0 0 0 rfl rfl inX5 rfl 1 (.ref (al 9 0)) (by decide) dX5_beginYear_4 (tA 83 rfl rfl) (fun _ h => h) rfl ?_
    refine k_callV C0 K0 dX5_beginYear_7 (cl_size l D Y A (c_yearN sg i) al [] 0 (by decide)) gkX5_60 hyJx4a65c_size_8abf5 (c_recv (sg := (c_yearN sg i)) (al := al) K0 9 0 (show (0 : Nat) < 4 by decide) rfl rfl) rfl (by exact Nat.le_of_ble_eq_true rfl) ⟨Nat.le_trans (Nat.le_of_ble_eq_true rfl) hR.1, Nat.le_trans (Nat.le_of_ble_eq_true rfl) hR.2⟩ hRc (fun E => kX_no E) (fun _ => ?_)
    refine k_icmp_ge C0 34 dX5_beginYear_10 (by decide) (fun zz => absurd zz (by show ¬ nI (sZ (c_yearN sg i) 0) ≤ _; rw [w1]; exact nI_ge (by omega) (by omega))) (fun _ => ?_)
    refine k_aload_n C0 dX5_beginYear_13 1 rfl ?_
    refine c_get C0 K0 0 0 rfl rfl inX5 rfl 1 (.ref (al 9 0)) (by decide) dX5_beginYear_14 (tA 83 rfl rfl) (fun _ h => h) rfl ?_
    refine k_iload_n C0 dX5_beginYear_17 0 rfl ?_
    refine k_callV C0 K0 dX5_beginYear_18 (cl_get l D Y A (c_yearN sg i) al [] 0 (by decide) i (Nat.lt_of_lt_of_eq (show i < sN (c_yearN sg i) 2 by omega) w1.symm) (Nat.lt_of_lt_of_eq (show i < sN (c_yearN sg i) 2 by omega) w2.symm) (Nat.le_trans (Nat.le_of_eq w2) w3) (Nat.lt_of_le_of_lt w5 (by decide)) (Nat.lt_of_le_of_lt (Nat.le_trans (Nat.le_of_eq w1) w3) (Nat.lt_of_le_of_lt w5 (by decide)))) gkX5_209 hyJx4a65c_get_915e3 (c_recv (sg := (c_yearN sg i)) (al := al) K0 9 0 (show (0 : Nat) < 4 by decide) rfl rfl) rfl (by exact Nat.le_of_ble_eq_true rfl) ⟨Nat.le_trans (Nat.le_of_ble_eq_true rfl) hR.1, Nat.le_trans (Nat.le_of_ble_eq_true rfl) hR.2⟩ hRc (fun E => kX_no E) (fun _ => ?_)
    refine c_cast C0 K0 2 i (show i < sN (c_yearN sg i) 2 by omega) rfl rfl (tA 239 rfl rfl) dX5_beginYear_21 ?_
    refine k_iconst C0 0 dX5_beginYear_24 (by decide) ?_
    refine c_putI C0 K0 2 i (show i < sN (c_yearN sg i) 2 by omega) (ty := .int) rfl inX1 rfl tyX1 tyX1_ok nmX1 4 (by decide) dX5_beginYear_25 (tB 12 rfl rfl) (fun _ h => h) rfl (by decide +kernel) rfl rfl (Nat.le_of_ble_eq_true rfl) rfl ?_
    refine k_iinc C0 (nI (i + 1)) [(1, _), (0, _)] dX5_beginYear_28 0 rfl (nI_1 i) (by decide) rfl ?_
    refine k_goto C0 2 dX5_beginYear_31 (by decide) ?_
    exact ih (i + 1) (by omega)
set_option maxRecDepth 100000 in
set_option maxHeartbeats 4000000 in
theorem cc_beginYear (l : Launch) (D : va_G) (Y : Nat → Nat) (A : Nat → Prop) (sg : Sg) (al : Nat → Nat → Nat) (hw0 : lw sg 0) : CT l yX5_beginYear (Cond.code yX5_beginYear cX5_beginYear 2 none) 3 64 D Y A [.ref (al 0 0)] (WX D Y A sg al []) (fun _ : Unit => none) (fun _ : Unit => WX D Y A (c_yearN sg (sN sg 2)) al []) noX 0 0 := by
  refine CT.of (by decide) (Nat.le_of_ble_eq_true rfl) ?_
  intro p_ e_ s_ m_ below_ meth_ c_ C0 K0 hr hlk htab hnm_
  refine k_iconst C0 0 dX5_beginYear_0 (by decide) ?_
  refine k_istore_n C0 [(1, _), (0, _)] dX5_beginYear_1 (by decide) rfl ?_
  refine lp_year_ C0 K0 sg al (sN sg 2) rfl hw0 ⟨Nat.le_of_ble_eq_true rfl, Nat.le_of_ble_eq_true rfl⟩ ⟨Nat.le_refl _, Nat.le_refl _⟩ ?_ (sN sg 2) 0 (Nat.zero_add _)
  exact k_vret C0 dX5_beginYear_34 hr hlk (Nat.le_of_ble_eq_true rfl) (Nat.le_of_ble_eq_true rfl) () rfl (fun H h => h)
