def c_closeN (sg : Sg) (mo : Int32) : Nat → Sg
  | 0 => sg
  | i + 1 => c_settle (c_closeN sg mo i) i mo
def c_yearN (sg : Sg) : Nat → Sg
  | 0 => sg
  | i + 1 => sI (c_yearN sg i) 2 i 4 0
theorem c_closeN_2 (sg : Sg) (mo : Int32) : ∀ i, (c_closeN sg mo i).2 = sg.2
  | 0 => rfl
  | i + 1 => (show (c_settle (c_closeN sg mo i) i mo).2 = (c_closeN sg mo i).2 from rfl).trans (c_closeN_2 sg mo i)
theorem c_yearN_2 (sg : Sg) : ∀ i, (c_yearN sg i).2 = sg.2
  | 0 => rfl
  | i + 1 => c_yearN_2 sg i
theorem lw_eq {sg sg' : Sg} (e : sg'.2 = sg.2) (L : Nat) (h : lw sg L) : lw sg' L := by
  unfold lw sZ sF sC sN at *
  rw [e]
  exact h
theorem N_eq {sg sg' : Sg} (e : sg'.2 = sg.2) (k : Nat) : sN sg' k = sN sg k := by
  unfold sN
  rw [e]
def c_dayA (sg : Sg) : Sg := sI sg 0 0 5 (sg.1 0 0 5 + 1)
def c_dayB (sg : Sg) : Sg := if sg.1 0 0 5 - sg.1 0 0 5 / 30 * 30 = 0 then c_closeN sg (sg.1 0 0 5 / 30 - 1) (sN sg 2) else sg
def c_dayC (sg : Sg) : Sg := if sg.1 0 0 5 - sg.1 0 0 5 / 360 * 360 = 0 then c_yearN sg (sN sg 2) else sg
def c_day0 (sg : Sg) : Sg := c_dayC (c_dayB (c_dayA sg))
theorem c_dayB_2 (sg : Sg) : (c_dayB sg).2 = sg.2 := by
  unfold c_dayB
  split
  · exact c_closeN_2 _ _ _
  · rfl
theorem c_dayC_2 (sg : Sg) : (c_dayC sg).2 = sg.2 := by
  unfold c_dayC
  split
  · exact c_yearN_2 _ _
  · rfl
theorem c_day0_2 (sg : Sg) : (c_day0 sg).2 = sg.2 := (c_dayC_2 _).trans ((c_dayB_2 _).trans rfl)
theorem c_closeN_0 (sg : Sg) (mo : Int32) : ∀ i, (c_closeN sg mo i).1 0 = sg.1 0
  | 0 => rfl
  | i + 1 => (show (c_settle (c_closeN sg mo i) i mo).1 0 = (c_closeN sg mo i).1 0 from rfl).trans (c_closeN_0 sg mo i)
theorem c_dayB_0 (sg : Sg) : (c_dayB sg).1 0 = sg.1 0 := by
  unfold c_dayB
  split
  · exact c_closeN_0 _ _ _
  · rfl
theorem gkX5_255 : GoodIn TT (wsV RX5 255 yX1_settle.cls yX1_settle (Cond.code yX1_settle cX1_settle 4 none :: TT)) := goodTV (tC 58 rfl rfl) (tC 59 rfl rfl) (tC 60 rfl rfl) (tA 14 rfl rfl) (tC 61 rfl rfl)
theorem hyX1_settle : yX1_settle.cls ≠ "java/lang/invoke/MethodHandle" ∧ yX1_settle.cls ≠ "java/lang/invoke/VarHandle" ∧ (parseMethodDescriptor yX1_settle.desc).map (fun d => d.parameters.length) = some 1 := by decide +kernel
set_option maxRecDepth 100000 in
set_option maxHeartbeats 4000000 in
theorem lp_close {p : Program} {l : Launch} {e : Env} {R : Room} {s_ : State} {m_ : MethodId} {args_ : Array Value} {below_ : List Frame} {meth_ : Method} {c_ : Code} {Q : State → Prop} {D : va_G} {Y : Nat → Nat} {A : Nat → Prop} {k n : Nat} (C0 : CallFix p m_ c_ cX5_closeMonth 3 s_ args_ TT RX5) (K0 : PK D Y A s_) (sg : Sg) (al : Nat → Nat → Nat) (nm : Nat) (hnm : sN sg 2 = nm) (hw0 : lw sg 0) (j : Nat) (hj : j < 120) (hR : 3 ≤ R.frames ∧ 64 ≤ R.locals) (hRc : k ≤ R.cells ∧ n ≤ R.slots) (exit : kG p l e R s_ m_ args_ below_ meth_ c_ Q A 3 (WX D Y A (c_closeN sg (nI j) nm) al []) k n 34 [(2, .int (nI nm)), (0, .ref (al 0 0)), (1, .int (nI j))] []) : ∀ (d i : Nat), i + d = nm → kG p l e R s_ m_ args_ below_ meth_ c_ Q A 3 (WX D Y A (c_closeN sg (nI j) i) al []) k n 2 [(2, .int (nI i)), (0, .ref (al 0 0)), (1, .int (nI j))] [] := by
  intro d
  induction d with
  | zero =>
    intro i hi
    have hb : i = nm := by omega
    subst hb
    have hw := lw_eq (c_closeN_2 sg (nI j) i) 0 hw0
    have w1 : sZ (c_closeN sg (nI j) i) 0 = sN (c_closeN sg (nI j) i) 2 := hw.1
    have w2 : sF (c_closeN sg (nI j) i) 0 = sN (c_closeN sg (nI j) i) 2 := hw.2.1
    have w3 : sN (c_closeN sg (nI j) i) 2 ≤ sC (c_closeN sg (nI j) i) 0 := hw.2.2.1
    have w5 := hw.2.2.2.2
    have hN : sN (c_closeN sg (nI j) i) 2 = i := (N_eq (c_closeN_2 sg (nI j) i) 2).trans hnm
    refine k_iload_n C0 dX5_closeMonth_2 0 rfl ?_
    refine k_aload_n C0 dX5_closeMonth_3 1 rfl ?_
    refine c_get C0 K0 0 0 rfl rfl inX5 rfl 1 (.ref (al 9 0)) (by decide) dX5_closeMonth_4 (tA 82 rfl rfl) (fun _ h => h) rfl ?_
    refine k_callV C0 K0 dX5_closeMonth_7 (cl_size l D Y A (c_closeN sg (nI j) i) al [] 0 (by decide)) gkX5_60 hyJx4a65c_size_8abf5 (c_recv (sg := (c_closeN sg (nI j) i)) (al := al) K0 9 0 (show (0 : Nat) < 4 by decide) rfl rfl) rfl (by exact Nat.le_of_ble_eq_true rfl) ⟨Nat.le_trans (Nat.le_of_ble_eq_true rfl) hR.1, Nat.le_trans (Nat.le_of_ble_eq_true rfl) hR.2⟩ hRc (fun E => kX_no E) (fun _ => ?_)
    refine k_icmp_ge C0 34 dX5_closeMonth_10 (by decide) (fun _ => ?_) (fun zz => absurd (by show nI (sZ (c_closeN sg (nI j) i) 0) ≤ _; rw [w1, hN]; exact Int32.le_refl _) zz)
    exact exit
  | succ d ih =>
    intro i hi
    have hw := lw_eq (c_closeN_2 sg (nI j) i) 0 hw0
    have w1 : sZ (c_closeN sg (nI j) i) 0 = sN (c_closeN sg (nI j) i) 2 := hw.1
    have w2 : sF (c_closeN sg (nI j) i) 0 = sN (c_closeN sg (nI j) i) 2 := hw.2.1
    have w3 : sN (c_closeN sg (nI j) i) 2 ≤ sC (c_closeN sg (nI j) i) 0 := hw.2.2.1
    have w5 := hw.2.2.2.2
    have hN : sN (c_closeN sg (nI j) i) 2 = nm := (N_eq (c_closeN_2 sg (nI j) i) 2).trans hnm
    refine k_iload_n C0 dX5_closeMonth_2 0 rfl ?_
    refine k_aload_n C0 dX5_closeMonth_3 1 rfl ?_
    refine c_get C0 K0 0 0 rfl rfl inX5 rfl 1 (.ref (al 9 0)) (by decide) dX5_closeMonth_4 (tA 82 rfl rfl) (fun _ h => h) rfl ?_
    refine k_callV C0 K0 dX5_closeMonth_7 (cl_size l D Y A (c_closeN sg (nI j) i) al [] 0 (by decide)) gkX5_60 hyJx4a65c_size_8abf5 (c_recv (sg := (c_closeN sg (nI j) i)) (al := al) K0 9 0 (show (0 : Nat) < 4 by decide) rfl rfl) rfl (by exact Nat.le_of_ble_eq_true rfl) ⟨Nat.le_trans (Nat.le_of_ble_eq_true rfl) hR.1, Nat.le_trans (Nat.le_of_ble_eq_true rfl) hR.2⟩ hRc (fun E => kX_no E) (fun _ => ?_)
    refine k_icmp_ge C0 34 dX5_closeMonth_10 (by decide) (fun zz => absurd zz (by show ¬ nI (sZ (c_closeN sg (nI j) i) 0) ≤ _; rw [w1]; exact nI_ge (by omega) (by omega))) (fun _ => ?_)
    refine k_aload_n C0 dX5_closeMonth_13 1 rfl ?_
    refine c_get C0 K0 0 0 rfl rfl inX5 rfl 1 (.ref (al 9 0)) (by decide) dX5_closeMonth_14 (tA 82 rfl rfl) (fun _ h => h) rfl ?_
    refine k_iload_n C0 dX5_closeMonth_17 0 rfl ?_
    refine k_callV C0 K0 dX5_closeMonth_18 (cl_get l D Y A (c_closeN sg (nI j) i) al [] 0 (by decide) i (Nat.lt_of_lt_of_eq (show i < sN (c_closeN sg (nI j) i) 2 by omega) w1.symm) (Nat.lt_of_lt_of_eq (show i < sN (c_closeN sg (nI j) i) 2 by omega) w2.symm) (Nat.le_trans (Nat.le_of_eq w2) w3) (Nat.lt_of_le_of_lt w5 (by decide)) (Nat.lt_of_le_of_lt (Nat.le_trans (Nat.le_of_eq w1) w3) (Nat.lt_of_le_of_lt w5 (by decide)))) gkX5_209 hyJx4a65c_get_915e3 (c_recv (sg := (c_closeN sg (nI j) i)) (al := al) K0 9 0 (show (0 : Nat) < 4 by decide) rfl rfl) rfl (by exact Nat.le_of_ble_eq_true rfl) ⟨Nat.le_trans (Nat.le_of_ble_eq_true rfl) hR.1, Nat.le_trans (Nat.le_of_ble_eq_true rfl) hR.2⟩ hRc (fun E => kX_no E) (fun _ => ?_)
    refine c_cast C0 K0 2 i (show i < sN (c_closeN sg (nI j) i) 2 by omega) rfl rfl (tA 214 rfl rfl) dX5_closeMonth_21 ?_
    refine k_iload_n C0 dX5_closeMonth_24 2 rfl ?_
    refine k_callV C0 K0 dX5_closeMonth_25 (cc_settle l D Y A (c_closeN sg (nI j) i) al [] i (show i < sN (c_closeN sg (nI j) i) 2 by omega) j hj) gkX5_255 hyX1_settle (c_recv (sg := (c_closeN sg (nI j) i)) (al := al) K0 2 i (show i < sN (c_closeN sg (nI j) i) 2 by omega) rfl rfl) rfl (by exact Nat.le_of_ble_eq_true rfl) ⟨Nat.le_trans (Nat.le_of_ble_eq_true rfl) hR.1, Nat.le_trans (Nat.le_of_ble_eq_true rfl) hR.2⟩ hRc (fun E => kX_no E) (fun _ => ?_)
    refine k_iinc C0 (nI (i + 1)) [(2, _), (0, _), (1, _)] dX5_closeMonth_28 0 rfl (nI_1 i) (by decide) rfl ?_
    refine k_goto C0 2 dX5_closeMonth_31 (by decide) ?_
    exact ih (i + 1) (by omega)
set_option maxRecDepth 100000 in
set_option maxHeartbeats 4000000 in
theorem cc_closeMonth (l : Launch) (D : va_G) (Y : Nat → Nat) (A : Nat → Prop) (sg : Sg) (al : Nat → Nat → Nat) (hw0 : lw sg 0) (j : Nat) (hj : j < 120) : CT l yX5_closeMonth (Cond.code yX5_closeMonth cX5_closeMonth 3 none) 3 64 D Y A [.ref (al 0 0), .int (nI j)] (WX D Y A sg al []) (fun _ : Unit => none) (fun _ : Unit => WX D Y A (c_closeN sg (nI j) (sN sg 2)) al []) noX 0 0 := by
  refine CT.of (by decide) (Nat.le_of_ble_eq_true rfl) ?_
  intro p_ e_ s_ m_ below_ meth_ c_ C0 K0 hr hlk htab hnm_
  refine k_iconst C0 0 dX5_closeMonth_0 (by decide) ?_
  refine k_istore_n C0 [(2, _), (0, _), (1, _)] dX5_closeMonth_1 (by decide) rfl ?_
  refine lp_close C0 K0 sg al (sN sg 2) rfl hw0 j hj ⟨Nat.le_of_ble_eq_true rfl, Nat.le_of_ble_eq_true rfl⟩ ⟨Nat.le_refl _, Nat.le_refl _⟩ ?_ (sN sg 2) 0 (Nat.zero_add _)
  exact k_vret C0 dX5_closeMonth_34 hr hlk (Nat.le_of_ble_eq_true rfl) (Nat.le_of_ble_eq_true rfl) () rfl (fun H h => h)
set_option maxRecDepth 100000 in
set_option maxHeartbeats 4000000 in
theorem lp_year_ {p : Program} {l : Launch} {e : Env} {R : Room} {s_ : State} {m_ : MethodId} {args_ : Array Value} {below_ : List Frame} {meth_ : Method} {c_ : Code} {Q : State → Prop} {D : va_G} {Y : Nat → Nat} {A : Nat → Prop} {k n : Nat} (C0 : CallFix p m_ c_ cX5_beginYear 2 s_ args_ TT RX5) (K0 : PK D Y A s_) (sg : Sg) (al : Nat → Nat → Nat) (nm : Nat) (hnm : sN sg 2 = nm) (hw0 : lw sg 0) (hR : 3 ≤ R.frames ∧ 64 ≤ R.locals) (hRc : k ≤ R.cells ∧ n ≤ R.slots) (exit : kG p l e R s_ m_ args_ below_ meth_ c_ Q A 2 (WX D Y A (c_yearN sg nm) al []) k n 34 [(1, .int (nI nm)), (0, .ref (al 0 0))] []) : ∀ (d i : Nat), i + d = nm → kG p l e R s_ m_ args_ below_ meth_ c_ Q A 2 (WX D Y A (c_yearN sg i) al []) k n 2 [(1, .int (nI i)), (0, .ref (al 0 0))] [] := by
  intro d
  induction d with
  | zero =>
    intro i hi
    have hb : i = nm := by omega
    subst hb
    have hw := lw_eq (c_yearN_2 sg i) 0 hw0
    have w1 : sZ (c_yearN sg i) 0 = sN (c_yearN sg i) 2 := hw.1
    have w2 : sF (c_yearN sg i) 0 = sN (c_yearN sg i) 2 := hw.2.1
    have w3 : sN (c_yearN sg i) 2 ≤ sC (c_yearN sg i) 0 := hw.2.2.1
    have w5 := hw.2.2.2.2
    have hN : sN (c_yearN sg i) 2 = i := (N_eq (c_yearN_2 sg i) 2).trans hnm
    refine k_iload_n C0 dX5_beginYear_2 0 rfl ?_
    refine k_aload_n C0 dX5_beginYear_3 1 rfl ?_
    refine c_get C0 K0 0 0 rfl rfl inX5 rfl 1 (.ref (al 9 0)) (by decide) dX5_beginYear_4 (tA 82 rfl rfl) (fun _ h => h) rfl ?_
    refine k_callV C0 K0 dX5_beginYear_7 (cl_size l D Y A (c_yearN sg i) al [] 0 (by decide)) gkX5_60 hyJx4a65c_size_8abf5 (c_recv (sg := (c_yearN sg i)) (al := al) K0 9 0 (show (0 : Nat) < 4 by decide) rfl rfl) rfl (by exact Nat.le_of_ble_eq_true rfl) ⟨Nat.le_trans (Nat.le_of_ble_eq_true rfl) hR.1, Nat.le_trans (Nat.le_of_ble_eq_true rfl) hR.2⟩ hRc (fun E => kX_no E) (fun _ => ?_)
    refine k_icmp_ge C0 34 dX5_beginYear_10 (by decide) (fun _ => ?_) (fun zz => absurd (by show nI (sZ (c_yearN sg i) 0) ≤ _; rw [w1, hN]; exact Int32.le_refl _) zz)
    exact exit
  | succ d ih =>
    intro i hi
    have hw := lw_eq (c_yearN_2 sg i) 0 hw0
    have w1 : sZ (c_yearN sg i) 0 = sN (c_yearN sg i) 2 := hw.1
    have w2 : sF (c_yearN sg i) 0 = sN (c_yearN sg i) 2 := hw.2.1
    have w3 : sN (c_yearN sg i) 2 ≤ sC (c_yearN sg i) 0 := hw.2.2.1
    have w5 := hw.2.2.2.2
    have hN : sN (c_yearN sg i) 2 = nm := (N_eq (c_yearN_2 sg i) 2).trans hnm
    refine k_iload_n C0 dX5_beginYear_2 0 rfl ?_
    refine k_aload_n C0 dX5_beginYear_3 1 rfl ?_
    refine c_get C0 K0 0 0 rfl rfl inX5 rfl 1 (.ref (al 9 0)) (by decide) dX5_beginYear_4 (tA 82 rfl rfl) (fun _ h => h) rfl ?_
    refine k_callV C0 K0 dX5_beginYear_7 (cl_size l D Y A (c_yearN sg i) al [] 0 (by decide)) gkX5_60 hyJx4a65c_size_8abf5 (c_recv (sg := (c_yearN sg i)) (al := al) K0 9 0 (show (0 : Nat) < 4 by decide) rfl rfl) rfl (by exact Nat.le_of_ble_eq_true rfl) ⟨Nat.le_trans (Nat.le_of_ble_eq_true rfl) hR.1, Nat.le_trans (Nat.le_of_ble_eq_true rfl) hR.2⟩ hRc (fun E => kX_no E) (fun _ => ?_)
    refine k_icmp_ge C0 34 dX5_beginYear_10 (by decide) (fun zz => absurd zz (by show ¬ nI (sZ (c_yearN sg i) 0) ≤ _; rw [w1]; exact nI_ge (by omega) (by omega))) (fun _ => ?_)
    refine k_aload_n C0 dX5_beginYear_13 1 rfl ?_
    refine c_get C0 K0 0 0 rfl rfl inX5 rfl 1 (.ref (al 9 0)) (by decide) dX5_beginYear_14 (tA 82 rfl rfl) (fun _ h => h) rfl ?_
    refine k_iload_n C0 dX5_beginYear_17 0 rfl ?_
    refine k_callV C0 K0 dX5_beginYear_18 (cl_get l D Y A (c_yearN sg i) al [] 0 (by decide) i (Nat.lt_of_lt_of_eq (show i < sN (c_yearN sg i) 2 by omega) w1.symm) (Nat.lt_of_lt_of_eq (show i < sN (c_yearN sg i) 2 by omega) w2.symm) (Nat.le_trans (Nat.le_of_eq w2) w3) (Nat.lt_of_le_of_lt w5 (by decide)) (Nat.lt_of_le_of_lt (Nat.le_trans (Nat.le_of_eq w1) w3) (Nat.lt_of_le_of_lt w5 (by decide)))) gkX5_209 hyJx4a65c_get_915e3 (c_recv (sg := (c_yearN sg i)) (al := al) K0 9 0 (show (0 : Nat) < 4 by decide) rfl rfl) rfl (by exact Nat.le_of_ble_eq_true rfl) ⟨Nat.le_trans (Nat.le_of_ble_eq_true rfl) hR.1, Nat.le_trans (Nat.le_of_ble_eq_true rfl) hR.2⟩ hRc (fun E => kX_no E) (fun _ => ?_)
    refine c_cast C0 K0 2 i (show i < sN (c_yearN sg i) 2 by omega) rfl rfl (tA 214 rfl rfl) dX5_beginYear_21 ?_
    refine k_iconst C0 0 dX5_beginYear_24 (by decide) ?_
    refine c_putI C0 K0 2 i (show i < sN (c_yearN sg i) 2 by omega) (ty := .int) rfl inX1 rfl tyX1 tyX1_ok nmX1 4 (by decide) dX5_beginYear_25 (tA 226 rfl rfl) (fun _ h => h) rfl (by decide +kernel) rfl rfl (Nat.le_of_ble_eq_true rfl) rfl ?_
    refine k_iinc C0 (nI (i + 1)) [(1, _), (0, _)] dX5_beginYear_28 0 rfl (nI_1 i) (by decide) rfl ?_
    refine k_goto C0 2 dX5_beginYear_31 (by decide) ?_
    exact ih (i + 1) (by omega)
set_option maxRecDepth 100000 in
set_option maxHeartbeats 4000000 in
theorem cc_beginYear (l : Launch) (D : va_G) (Y : Nat → Nat) (A : Nat → Prop) (sg : Sg) (al : Nat → Nat → Nat) (hw0 : lw sg 0) : CT l yX5_beginYear (Cond.code yX5_beginYear cX5_beginYear 2 none) 3 64 D Y A [.ref (al 0 0)] (WX D Y A sg al []) (fun _ : Unit => none) (fun _ : Unit => WX D Y A (c_yearN sg (sN sg 2)) al []) noX 0 0 := by
  refine CT.of (by decide) (Nat.le_of_ble_eq_true rfl) ?_
  intro p_ e_ s_ m_ below_ meth_ c_ C0 K0 hr hlk htab hnm_
  refine k_iconst C0 0 dX5_beginYear_0 (by decide) ?_
  refine k_istore_n C0 [(1, _), (0, _)] dX5_beginYear_1 (by decide) rfl ?_
  refine lp_year_ C0 K0 sg al (sN sg 2) rfl hw0 ⟨Nat.le_of_ble_eq_true rfl, Nat.le_of_ble_eq_true rfl⟩ ⟨Nat.le_refl _, Nat.le_refl _⟩ ?_ (sN sg 2) 0 (Nat.zero_add _)
  exact k_vret C0 dX5_beginYear_34 hr hlk (Nat.le_of_ble_eq_true rfl) (Nat.le_of_ble_eq_true rfl) () rfl (fun H h => h)
theorem c_step_t {q : Int32 × Sg} {i : Nat} (h : q.2.1 5 i 6 = q.2.1 0 0 5) : c_step q i = ((if c_tp q.2 i = 0 then q.1 else q.1 + 1), c_try q.2 i) := if_pos h
theorem c_step_f {q : Int32 × Sg} {i : Nat} (h : ¬ q.2.1 5 i 6 = q.2.1 0 0 5) : c_step q i = q := if_neg h
theorem alK.rf (al : Nat → Nat → Nat) : alK al al := fun _ _ _ _ => rfl
theorem alK.tr {a b c : Nat → Nat → Nat} (h : alK a b) (g : alK b c) : alK a c := fun k i h4 h10 => (g k i h4 h10).trans (h k i h4 h10)
theorem gkX5_258 : GoodIn TT (wsV RX5 258 yX5_tryPayment.cls yX5_tryPayment (Cond.code yX5_tryPayment cX5_tryPayment 4 (some .boolean) :: TT)) := goodTV (tC 74 rfl rfl) (tC 76 rfl rfl) (tP 16 rfl) (tA 1 rfl rfl) (tC 77 rfl rfl)
theorem hyX5_tryPayment : yX5_tryPayment.cls ≠ "java/lang/invoke/MethodHandle" ∧ yX5_tryPayment.cls ≠ "java/lang/invoke/VarHandle" ∧ (parseMethodDescriptor yX5_tryPayment.desc).map (fun d => d.parameters.length) = some 1 := by decide +kernel
set_option maxRecDepth 100000 in
set_option maxHeartbeats 4000000 in
theorem lp_coll {p : Program} {l : Launch} {e : Env} {R : Room} {s_ : State} {m_ : MethodId} {args_ : Array Value} {below_ : List Frame} {meth_ : Method} {c_ : Code} {Q : State → Prop} {D : va_G} {Y : Nat → Nat} {A : Nat → Prop} {k n : Nat} (C0 : CallFix p m_ c_ cX5_collectPayments 4 s_ args_ TT RX5) (K0 : PK D Y A s_) (al : Nat → Nat → Nat) (q : Int32 × Sg) (nu : Nat) (hnu : sN q.2 5 = nu) (hw0 : lw q.2 3) (safe : ∀ i, i < nu → (c_collN q i).2.1 5 i 6 = (c_collN q i).2.1 0 0 5 → (c_collN q i).2.1 5 i 3 = 0 → c_payOK (c_collN q i).2 i) (hR : 11 ≤ R.frames ∧ 261 ≤ R.locals) (hRc : k + (phc (c_collN q nu).2 - phc q.2) ≤ R.cells ∧ n + (phs (c_collN q nu).2 - phs q.2) ≤ R.slots) (exit : kG p l e R s_ m_ args_ below_ meth_ c_ Q A 4 (fun H => ∃ al2 : Nat → Nat → Nat, alK al al2 ∧ WX D Y A ((c_collN q nu).2) al2 [] H) (k + (phc ((c_collN q nu).2) - phc q.2)) (n + (phs ((c_collN q nu).2) - phs q.2)) 55 [(2, .int (nI nu)), (1, .int ((c_collN q nu).1)), (0, .ref (al 0 0))] []) : ∀ (d i : Nat), i + d = nu → kG p l e R s_ m_ args_ below_ meth_ c_ Q A 4 (fun H => ∃ al2 : Nat → Nat → Nat, alK al al2 ∧ WX D Y A ((c_collN q i).2) al2 [] H) (k + (phc ((c_collN q i).2) - phc q.2)) (n + (phs ((c_collN q i).2) - phs q.2)) 4 [(2, .int (nI i)), (1, .int ((c_collN q i).1)), (0, .ref (al 0 0))] [] := by
  intro d
  induction d with
  | zero =>
    intro i hi
    have hb : i = nu := by omega
    subst hb
    refine k_exV (fun al1 => ?_)
    refine k_ex (fun H h => h.1) (fun ha => ?_)
    refine k_W (V' := WX D Y A ((c_collN q i).2) al1 []) (fun H h => h.2) ?_
    rw [show Value.ref (al 0 0) = Value.ref (al1 0 0) from congrArg Value.ref (ha 0 0 (by decide) (by decide)).symm]
    have hw := c_collN_lw q 3 (by decide) i hw0
    have w1 : sZ ((c_collN q i).2) 3 = sN ((c_collN q i).2) 5 := hw.1
    have w2 : sF ((c_collN q i).2) 3 = sN ((c_collN q i).2) 5 := hw.2.1
    have w3 : sN ((c_collN q i).2) 5 ≤ sC ((c_collN q i).2) 3 := hw.2.2.1
    have w5 := hw.2.2.2.2
    have hN : sN ((c_collN q i).2) 5 = i := (c_collN_2 q 20 5 0 (by decide) (fun _ => by decide) (fun z => absurd z (by decide)) i).trans hnu
    refine k_iload_n C0 dX5_collectPayments_4 0 rfl ?_
    refine k_aload_n C0 dX5_collectPayments_5 2 rfl ?_
    refine c_get (sg := ((c_collN q i).2)) (al := al1) C0 K0 0 0 rfl rfl inX5 rfl 4 (.ref (al1 9 3)) (by decide) dX5_collectPayments_6 (tA 85 rfl rfl) (fun _ h => h) rfl ?_
    refine k_callV C0 K0 dX5_collectPayments_9 (cl_size l D Y A ((c_collN q i).2) al1 [] 3 (by decide)) gkX5_60 hyJx4a65c_size_8abf5 (c_recv (sg := ((c_collN q i).2)) (al := al1) K0 9 3 (show (3 : Nat) < 4 by decide) rfl rfl) rfl (by exact Nat.le_of_ble_eq_true rfl) ⟨Nat.le_trans (Nat.le_of_ble_eq_true rfl) hR.1, Nat.le_trans (Nat.le_of_ble_eq_true rfl) hR.2⟩ ⟨Nat.le_trans (Nat.add_le_add_left (Nat.sub_le_sub_right (c_collN_le q (by omega)).1 _) _) hRc.1, Nat.le_trans (Nat.add_le_add_left (Nat.sub_le_sub_right (c_collN_le q (by omega)).2 _) _) hRc.2⟩ (fun E => kX_no E) (fun _ => ?_)
    refine k_icmp_ge C0 55 dX5_collectPayments_12 (by decide) (fun _ => ?_) (fun zz => absurd (by show nI (sZ ((c_collN q i).2) 3) ≤ _; rw [w1, hN]; exact Int32.le_refl _) zz)
    rw [show Value.ref (al1 0 0) = Value.ref (al 0 0) from congrArg Value.ref (ha 0 0 (by decide) (by decide))]; exact k_W (fun H h => ⟨al1, ha, h⟩) exit
  | succ d ih =>
    intro i hi
    refine k_exV (fun al1 => ?_)
    refine k_ex (fun H h => h.1) (fun ha => ?_)
    refine k_W (V' := WX D Y A ((c_collN q i).2) al1 []) (fun H h => h.2) ?_
    rw [show Value.ref (al 0 0) = Value.ref (al1 0 0) from congrArg Value.ref (ha 0 0 (by decide) (by decide)).symm]
    have hw := c_collN_lw q 3 (by decide) i hw0
    have w1 : sZ ((c_collN q i).2) 3 = sN ((c_collN q i).2) 5 := hw.1
    have w2 : sF ((c_collN q i).2) 3 = sN ((c_collN q i).2) 5 := hw.2.1
    have w3 : sN ((c_collN q i).2) 5 ≤ sC ((c_collN q i).2) 3 := hw.2.2.1
    have w5 := hw.2.2.2.2
    have hN : sN ((c_collN q i).2) 5 = nu := (c_collN_2 q 20 5 0 (by decide) (fun _ => by decide) (fun z => absurd z (by decide)) i).trans hnu
    refine k_iload_n C0 dX5_collectPayments_4 0 rfl ?_
    refine k_aload_n C0 dX5_collectPayments_5 2 rfl ?_
    refine c_get (sg := ((c_collN q i).2)) (al := al1) C0 K0 0 0 rfl rfl inX5 rfl 4 (.ref (al1 9 3)) (by decide) dX5_collectPayments_6 (tA 85 rfl rfl) (fun _ h => h) rfl ?_
    refine k_callV C0 K0 dX5_collectPayments_9 (cl_size l D Y A ((c_collN q i).2) al1 [] 3 (by decide)) gkX5_60 hyJx4a65c_size_8abf5 (c_recv (sg := ((c_collN q i).2)) (al := al1) K0 9 3 (show (3 : Nat) < 4 by decide) rfl rfl) rfl (by exact Nat.le_of_ble_eq_true rfl) ⟨Nat.le_trans (Nat.le_of_ble_eq_true rfl) hR.1, Nat.le_trans (Nat.le_of_ble_eq_true rfl) hR.2⟩ ⟨Nat.le_trans (Nat.add_le_add_left (Nat.sub_le_sub_right (c_collN_le q (by omega)).1 _) _) hRc.1, Nat.le_trans (Nat.add_le_add_left (Nat.sub_le_sub_right (c_collN_le q (by omega)).2 _) _) hRc.2⟩ (fun E => kX_no E) (fun _ => ?_)
    refine k_icmp_ge C0 55 dX5_collectPayments_12 (by decide) (fun zz => absurd zz (by show ¬ nI (sZ ((c_collN q i).2) 3) ≤ _; rw [w1]; exact nI_ge (by omega) (by omega))) (fun _ => ?_)
    refine k_aload_n C0 dX5_collectPayments_15 2 rfl ?_
    refine c_get (sg := ((c_collN q i).2)) (al := al1) C0 K0 0 0 rfl rfl inX5 rfl 4 (.ref (al1 9 3)) (by decide) dX5_collectPayments_16 (tA 85 rfl rfl) (fun _ h => h) rfl ?_
    refine k_iload_n C0 dX5_collectPayments_19 0 rfl ?_
    refine k_callV C0 K0 dX5_collectPayments_20 (cl_get l D Y A ((c_collN q i).2) al1 [] 3 (by decide) i (Nat.lt_of_lt_of_eq (show i < sN (c_collN q i).2 5 by omega) w1.symm) (Nat.lt_of_lt_of_eq (show i < sN (c_collN q i).2 5 by omega) w2.symm) (Nat.le_trans (Nat.le_of_eq w2) w3) (Nat.lt_of_le_of_lt w5 (by decide)) (Nat.lt_of_le_of_lt (Nat.le_trans (Nat.le_of_eq w1) w3) (Nat.lt_of_le_of_lt w5 (by decide)))) gkX5_209 hyJx4a65c_get_915e3 (c_recv (sg := ((c_collN q i).2)) (al := al1) K0 9 3 (show (3 : Nat) < 4 by decide) rfl rfl) rfl (by exact Nat.le_of_ble_eq_true rfl) ⟨Nat.le_trans (Nat.le_of_ble_eq_true rfl) hR.1, Nat.le_trans (Nat.le_of_ble_eq_true rfl) hR.2⟩ ⟨Nat.le_trans (Nat.add_le_add_left (Nat.sub_le_sub_right (c_collN_le q (by omega)).1 _) _) hRc.1, Nat.le_trans (Nat.add_le_add_left (Nat.sub_le_sub_right (c_collN_le q (by omega)).2 _) _) hRc.2⟩ (fun E => kX_no E) (fun _ => ?_)
    refine c_cast (sg := ((c_collN q i).2)) (al := al1) C0 K0 5 i (show i < sN (c_collN q i).2 5 by omega) rfl rfl (tB 210 rfl rfl) dX5_collectPayments_23 ?_
    refine k_astore_n C0 [(3, _), (2, _), (1, _), (0, _)] dX5_collectPayments_26 (by decide) rfl ?_
    refine k_aload_n C0 dX5_collectPayments_27 0 rfl ?_
    refine c_getI (sg := ((c_collN q i).2)) (al := al1) C0 K0 5 i (show i < sN (c_collN q i).2 5 by omega) rfl inX4 rfl 6 (((c_collN q i).2).1 5 i 6) (by decide) dX5_collectPayments_28 (tB 227 rfl rfl) (fun _ h => h) rfl rfl ?_
    refine k_aload_n C0 dX5_collectPayments_31 3 rfl ?_
    refine c_getI (sg := ((c_collN q i).2)) (al := al1) C0 K0 0 0 rfl rfl inX5 rfl 5 (((c_collN q i).2).1 0 0 5) (by decide) dX5_collectPayments_32 (tA 86 rfl rfl) (fun _ h => h) rfl rfl ?_
    refine k_icmp_ne C0 49 dX5_collectPayments_35 (by decide) (fun h35 => ?_) (fun h35 => ?_)
    ·
      refine k_iinc C0 (nI (i + 1)) [(2, _), (3, _), (1, _), (0, _)] dX5_collectPayments_49 1 rfl (nI_1 i) (by decide) rfl ?_
      refine k_goto C0 4 dX5_collectPayments_52 (by decide) ?_
      first | (refine k_lv [0, 2, 3] rfl ?_; have eE := c_step_f (q := c_collN q i) (i := i) h35; have eF : c_collN q (i + 1) = c_collN q i := eE; have hx := ih (i + 1) (by omega); rw [eF] at hx; rw [show Value.ref (al1 0 0) = Value.ref (al 0 0) from congrArg Value.ref (ha 0 0 (by decide) (by decide))]; exact k_W (fun H h => ⟨al1, ha, h⟩) hx) | (refine k_lv [0, 2, 3] rfl ?_; have hx := ih (i + 1) (by omega); have eF : c_collN q (i + 1) = (_, c_try (c_collN q i).2 i) := eB; have eG : (c_collN q (i + 1)).1 = (c_collN q i).1 := (congrArg Prod.fst eB).trans (if_pos h43); rw [eG] at hx; rw [show Value.ref (al1 0 0) = Value.ref (al 0 0) from congrArg Value.ref (ha 0 0 (by decide) (by decide))]; refine k_wid (k2 := k + (phc (c_collN q (i + 1)).2 - phc q.2)) (n2 := n + (phs (c_collN q (i + 1)).2 - phs q.2)) (by rw [eC]; omega) (by rw [eD]; omega) (k_W (fun H h => ⟨al3, ha.tr ha3, by rw [eF]; exact h⟩) hx)) | (refine k_lv [0, 1, 3] rfl ?_; have hx := ih (i + 1) (by omega); have eF : c_collN q (i + 1) = (_, c_try (c_collN q i).2 i) := eB; have eG : (c_collN q (i + 1)).1 = (c_collN q i).1 + 1 := (congrArg Prod.fst eB).trans (if_neg h43); rw [eG] at hx; rw [show Value.ref (al1 0 0) = Value.ref (al 0 0) from congrArg Value.ref (ha 0 0 (by decide) (by decide))]; refine k_wid (k2 := k + (phc (c_collN q (i + 1)).2 - phc q.2)) (n2 := n + (phs (c_collN q (i + 1)).2 - phs q.2)) (by rw [eC]; omega) (by rw [eD]; omega) (k_W (fun H h => ⟨al3, ha.tr ha3, by rw [eF]; exact h⟩) hx))
    ·
      refine k_aload_n C0 dX5_collectPayments_38 3 rfl ?_
      refine k_aload_n C0 dX5_collectPayments_39 0 rfl ?_
      have eB := c_step_t (q := c_collN q i) (i := i) h35
      have eC : phc (c_collN q (i + 1)).2 = phc (c_collN q i).2 + c_mc (c_collN q i).2 i := (congrArg (fun z : Int32 × Sg => phc z.2) eB).trans (c_try_c _ _)
      have eD : phs (c_collN q (i + 1)).2 = phs (c_collN q i).2 + c_ms (c_collN q i).2 i := (congrArg (fun z : Int32 × Sg => phs z.2) eB).trans (c_try_s _ _)
      have m0 := c_collN_le q (i := 0) (j := i) (Nat.zero_le _)
      have m0a : phc q.2 ≤ phc (c_collN q i).2 := m0.1
      have m0b : phs q.2 ≤ phs (c_collN q i).2 := m0.2
      have m1 := c_collN_le q (i := i + 1) (j := nu) (by omega)
      refine k_callV C0 K0 dX5_collectPayments_40 (cc_try l D Y A (c_collN q i).2 al1 i (show i < sN (c_collN q i).2 5 by omega) (safe i (by omega) h35)) gkX5_258 hyX5_tryPayment (c_recv (sg := ((c_collN q i).2)) (al := al1) K0 0 0 rfl rfl rfl) rfl (by exact Nat.le_of_ble_eq_true rfl) ⟨Nat.le_trans (Nat.le_of_ble_eq_true rfl) hR.1, Nat.le_trans (Nat.le_of_ble_eq_true rfl) hR.2⟩ ⟨by have := hRc.1; have := m1.1; show k + (phc (c_collN q i).2 - phc q.2) + c_mc (c_collN q i).2 i ≤ _; omega, by have := hRc.2; have := m1.2; show n + (phs (c_collN q i).2 - phs q.2) + c_ms (c_collN q i).2 i ≤ _; omega⟩ (fun E => kX_no E) (fun al3 => k_ex (fun H h => h.1) (fun ha3 => k_W (V' := WX D Y A (c_try (c_collN q i).2 i) al3 []) (fun H h => h.2) ?_))
      refine k_if_eq C0 49 dX5_collectPayments_43 (by decide) (fun h43 => ?_) (fun h43 => ?_)
      ·
        refine k_iinc C0 (nI (i + 1)) [(2, _), (3, _), (1, _), (0, _)] dX5_collectPayments_49 1 rfl (nI_1 i) (by decide) rfl ?_
        refine k_goto C0 4 dX5_collectPayments_52 (by decide) ?_
        first | (refine k_lv [0, 2, 3] rfl ?_; have eE := c_step_f (q := c_collN q i) (i := i) h35; have eF : c_collN q (i + 1) = c_collN q i := eE; have hx := ih (i + 1) (by omega); rw [eF] at hx; rw [show Value.ref (al1 0 0) = Value.ref (al 0 0) from congrArg Value.ref (ha 0 0 (by decide) (by decide))]; exact k_W (fun H h => ⟨al1, ha, h⟩) hx) | (refine k_lv [0, 2, 3] rfl ?_; have hx := ih (i + 1) (by omega); have eF : c_collN q (i + 1) = (_, c_try (c_collN q i).2 i) := eB; have eG : (c_collN q (i + 1)).1 = (c_collN q i).1 := (congrArg Prod.fst eB).trans (if_pos h43); rw [eG] at hx; rw [show Value.ref (al1 0 0) = Value.ref (al 0 0) from congrArg Value.ref (ha 0 0 (by decide) (by decide))]; refine k_wid (k2 := k + (phc (c_collN q (i + 1)).2 - phc q.2)) (n2 := n + (phs (c_collN q (i + 1)).2 - phs q.2)) (by rw [eC]; omega) (by rw [eD]; omega) (k_W (fun H h => ⟨al3, ha.tr ha3, by rw [eF]; exact h⟩) hx)) | (refine k_lv [0, 1, 3] rfl ?_; have hx := ih (i + 1) (by omega); have eF : c_collN q (i + 1) = (_, c_try (c_collN q i).2 i) := eB; have eG : (c_collN q (i + 1)).1 = (c_collN q i).1 + 1 := (congrArg Prod.fst eB).trans (if_neg h43); rw [eG] at hx; rw [show Value.ref (al1 0 0) = Value.ref (al 0 0) from congrArg Value.ref (ha 0 0 (by decide) (by decide))]; refine k_wid (k2 := k + (phc (c_collN q (i + 1)).2 - phc q.2)) (n2 := n + (phs (c_collN q (i + 1)).2 - phs q.2)) (by rw [eC]; omega) (by rw [eD]; omega) (k_W (fun H h => ⟨al3, ha.tr ha3, by rw [eF]; exact h⟩) hx))
      ·
        refine k_iinc C0 ((c_collN q i).1 + 1) [(1, _), (3, _), (2, _), (0, _)] dX5_collectPayments_46 2 rfl rfl (by decide) rfl ?_
        refine k_iinc C0 (nI (i + 1)) [(2, _), (1, _), (3, _), (0, _)] dX5_collectPayments_49 2 rfl (nI_1 i) (by decide) rfl ?_
        refine k_goto C0 4 dX5_collectPayments_52 (by decide) ?_
        first | (refine k_lv [0, 2, 3] rfl ?_; have eE := c_step_f (q := c_collN q i) (i := i) h35; have eF : c_collN q (i + 1) = c_collN q i := eE; have hx := ih (i + 1) (by omega); rw [eF] at hx; rw [show Value.ref (al1 0 0) = Value.ref (al 0 0) from congrArg Value.ref (ha 0 0 (by decide) (by decide))]; exact k_W (fun H h => ⟨al1, ha, h⟩) hx) | (refine k_lv [0, 2, 3] rfl ?_; have hx := ih (i + 1) (by omega); have eF : c_collN q (i + 1) = (_, c_try (c_collN q i).2 i) := eB; have eG : (c_collN q (i + 1)).1 = (c_collN q i).1 := (congrArg Prod.fst eB).trans (if_pos h43); rw [eG] at hx; rw [show Value.ref (al1 0 0) = Value.ref (al 0 0) from congrArg Value.ref (ha 0 0 (by decide) (by decide))]; refine k_wid (k2 := k + (phc (c_collN q (i + 1)).2 - phc q.2)) (n2 := n + (phs (c_collN q (i + 1)).2 - phs q.2)) (by rw [eC]; omega) (by rw [eD]; omega) (k_W (fun H h => ⟨al3, ha.tr ha3, by rw [eF]; exact h⟩) hx)) | (refine k_lv [0, 1, 3] rfl ?_; have hx := ih (i + 1) (by omega); have eF : c_collN q (i + 1) = (_, c_try (c_collN q i).2 i) := eB; have eG : (c_collN q (i + 1)).1 = (c_collN q i).1 + 1 := (congrArg Prod.fst eB).trans (if_neg h43); rw [eG] at hx; rw [show Value.ref (al1 0 0) = Value.ref (al 0 0) from congrArg Value.ref (ha 0 0 (by decide) (by decide))]; refine k_wid (k2 := k + (phc (c_collN q (i + 1)).2 - phc q.2)) (n2 := n + (phs (c_collN q (i + 1)).2 - phs q.2)) (by rw [eC]; omega) (by rw [eD]; omega) (k_W (fun H h => ⟨al3, ha.tr ha3, by rw [eF]; exact h⟩) hx))
set_option maxRecDepth 100000 in
set_option maxHeartbeats 4000000 in
theorem cc_collect (l : Launch) (D : va_G) (Y : Nat → Nat) (A : Nat → Prop) (sg : Sg) (al : Nat → Nat → Nat) (hw0 : lw sg 3) (safe : ∀ i, i < (sN sg 5) → (c_collN (0, sg) i).2.1 5 i 6 = (c_collN (0, sg) i).2.1 0 0 5 → (c_collN (0, sg) i).2.1 5 i 3 = 0 → c_payOK (c_collN (0, sg) i).2 i) : CT l yX5_collectPayments (Cond.code yX5_collectPayments cX5_collectPayments 4 (some .int)) 11 261 D Y A [.ref (al 0 0)] (WX D Y A sg al []) (fun _ : Nat → Nat → Nat => some (.int (c_collN (0, sg) (sN sg 5)).1)) (fun al' : Nat → Nat → Nat => fun H => alK al al' ∧ WX D Y A ((c_collN (0, sg) (sN sg 5)).2) al' [] H) noX (phc (c_collN (0, sg) (sN sg 5)).2 - phc sg) (phs (c_collN (0, sg) (sN sg 5)).2 - phs sg) := by
  refine CT.of (by decide) (Nat.le_of_ble_eq_true rfl) ?_
  intro p_ e_ s_ m_ below_ meth_ c_ C0 K0 hr hlk htab hnm_
  refine k_iconst C0 0 dX5_collectPayments_0 (by decide) ?_
  refine k_istore_n C0 [(1, _), (0, _)] dX5_collectPayments_1 (by decide) rfl ?_
  refine k_iconst C0 0 dX5_collectPayments_2 (by decide) ?_
  refine k_istore_n C0 [(2, _), (1, _), (0, _)] dX5_collectPayments_3 (by decide) rfl ?_
  refine k_wid (k2 := 0 + (phc sg - phc sg)) (n2 := 0 + (phs sg - phs sg)) (Nat.zero_le _) (Nat.zero_le _) ?_
  refine k_W (V' := (fun H => ∃ al2 : Nat → Nat → Nat, alK al al2 ∧ WX D Y A ((c_collN (0, sg) 0).2) al2 [] H)) (fun H h => ⟨al, alK.rf al, h⟩) ?_
  refine lp_coll C0 K0 al (0, sg) (sN sg 5) rfl hw0 safe ⟨Nat.le_of_ble_eq_true rfl, Nat.le_of_ble_eq_true rfl⟩ ⟨Nat.le_of_eq (Nat.zero_add _), Nat.le_of_eq (Nat.zero_add _)⟩ ?_ (sN sg 5) 0 (Nat.zero_add _)
  refine k_exV (fun al1 => ?_)
  refine k_ex (fun H h => h.1) (fun ha => ?_)
  refine k_W (V' := WX D Y A (c_collN (0, sg) (sN sg 5)).2 al1 []) (fun H h => h.2) ?_
  refine k_iload_n C0 dX5_collectPayments_55 1 rfl ?_
  exact k_iret C0 dX5_collectPayments_56 hr hlk (Nat.le_of_eq (Nat.zero_add _)) (Nat.le_of_eq (Nat.zero_add _)) al1 rfl (fun H h => ⟨ha, h⟩)
