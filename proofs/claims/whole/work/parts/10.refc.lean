def r_fillP (mu : Rm) (b : Int32) (v : Int32) : Nat → Rm
  | 0 => mu
  | i + 1 => rI (r_fillP mu b v i) 12 (b + nI i).toNatClampNeg v
theorem r_fillP_ne (mu : Rm) (b v : Int32) (f : Nat) (hf : f ≠ 12) : ∀ i, (r_fillP mu b v i).1 f = mu.1 f
  | 0 => rfl
  | i + 1 => (if_neg hf).trans (r_fillP_ne mu b v f hf i)
def r_close1 (mu : Rm) (mo : Int32) (i : Nat) : Rm :=
  rI (rI (rI mu 9 (120 * nI i + mo).toNatClampNeg (if 0 < mu.1 8 (nI i).toNatClampNeg + mu.1 7 (nI i).toNatClampNeg ∧ mu.1 5 (nI i).toNatClampNeg ≤ mu.1 8 (nI i).toNatClampNeg + mu.1 7 (nI i).toNatClampNeg then mu.1 8 (nI i).toNatClampNeg + mu.1 7 (nI i).toNatClampNeg else 0)) 8 (nI i).toNatClampNeg (if 0 < mu.1 8 (nI i).toNatClampNeg + mu.1 7 (nI i).toNatClampNeg ∧ mu.1 5 (nI i).toNatClampNeg ≤ mu.1 8 (nI i).toNatClampNeg + mu.1 7 (nI i).toNatClampNeg then 0 else mu.1 8 (nI i).toNatClampNeg + mu.1 7 (nI i).toNatClampNeg)) 7 (nI i).toNatClampNeg 0
def r_closeN (mu : Rm) (mo : Int32) : Nat → Rm
  | 0 => mu
  | i + 1 => r_close1 (r_closeN mu mo i) mo i
theorem r_closeN_ne (mu : Rm) (mo : Int32) (f : Nat) (h7 : f ≠ 7) (h8 : f ≠ 8) (h9 : f ≠ 9) : ∀ i, (r_closeN mu mo i).1 f = mu.1 f
  | 0 => rfl
  | i + 1 => (if_neg h7).trans ((if_neg h8).trans ((if_neg h9).trans (r_closeN_ne mu mo f h7 h8 h9 i)))
def r_payPr (mu : Rm) (i : Int32) : Int32 := mu.1 12 (5 * mu.1 16 i.toNatClampNeg + mu.1 17 i.toNatClampNeg).toNatClampNeg
def r_payP (mu : Rm) (i : Int32) : Int32 := if mu.1 21 i.toNatClampNeg = 1 ∧ mu.1 20 i.toNatClampNeg = 0 then r_payPr mu i / 2 else r_payPr mu i
def r_payO (mu : Rm) (i : Int32) : Int32 := if mu.1 20 i.toNatClampNeg < 12 then 0 else 1
def r_payS (mu : Rm) (i : Int32) : Rm := (r_sells mu (mu.1 16 i.toNatClampNeg) (mu.1 17 i.toNatClampNeg) (r_payP mu i) (r_payO mu i)).2
def r_payT (mu : Rm) (i : Int32) : Rm := rI (rI (rI (r_payS mu i) 20 i.toNatClampNeg ((r_payS mu i).1 20 i.toNatClampNeg + 1)) 19 i.toNatClampNeg 0) 18 i.toNatClampNeg ((r_payS mu i).1 0 0 + 30)
def r_payF (mu : Rm) (i : Int32) : Rm := rI (rI mu 19 i.toNatClampNeg (mu.1 19 i.toNatClampNeg + 1)) 18 i.toNatClampNeg (if (rI mu 19 i.toNatClampNeg (mu.1 19 i.toNatClampNeg + 1)).1 19 i.toNatClampNeg = 6 then -1 else mu.1 0 0 + 1)
/-- what a try to pay asks of the numbers -/
def r_payOK (mu : Rm) (i : Int32) : Prop := vp_in i 40 ∧ (¬ mu.1 22 i.toNatClampNeg = 1 → vp_in (5 * mu.1 16 i.toNatClampNeg + mu.1 17 i.toNatClampNeg) 100 ∧ r_sellOK mu (mu.1 16 i.toNatClampNeg) (mu.1 17 i.toNatClampNeg) (r_payP mu i) (r_payO mu i))
def r_pays (mu : Rm) (i : Int32) : Int32 × Rm := if mu.1 22 i.toNatClampNeg = 1 then (0, r_payF mu i) else (1, r_payT mu i)

set_option maxRecDepth 100000 in
set_option maxHeartbeats 4000000 in
theorem lp_addProduct {p : Program} {l : Launch} {e : Env} {R : Room} {s_ : State} {m_ : MethodId} {args_ : Array Value} {below_ : List Frame} {meth_ : Method} {c_ : Code} {Q : State → Prop} {D : va_G} {Y : Nat → Nat} {A : Nat → Prop} {k n : Nat} {o : Nat} {al : Nat → Nat} (C0 : CallFix p m_ c_ cX6_addProduct 4 s_ args_ TT RX6) (K0 : PK D Y A s_) (mu : Rm) (a v : Int32) (np : Nat) (hnp : mu.1 10 0 = nI np) (h20 : np < 20) (exit : kG p l e R s_ m_ args_ below_ meth_ c_ Q A 4 (WR D Y A o al (r_fillP mu (5 * nI np) v 5)) k n 96 [(3, .int (nI 5)), (0, .ref o), (1, .int a), (2, .int v)] []) : ∀ (d i : Nat), i + d = 5 → kG p l e R s_ m_ args_ below_ meth_ c_ Q A 4 (WR D Y A o al (r_fillP mu (5 * nI np) v i)) k n 71 [(3, .int (nI i)), (0, .ref o), (1, .int a), (2, .int v)] [] := by
  intro d
  induction d with
  | zero =>
    intro i hi
    have hb : i = 5 := by omega
    subst hb
    refine k_iload_n C0 dX6_addProduct_71 0 rfl ?_
    refine k_iconst C0 5 dX6_addProduct_72 (by decide) ?_
    refine k_icmp_ge C0 96 dX6_addProduct_73 (by decide) (fun _ => ?_) (fun zz => absurd (nI_le (Nat.le_refl 5) (by decide)) zz)
    exact exit
  | succ d ih =>
    intro i hi
    refine k_iload_n C0 dX6_addProduct_71 0 rfl ?_
    refine k_iconst C0 5 dX6_addProduct_72 (by decide) ?_
    refine k_icmp_ge C0 96 dX6_addProduct_73 (by decide) (fun zz => absurd zz (nI_ge (a := i) (b := 5) (by omega) (by decide))) (fun _ => ?_)
    refine k_aload_n C0 dX6_addProduct_76 1 rfl ?_
    refine r_get C0 K0 12 dX6_addProduct_77 (tC 228 rfl rfl) (by decide) rfl rfl ?_
    refine k_iconst C0 5 dX6_addProduct_80 (by decide) ?_
    refine k_aload_n C0 dX6_addProduct_81 1 rfl ?_
    refine r_getI C0 K0 10 (nI np) dX6_addProduct_82 (tC 226 rfl rfl) (by decide) rfl (rg_10 al _) ((congrFun (r_fillP_ne mu (5 * nI np) v 10 (by decide) i) 0).trans hnp) ?_
    refine k_imul C0 dX6_addProduct_85 ?_
    refine k_iload_n C0 dX6_addProduct_86 0 rfl ?_
    refine k_iadd C0 dX6_addProduct_87 ?_
    refine k_iload_n C0 dX6_addProduct_88 3 rfl ?_
    refine r_iast C0 K0 12 dX6_addProduct_89 (by decide) (vp_m5 h20 (by omega)) ?_
    refine k_iinc C0 (nI (i + 1)) [(3, _), (0, _), (1, _), (2, _)] dX6_addProduct_90 0 rfl (nI_1 i) (by decide) rfl ?_
    refine k_goto C0 71 dX6_addProduct_93 (by decide) ?_
    exact ih (i + 1) (by omega)
set_option maxRecDepth 100000 in
set_option maxHeartbeats 4000000 in
theorem ct_addProduct_ok (l : Launch) (D : va_G) (Y : Nat → Nat) (A : Nat → Prop) (o : Nat) (al : Nat → Nat) (mu : Rm) (a v : Int32) (np : Nat) (hnp : mu.1 10 0 = nI np) (h20 : np < 20) (a1 : 0 ≤ a) (a2 : a ≤ mu.1 4 0 - 1) (b1 : 0 ≤ v) (b2 : v ≤ 100000) (hn : ¬ mu.1 10 0 = 20) : CT l yX6_addProduct (Cond.code yX6_addProduct cX6_addProduct 4 (some .int)) 1 22 D Y A [.ref o, .int a, .int v] (WR D Y A o al mu) (fun _ : Unit => some (.int (((nI np) + 1) - 1))) (fun _ : Unit => WR D Y A o al (rI (r_fillP (rI (rI mu 25 0 0) 11 (nI np).toNatClampNeg a) (5 * nI np) v 5) 10 0 ((nI np) + 1))) noX 0 0 := by
  refine CT.of (by decide) (Nat.le_of_ble_eq_true rfl) ?_
  intro p_ e_ s_ m_ below_ meth_ c_ C0 K0 hr hlk htab hnm_
  refine k_aload_n C0 dX6_addProduct_0 0 rfl ?_
  refine k_iload_n C0 dX6_addProduct_1 1 rfl ?_
  refine k_iconst C0 0 dX6_addProduct_2 (by decide) ?_
  refine k_aload_n C0 dX6_addProduct_3 0 rfl ?_
  refine r_getI C0 K0 4 (mu.1 4 0) dX6_addProduct_4 (tC 220 rfl rfl) (by decide) rfl (rg_4 al _) rfl ?_
  refine k_iconst C0 1 dX6_addProduct_7 (by decide) ?_
  refine k_isub C0 dX6_addProduct_8 ?_
  refine k_callS C0 K0 dX6_addProduct_9 (ct_in1 l D Y A _ a (0 : Int32) ((mu.1 4 0) - 1) a1 a2) gkX6_69 hyX6_in rfl (by exact Nat.le_of_ble_eq_true rfl) ⟨Nat.le_of_ble_eq_true rfl, Nat.le_of_ble_eq_true rfl⟩ ⟨Nat.le_of_ble_eq_true rfl, Nat.le_of_ble_eq_true rfl⟩ (fun E => kX_no E) (fun u => ?_)
  refine k_if_ne C0 19 dX6_addProduct_12 (by decide) (fun _ => ?_) (fun zz => absurd zz (by decide))
  refine k_iload_n C0 dX6_addProduct_19 2 rfl ?_
  refine k_iconst C0 0 dX6_addProduct_20 (by decide) ?_
  refine k_ldc C0 (v := 100000) dX6_addProduct_21 (tD 76 rfl rfl) ?_
  refine k_callS C0 K0 dX6_addProduct_23 (ct_in1 l D Y A _ v (0 : Int32) (100000 : Int32) b1 b2) gkX6_69 hyX6_in rfl (by exact Nat.le_of_ble_eq_true rfl) ⟨Nat.le_of_ble_eq_true rfl, Nat.le_of_ble_eq_true rfl⟩ ⟨Nat.le_of_ble_eq_true rfl, Nat.le_of_ble_eq_true rfl⟩ (fun E => kX_no E) (fun u => ?_)
  refine k_if_ne C0 33 dX6_addProduct_26 (by decide) (fun _ => ?_) (fun zz => absurd zz (by decide))
  refine k_aload_n C0 dX6_addProduct_33 0 rfl ?_
  refine r_getI C0 K0 10 (mu.1 10 0) dX6_addProduct_34 (tC 226 rfl rfl) (by decide) rfl (rg_10 al _) rfl ?_
  refine k_bipush C0 20 dX6_addProduct_37 (by decide) ?_
  refine k_icmp_ne C0 46 dX6_addProduct_39 (by decide) (fun _ => ?_) (fun zz => absurd zz hn)
  refine k_iconst C0 0 dX6_addProduct_46 (by decide) ?_
  refine r_putS C0 K0 25 dX6_addProduct_47 (tD 1 rfl rfl) (by decide) rfl rfl (by decide +kernel) (rs_25 al _ _) (by decide) ?_
  refine k_aload_n C0 dX6_addProduct_50 0 rfl ?_
  refine r_getI C0 K0 25 0 dX6_addProduct_51 (tD 1 rfl rfl) (by decide) rfl (rg_25 al _) rI_at ?_
  refine k_if_le C0 59 dX6_addProduct_54 (by decide) (fun _ => ?_) (fun zz => absurd (by decide) zz)
  refine k_aload_n C0 dX6_addProduct_59 0 rfl ?_
  refine r_get C0 K0 11 dX6_addProduct_60 (tC 227 rfl rfl) (by decide) rfl rfl ?_
  refine k_aload_n C0 dX6_addProduct_63 0 rfl ?_
  refine r_getI C0 K0 10 (nI np) dX6_addProduct_64 (tC 226 rfl rfl) (by decide) rfl (rg_10 al _) hnp ?_
  refine k_iload_n C0 dX6_addProduct_67 1 rfl ?_
  refine r_iast C0 K0 11 dX6_addProduct_68 (by decide) (vp_in_nI h20 (by decide)) ?_
  refine k_iconst C0 0 dX6_addProduct_69 (by decide) ?_
  refine k_istore_n C0 [(3, _), (0, _), (1, _), (2, _)] dX6_addProduct_70 (by decide) rfl ?_
  refine lp_addProduct C0 K0 (rI (rI mu 25 0 0) 11 (nI np).toNatClampNeg a) a v np hnp h20 ?_ 5 0 rfl
  refine k_aload_n C0 dX6_addProduct_96 1 rfl ?_
  refine k_dup C0 dX6_addProduct_97 rfl ?_
  refine r_getI C0 K0 10 (nI np) dX6_addProduct_98 (tC 226 rfl rfl) (by decide) rfl (rg_10 al _) ((congrFun (r_fillP_ne (rI (rI mu 25 0 0) 11 (nI np).toNatClampNeg a) (5 * nI np) v 10 (by decide) 5) 0).trans hnp) ?_
  refine k_iconst C0 1 dX6_addProduct_101 (by decide) ?_
  refine k_iadd C0 dX6_addProduct_102 ?_
  refine r_putS C0 K0 10 dX6_addProduct_103 (tC 226 rfl rfl) (by decide) rfl rfl (by decide +kernel) (rs_10 al _ _) (by decide) ?_
  refine k_aload_n C0 dX6_addProduct_106 1 rfl ?_
  refine r_getI C0 K0 10 ((nI np) + 1) dX6_addProduct_107 (tC 226 rfl rfl) (by decide) rfl (rg_10 al _) rI_at ?_
  refine k_iconst C0 1 dX6_addProduct_110 (by decide) ?_
  refine k_isub C0 dX6_addProduct_111 ?_
  exact k_iret C0 dX6_addProduct_112 hr hlk (Nat.le_of_ble_eq_true rfl) (Nat.le_of_ble_eq_true rfl) () rfl (fun H h => h)
set_option maxRecDepth 100000 in
set_option maxHeartbeats 4000000 in
theorem lp_closes {p : Program} {l : Launch} {e : Env} {R : Room} {s_ : State} {m_ : MethodId} {args_ : Array Value} {below_ : List Frame} {meth_ : Method} {c_ : Code} {Q : State → Prop} {D : va_G} {Y : Nat → Nat} {A : Nat → Prop} {k n : Nat} {o : Nat} {al : Nat → Nat} (C0 : CallFix p m_ c_ cX6_closes 5 s_ args_ TT RX6) (K0 : PK D Y A s_) (mu : Rm) (mo : Int32) (nm j : Nat) (hnm : mu.1 4 0 = nI nm) (h6 : nm ≤ 6) (hmo : mo = nI j) (h120 : j < 120) (exit : kG p l e R s_ m_ args_ below_ meth_ c_ Q A 5 (WR D Y A o al (r_closeN mu mo nm)) k n 95 [(2, .int (nI nm)), (0, .ref o), (1, .int mo)] []) : ∀ (d i : Nat), i + d = nm → kG p l e R s_ m_ args_ below_ meth_ c_ Q A 5 (WR D Y A o al (r_closeN mu mo i)) k n 2 [(2, .int (nI i)), (0, .ref o), (1, .int mo)] [] := by
  intro d
  induction d with
  | zero =>
    intro i hi
    have hb : i = nm := by omega
    subst hb
    refine k_iload_n C0 dX6_closes_2 0 rfl ?_
    refine k_aload_n C0 dX6_closes_3 1 rfl ?_
    refine r_getI C0 K0 4 (nI i) dX6_closes_4 (tC 220 rfl rfl) (by decide) rfl (rg_4 al _) ((congrFun (r_closeN_ne mu mo 4 (by decide) (by decide) (by decide) i) 0).trans hnm) ?_
    refine k_icmp_ge C0 95 dX6_closes_7 (by decide) (fun _ => ?_) (fun zz => absurd (nI_le (Nat.le_refl i) (by omega)) zz)
    exact exit
  | succ d ih =>
    intro i hi
    refine k_iload_n C0 dX6_closes_2 0 rfl ?_
    refine k_aload_n C0 dX6_closes_3 1 rfl ?_
    refine r_getI C0 K0 4 (nI nm) dX6_closes_4 (tC 220 rfl rfl) (by decide) rfl (rg_4 al _) ((congrFun (r_closeN_ne mu mo 4 (by decide) (by decide) (by decide) i) 0).trans hnm) ?_
    refine k_icmp_ge C0 95 dX6_closes_7 (by decide) (fun zz => absurd zz (nI_ge (a := i) (b := nm) (by omega) (by omega))) (fun _ => ?_)
    refine k_aload_n C0 dX6_closes_10 1 rfl ?_
    refine r_get C0 K0 8 dX6_closes_11 (tC 224 rfl rfl) (by decide) rfl rfl ?_
    refine k_iload_n C0 dX6_closes_14 0 rfl ?_
    refine r_iald C0 K0 8 dX6_closes_15 (by decide) (show vp_in (nI i) 6 from vp_in_nI (by omega) (by decide)) (v := (r_closeN mu mo i).1 8 ((nI i).toNatClampNeg)) rfl ?_
    refine k_aload_n C0 dX6_closes_16 1 rfl ?_
    refine r_get C0 K0 7 dX6_closes_17 (tC 223 rfl rfl) (by decide) rfl rfl ?_
    refine k_iload_n C0 dX6_closes_20 0 rfl ?_
    refine r_iald C0 K0 7 dX6_closes_21 (by decide) (show vp_in (nI i) 6 from vp_in_nI (by omega) (by decide)) (v := (r_closeN mu mo i).1 7 ((nI i).toNatClampNeg)) rfl ?_
    refine k_iadd C0 dX6_closes_22 ?_
    refine k_istore_n C0 [(3, _), (2, _), (0, _), (1, _)] dX6_closes_23 (by decide) rfl ?_
    refine k_iload_n C0 dX6_closes_24 0 rfl ?_
    refine k_if_le C0 42 dX6_closes_25 (by decide) (fun h25 => ?_) (fun h25 => ?_)
    ·
      refine k_iconst C0 0 dX6_closes_42 (by decide) ?_
      refine k_istore C0 [(4, _), (3, _), (2, _), (0, _), (1, _)] dX6_closes_43 (by decide) rfl ?_
      refine k_aload_n C0 dX6_closes_45 3 rfl ?_
      refine r_get C0 K0 9 dX6_closes_46 (tC 225 rfl rfl) (by decide) rfl rfl ?_
      refine k_bipush C0 120 dX6_closes_49 (by decide) ?_
      refine k_iload_n C0 dX6_closes_51 2 rfl ?_
      refine k_imul C0 dX6_closes_52 ?_
      refine k_iload_n C0 dX6_closes_53 4 rfl ?_
      refine k_iadd C0 dX6_closes_54 ?_
      refine k_iload C0 dX6_closes_55 0 rfl ?_
      refine k_if_eq C0 64 dX6_closes_57 (by decide) (fun _ => ?_) (fun zz => absurd (by decide) zz)
      refine k_iconst C0 0 dX6_closes_64 (by decide) ?_
      refine r_iast C0 K0 9 dX6_closes_65 (by decide) (by rw [hmo]; exact vp_m120 (by omega) h120) ?_
      refine k_aload_n C0 dX6_closes_66 3 rfl ?_
      refine r_get C0 K0 8 dX6_closes_67 (tC 224 rfl rfl) (by decide) rfl rfl ?_
      refine k_iload_n C0 dX6_closes_70 2 rfl ?_
      refine k_iload C0 dX6_closes_71 0 rfl ?_
      refine k_if_eq C0 80 dX6_closes_73 (by decide) (fun _ => ?_) (fun zz => absurd (by decide) zz)
      refine k_iload_n C0 dX6_closes_80 1 rfl ?_
      refine r_iast C0 K0 8 dX6_closes_81 (by decide) (show vp_in (nI i) 6 from vp_in_nI (by omega) (by decide)) ?_
      refine k_aload_n C0 dX6_closes_82 3 rfl ?_
      refine r_get C0 K0 7 dX6_closes_83 (tC 223 rfl rfl) (by decide) rfl rfl ?_
      refine k_iload_n C0 dX6_closes_86 2 rfl ?_
      refine k_iconst C0 0 dX6_closes_87 (by decide) ?_
      refine r_iast C0 K0 7 dX6_closes_88 (by decide) (show vp_in (nI i) 6 from vp_in_nI (by omega) (by decide)) ?_
      refine k_iinc C0 (nI (i + 1)) [(2, _), (4, _), (3, _), (0, _), (1, _)] dX6_closes_89 2 rfl (nI_1 i) (by decide) rfl ?_
      refine k_goto C0 2 dX6_closes_92 (by decide) ?_
      first | refine k_W (V' := WR D Y A o al (r_closeN mu mo (i + 1))) (fun H h => by rw [r_closeN]; unfold r_close1; rw [if_neg (fun z => Int32.not_lt.mpr h25 z.1), if_neg (fun z => Int32.not_lt.mpr h25 z.1)]; exact h) ?_ | refine k_W (V' := WR D Y A o al (r_closeN mu mo (i + 1))) (fun H h => by rw [r_closeN]; unfold r_close1; rw [if_neg (fun z => Int32.not_le.mpr h35 z.2), if_neg (fun z => Int32.not_le.mpr h35 z.2)]; exact h) ?_ | refine k_W (V' := WR D Y A o al (r_closeN mu mo (i + 1))) (fun H h => by rw [r_closeN]; unfold r_close1; rw [if_pos ⟨Int32.not_le.mp h25, Int32.not_lt.mp h35⟩, if_pos ⟨Int32.not_le.mp h25, Int32.not_lt.mp h35⟩]; exact h) ?_
      refine k_lv [0, 3, 4] rfl ?_
      exact ih (i + 1) (by omega)
    ·
      refine k_iload_n C0 dX6_closes_28 0 rfl ?_
      refine k_aload_n C0 dX6_closes_29 2 rfl ?_
      refine r_get C0 K0 5 dX6_closes_30 (tC 221 rfl rfl) (by decide) rfl rfl ?_
      refine k_iload_n C0 dX6_closes_33 1 rfl ?_
      refine r_iald C0 K0 5 dX6_closes_34 (by decide) (show vp_in (nI i) 6 from vp_in_nI (by omega) (by decide)) (v := (r_closeN mu mo i).1 5 ((nI i).toNatClampNeg)) rfl ?_
      refine k_icmp_lt C0 42 dX6_closes_35 (by decide) (fun h35 => ?_) (fun h35 => ?_)
      ·
        refine k_iconst C0 0 dX6_closes_42 (by decide) ?_
        refine k_istore C0 [(4, _), (3, _), (2, _), (0, _), (1, _)] dX6_closes_43 (by decide) rfl ?_
        refine k_aload_n C0 dX6_closes_45 3 rfl ?_
        refine r_get C0 K0 9 dX6_closes_46 (tC 225 rfl rfl) (by decide) rfl rfl ?_
        refine k_bipush C0 120 dX6_closes_49 (by decide) ?_
        refine k_iload_n C0 dX6_closes_51 2 rfl ?_
        refine k_imul C0 dX6_closes_52 ?_
        refine k_iload_n C0 dX6_closes_53 4 rfl ?_
        refine k_iadd C0 dX6_closes_54 ?_
        refine k_iload C0 dX6_closes_55 0 rfl ?_
        refine k_if_eq C0 64 dX6_closes_57 (by decide) (fun _ => ?_) (fun zz => absurd (by decide) zz)
        refine k_iconst C0 0 dX6_closes_64 (by decide) ?_
        refine r_iast C0 K0 9 dX6_closes_65 (by decide) (by rw [hmo]; exact vp_m120 (by omega) h120) ?_
        refine k_aload_n C0 dX6_closes_66 3 rfl ?_
        refine r_get C0 K0 8 dX6_closes_67 (tC 224 rfl rfl) (by decide) rfl rfl ?_
        refine k_iload_n C0 dX6_closes_70 2 rfl ?_
        refine k_iload C0 dX6_closes_71 0 rfl ?_
        refine k_if_eq C0 80 dX6_closes_73 (by decide) (fun _ => ?_) (fun zz => absurd (by decide) zz)
        refine k_iload_n C0 dX6_closes_80 1 rfl ?_
        refine r_iast C0 K0 8 dX6_closes_81 (by decide) (show vp_in (nI i) 6 from vp_in_nI (by omega) (by decide)) ?_
        refine k_aload_n C0 dX6_closes_82 3 rfl ?_
        refine r_get C0 K0 7 dX6_closes_83 (tC 223 rfl rfl) (by decide) rfl rfl ?_
        refine k_iload_n C0 dX6_closes_86 2 rfl ?_
        refine k_iconst C0 0 dX6_closes_87 (by decide) ?_
        refine r_iast C0 K0 7 dX6_closes_88 (by decide) (show vp_in (nI i) 6 from vp_in_nI (by omega) (by decide)) ?_
        refine k_iinc C0 (nI (i + 1)) [(2, _), (4, _), (3, _), (0, _), (1, _)] dX6_closes_89 2 rfl (nI_1 i) (by decide) rfl ?_
        refine k_goto C0 2 dX6_closes_92 (by decide) ?_
        first | refine k_W (V' := WR D Y A o al (r_closeN mu mo (i + 1))) (fun H h => by rw [r_closeN]; unfold r_close1; rw [if_neg (fun z => Int32.not_lt.mpr h25 z.1), if_neg (fun z => Int32.not_lt.mpr h25 z.1)]; exact h) ?_ | refine k_W (V' := WR D Y A o al (r_closeN mu mo (i + 1))) (fun H h => by rw [r_closeN]; unfold r_close1; rw [if_neg (fun z => Int32.not_le.mpr h35 z.2), if_neg (fun z => Int32.not_le.mpr h35 z.2)]; exact h) ?_ | refine k_W (V' := WR D Y A o al (r_closeN mu mo (i + 1))) (fun H h => by rw [r_closeN]; unfold r_close1; rw [if_pos ⟨Int32.not_le.mp h25, Int32.not_lt.mp h35⟩, if_pos ⟨Int32.not_le.mp h25, Int32.not_lt.mp h35⟩]; exact h) ?_
        refine k_lv [0, 3, 4] rfl ?_
        exact ih (i + 1) (by omega)
      ·
        refine k_iconst C0 1 dX6_closes_38 (by decide) ?_
        refine k_goto C0 43 dX6_closes_39 (by decide) ?_
        refine k_istore C0 [(4, _), (3, _), (2, _), (0, _), (1, _)] dX6_closes_43 (by decide) rfl ?_
        refine k_aload_n C0 dX6_closes_45 3 rfl ?_
        refine r_get C0 K0 9 dX6_closes_46 (tC 225 rfl rfl) (by decide) rfl rfl ?_
        refine k_bipush C0 120 dX6_closes_49 (by decide) ?_
        refine k_iload_n C0 dX6_closes_51 2 rfl ?_
        refine k_imul C0 dX6_closes_52 ?_
        refine k_iload_n C0 dX6_closes_53 4 rfl ?_
        refine k_iadd C0 dX6_closes_54 ?_
        refine k_iload C0 dX6_closes_55 0 rfl ?_
        refine k_if_eq C0 64 dX6_closes_57 (by decide) (fun zz => absurd zz (by decide)) (fun _ => ?_)
        refine k_iload_n C0 dX6_closes_60 1 rfl ?_
        refine k_goto C0 65 dX6_closes_61 (by decide) ?_
        refine r_iast C0 K0 9 dX6_closes_65 (by decide) (by rw [hmo]; exact vp_m120 (by omega) h120) ?_
        refine k_aload_n C0 dX6_closes_66 3 rfl ?_
        refine r_get C0 K0 8 dX6_closes_67 (tC 224 rfl rfl) (by decide) rfl rfl ?_
        refine k_iload_n C0 dX6_closes_70 2 rfl ?_
        refine k_iload C0 dX6_closes_71 0 rfl ?_
        refine k_if_eq C0 80 dX6_closes_73 (by decide) (fun zz => absurd zz (by decide)) (fun _ => ?_)
        refine k_iconst C0 0 dX6_closes_76 (by decide) ?_
        refine k_goto C0 81 dX6_closes_77 (by decide) ?_
        refine r_iast C0 K0 8 dX6_closes_81 (by decide) (show vp_in (nI i) 6 from vp_in_nI (by omega) (by decide)) ?_
        refine k_aload_n C0 dX6_closes_82 3 rfl ?_
        refine r_get C0 K0 7 dX6_closes_83 (tC 223 rfl rfl) (by decide) rfl rfl ?_
        refine k_iload_n C0 dX6_closes_86 2 rfl ?_
        refine k_iconst C0 0 dX6_closes_87 (by decide) ?_
        refine r_iast C0 K0 7 dX6_closes_88 (by decide) (show vp_in (nI i) 6 from vp_in_nI (by omega) (by decide)) ?_
        refine k_iinc C0 (nI (i + 1)) [(2, _), (4, _), (3, _), (0, _), (1, _)] dX6_closes_89 2 rfl (nI_1 i) (by decide) rfl ?_
        refine k_goto C0 2 dX6_closes_92 (by decide) ?_
        first | refine k_W (V' := WR D Y A o al (r_closeN mu mo (i + 1))) (fun H h => by rw [r_closeN]; unfold r_close1; rw [if_neg (fun z => Int32.not_lt.mpr h25 z.1), if_neg (fun z => Int32.not_lt.mpr h25 z.1)]; exact h) ?_ | refine k_W (V' := WR D Y A o al (r_closeN mu mo (i + 1))) (fun H h => by rw [r_closeN]; unfold r_close1; rw [if_neg (fun z => Int32.not_le.mpr h35 z.2), if_neg (fun z => Int32.not_le.mpr h35 z.2)]; exact h) ?_ | refine k_W (V' := WR D Y A o al (r_closeN mu mo (i + 1))) (fun H h => by rw [r_closeN]; unfold r_close1; rw [if_pos ⟨Int32.not_le.mp h25, Int32.not_lt.mp h35⟩, if_pos ⟨Int32.not_le.mp h25, Int32.not_lt.mp h35⟩]; exact h) ?_
        refine k_lv [0, 3, 4] rfl ?_
        exact ih (i + 1) (by omega)
set_option maxRecDepth 100000 in
set_option maxHeartbeats 4000000 in
theorem ct_closes (l : Launch) (D : va_G) (Y : Nat → Nat) (A : Nat → Prop) (o : Nat) (al : Nat → Nat) (mu : Rm) (mo : Int32) (nm j : Nat) (hnm : mu.1 4 0 = nI nm) (h6 : nm ≤ 6) (hmo : mo = nI j) (h120 : j < 120) : CT l yX6_closes (Cond.code yX6_closes cX6_closes 5 none) 0 0 D Y A [.ref o, .int mo] (WR D Y A o al mu) (fun _ : Unit => none) (fun _ : Unit => WR D Y A o al (r_closeN mu mo nm)) noX 0 0 := by
  refine CT.of (by decide) (Nat.le_of_ble_eq_true rfl) ?_
  intro p_ e_ s_ m_ below_ meth_ c_ C0 K0 hr hlk htab hnm_
  refine k_iconst C0 0 dX6_closes_0 (by decide) ?_
  refine k_istore_n C0 [(2, _), (0, _), (1, _)] dX6_closes_1 (by decide) rfl ?_
  refine lp_closes C0 K0 mu mo nm j hnm h6 hmo h120 ?_ nm 0 (by omega)
  exact k_vret C0 dX6_closes_95 hr hlk (Nat.le_of_ble_eq_true rfl) (Nat.le_of_ble_eq_true rfl) () rfl (fun H h => h)
set_option maxRecDepth 100000 in
set_option maxHeartbeats 4000000 in
theorem ct_pays_0 (l : Launch) (D : va_G) (Y : Nat → Nat) (A : Nat → Prop) (o : Nat) (al : Nat → Nat) (mu : Rm) (i : Int32) (hk : r_payOK mu i) (hf : mu.1 22 i.toNatClampNeg = 1) : CT l yX6_pays (Cond.code yX6_pays cX6_pays 4 (some .boolean)) 6 200 D Y A [.ref o, .int i] (WR D Y A o al mu) (fun _ : Unit => some (.int 0)) (fun _ : Unit => WR D Y A o al (r_payF mu i)) noX 0 0 := by
  refine CT.of (by decide) (Nat.le_of_ble_eq_true rfl) ?_
  intro p_ e_ s_ m_ below_ meth_ c_ C0 K0 hr hlk htab hnm_
  refine k_aload_n C0 dX6_pays_0 0 rfl ?_
  refine r_get C0 K0 22 dX6_pays_1 (tC 238 rfl rfl) (by decide) rfl rfl ?_
  refine k_iload_n C0 dX6_pays_4 1 rfl ?_
  refine r_iald C0 K0 22 dX6_pays_5 (by decide) hk.1 (v := mu.1 22 i.toNatClampNeg) rfl ?_
  refine k_iconst C0 1 dX6_pays_6 (by decide) ?_
  refine k_icmp_ne C0 49 dX6_pays_7 (by decide) (fun zz => absurd hf zz) (fun _ => ?_)
  refine k_aload_n C0 dX6_pays_10 0 rfl ?_
  refine r_get C0 K0 19 dX6_pays_11 (tC 235 rfl rfl) (by decide) rfl rfl ?_
  refine k_iload_n C0 dX6_pays_14 1 rfl ?_
  refine k_dup2 C0 dX6_pays_15 rfl rfl ?_
  refine r_iald C0 K0 19 dX6_pays_16 (by decide) hk.1 (v := mu.1 19 i.toNatClampNeg) rfl ?_
  refine k_iconst C0 1 dX6_pays_17 (by decide) ?_
  refine k_iadd C0 dX6_pays_18 ?_
  refine r_iast C0 K0 19 dX6_pays_19 (by decide) hk.1 ?_
  refine k_aload_n C0 dX6_pays_20 0 rfl ?_
  refine r_get C0 K0 18 dX6_pays_21 (tC 234 rfl rfl) (by decide) rfl rfl ?_
  refine k_iload_n C0 dX6_pays_24 1 rfl ?_
  refine k_aload_n C0 dX6_pays_25 0 rfl ?_
  refine r_get C0 K0 19 dX6_pays_26 (tC 235 rfl rfl) (by decide) rfl rfl ?_
  refine k_iload_n C0 dX6_pays_29 1 rfl ?_
  refine r_iald C0 K0 19 dX6_pays_30 (by decide) hk.1 (v := (rI mu 19 i.toNatClampNeg ((mu.1 19 i.toNatClampNeg) + 1)).1 19 i.toNatClampNeg) rfl ?_
  refine k_bipush C0 6 dX6_pays_31 (by decide) ?_
  refine k_icmp_ne C0 40 dX6_pays_33 (by decide) (fun h33 => ?_) (fun h33 => ?_)
  ·
    refine k_aload_n C0 dX6_pays_40 0 rfl ?_
    refine r_getI C0 K0 0 (mu.1 0 0) dX6_pays_41 (tC 216 rfl rfl) (by decide) rfl (rg_0 al _) (rI_tr (by decide) rfl) ?_
    refine k_iconst C0 1 dX6_pays_44 (by decide) ?_
    refine k_iadd C0 dX6_pays_45 ?_
    refine r_iast C0 K0 18 dX6_pays_46 (by decide) hk.1 ?_
    refine k_iconst C0 0 dX6_pays_47 (by decide) ?_
    exact k_zret C0 dX6_pays_48 hr rfl hlk (Nat.le_of_ble_eq_true rfl) (Nat.le_of_ble_eq_true rfl) () rfl (by unfold r_payF; first | (rw [if_pos h33]; exact fun H h => h) | (rw [if_neg h33]; exact fun H h => h))
  ·
    refine k_iconst C0 (-1) dX6_pays_36 (by decide) ?_
    refine k_goto C0 46 dX6_pays_37 (by decide) ?_
    refine r_iast C0 K0 18 dX6_pays_46 (by decide) hk.1 ?_
    refine k_iconst C0 0 dX6_pays_47 (by decide) ?_
    exact k_zret C0 dX6_pays_48 hr rfl hlk (Nat.le_of_ble_eq_true rfl) (Nat.le_of_ble_eq_true rfl) () rfl (by unfold r_payF; first | (rw [if_pos h33]; exact fun H h => h) | (rw [if_neg h33]; exact fun H h => h))
set_option maxRecDepth 100000 in
set_option maxHeartbeats 4000000 in
theorem ct_pays_1 (l : Launch) (D : va_G) (Y : Nat → Nat) (A : Nat → Prop) (o : Nat) (al : Nat → Nat) (mu : Rm) (i : Int32) (hk : r_payOK mu i) (hf : ¬ mu.1 22 i.toNatClampNeg = 1) : CT l yX6_pays (Cond.code yX6_pays cX6_pays 4 (some .boolean)) 6 200 D Y A [.ref o, .int i] (WR D Y A o al mu) (fun _ : Unit => some (.int 1)) (fun _ : Unit => WR D Y A o al (r_payT mu i)) noX 0 0 := by
  refine CT.of (by decide) (Nat.le_of_ble_eq_true rfl) ?_
  intro p_ e_ s_ m_ below_ meth_ c_ C0 K0 hr hlk htab hnm_
  refine k_aload_n C0 dX6_pays_0 0 rfl ?_
  refine r_get C0 K0 22 dX6_pays_1 (tC 238 rfl rfl) (by decide) rfl rfl ?_
  refine k_iload_n C0 dX6_pays_4 1 rfl ?_
  refine r_iald C0 K0 22 dX6_pays_5 (by decide) hk.1 (v := mu.1 22 i.toNatClampNeg) rfl ?_
  refine k_iconst C0 1 dX6_pays_6 (by decide) ?_
  refine k_icmp_ne C0 49 dX6_pays_7 (by decide) (fun _ => ?_) (fun zz => absurd zz hf)
  refine k_aload_n C0 dX6_pays_49 0 rfl ?_
  refine r_get C0 K0 12 dX6_pays_50 (tC 228 rfl rfl) (by decide) rfl rfl ?_
  refine k_iconst C0 5 dX6_pays_53 (by decide) ?_
  refine k_aload_n C0 dX6_pays_54 0 rfl ?_
  refine r_get C0 K0 16 dX6_pays_55 (tC 232 rfl rfl) (by decide) rfl rfl ?_
  refine k_iload_n C0 dX6_pays_58 1 rfl ?_
  refine r_iald C0 K0 16 dX6_pays_59 (by decide) hk.1 (v := mu.1 16 i.toNatClampNeg) rfl ?_
  refine k_imul C0 dX6_pays_60 ?_
  refine k_aload_n C0 dX6_pays_61 0 rfl ?_
  refine r_get C0 K0 17 dX6_pays_62 (tC 233 rfl rfl) (by decide) rfl rfl ?_
  refine k_iload_n C0 dX6_pays_65 1 rfl ?_
  refine r_iald C0 K0 17 dX6_pays_66 (by decide) hk.1 (v := mu.1 17 i.toNatClampNeg) rfl ?_
  refine k_iadd C0 dX6_pays_67 ?_
  refine r_iald C0 K0 12 dX6_pays_68 (by decide) (hk.2 hf).1 (v := mu.1 12 (((5 * (mu.1 16 i.toNatClampNeg)) + (mu.1 17 i.toNatClampNeg)).toNatClampNeg)) rfl ?_
  refine k_istore_n C0 [(2, _), (0, _), (1, _)] dX6_pays_69 (by decide) rfl ?_
  refine k_join (fun x => x = (if (mu.1 21 i.toNatClampNeg = 1 ∧ mu.1 20 i.toNatClampNeg = 0) then 1 else 0)) 94 0 (fun J1 => ?_) (fun x1 ex1 => ?_)
  ·
    refine k_aload_n C0 dX6_pays_70 1 rfl ?_
    refine r_get C0 K0 21 dX6_pays_71 (tC 237 rfl rfl) (by decide) rfl rfl ?_
    refine k_iload_n C0 dX6_pays_74 2 rfl ?_
    refine r_iald C0 K0 21 dX6_pays_75 (by decide) hk.1 (v := mu.1 21 i.toNatClampNeg) rfl ?_
    refine k_iconst C0 1 dX6_pays_76 (by decide) ?_
    refine k_icmp_ne C0 93 dX6_pays_77 (by decide) (fun h77 => ?_) (fun h77 => ?_)
    ·
      refine k_iconst C0 0 dX6_pays_93 (by decide) ?_
      exact J1 _ (by first | exact (if_neg (fun z => h77 z.1)).symm | exact (if_neg (fun z => h86 z.2)).symm | exact (if_pos ⟨h77, h86⟩).symm)
    ·
      refine k_aload_n C0 dX6_pays_80 1 rfl ?_
      refine r_get C0 K0 20 dX6_pays_81 (tC 236 rfl rfl) (by decide) rfl rfl ?_
      refine k_iload_n C0 dX6_pays_84 2 rfl ?_
      refine r_iald C0 K0 20 dX6_pays_85 (by decide) hk.1 (v := mu.1 20 i.toNatClampNeg) rfl ?_
      refine k_if_ne C0 93 dX6_pays_86 (by decide) (fun h86 => ?_) (fun h86 => ?_)
      ·
        refine k_iconst C0 0 dX6_pays_93 (by decide) ?_
        exact J1 _ (by first | exact (if_neg (fun z => h77 z.1)).symm | exact (if_neg (fun z => h86 z.2)).symm | exact (if_pos ⟨h77, h86⟩).symm)
      ·
        refine k_iconst C0 1 dX6_pays_89 (by decide) ?_
        refine k_goto C0 94 dX6_pays_90 (by decide) ?_
        exact J1 _ (by first | exact (if_neg (fun z => h77 z.1)).symm | exact (if_neg (fun z => h86 z.2)).symm | exact (if_pos ⟨h77, h86⟩).symm)
  ·
    subst ex1
    refine k_istore_n C0 [(3, _), (2, _), (0, _), (1, _)] dX6_pays_94 (by decide) rfl ?_
    refine k_aload_n C0 dX6_pays_95 2 rfl ?_
    refine k_aload_n C0 dX6_pays_96 2 rfl ?_
    refine r_get C0 K0 16 dX6_pays_97 (tC 232 rfl rfl) (by decide) rfl rfl ?_
    refine k_iload_n C0 dX6_pays_100 3 rfl ?_
    refine r_iald C0 K0 16 dX6_pays_101 (by decide) hk.1 (v := mu.1 16 i.toNatClampNeg) rfl ?_
    refine k_aload_n C0 dX6_pays_102 2 rfl ?_
    refine r_get C0 K0 17 dX6_pays_103 (tC 233 rfl rfl) (by decide) rfl rfl ?_
    refine k_iload_n C0 dX6_pays_106 3 rfl ?_
    refine r_iald C0 K0 17 dX6_pays_107 (by decide) hk.1 (v := mu.1 17 i.toNatClampNeg) rfl ?_
    refine k_join (fun x => x = (if (mu.1 21 i.toNatClampNeg = 1 ∧ mu.1 20 i.toNatClampNeg = 0) then mu.1 12 (5 * mu.1 16 i.toNatClampNeg + mu.1 17 i.toNatClampNeg).toNatClampNeg / 2 else mu.1 12 (5 * mu.1 16 i.toNatClampNeg + mu.1 17 i.toNatClampNeg).toNatClampNeg)) 119 0 (fun J2 => ?_) (fun x2 ex2 => ?_)
    ·
      refine k_iload_n C0 dX6_pays_108 0 rfl ?_
      refine k_if_eq C0 118 dX6_pays_109 (by decide) (fun h109 => ?_) (fun h109 => ?_)
      ·
        refine k_iload_n C0 dX6_pays_118 1 rfl ?_
        exact J2 _ (by first | exact sel0 h109 | exact sel1 h109)
      ·
        refine k_iload_n C0 dX6_pays_112 1 rfl ?_
        refine k_iconst C0 2 dX6_pays_113 (by decide) ?_
        refine k_idiv C0 dX6_pays_114 (by decide) ?_
        refine k_goto C0 119 dX6_pays_115 (by decide) ?_
        exact J2 _ (by first | exact sel0 h109 | exact sel1 h109)
    ·
      subst ex2
      refine k_join (fun x => x = (if mu.1 20 i.toNatClampNeg < 12 then 0 else 1)) 135 0 (fun J3 => ?_) (fun x3 ex3 => ?_)
      ·
        refine k_aload_n C0 dX6_pays_119 2 rfl ?_
        refine r_get C0 K0 20 dX6_pays_120 (tC 236 rfl rfl) (by decide) rfl rfl ?_
        refine k_iload_n C0 dX6_pays_123 3 rfl ?_
        refine r_iald C0 K0 20 dX6_pays_124 (by decide) hk.1 (v := mu.1 20 i.toNatClampNeg) rfl ?_
        refine k_bipush C0 12 dX6_pays_125 (by decide) ?_
        refine k_icmp_lt C0 134 dX6_pays_127 (by decide) (fun h127 => ?_) (fun h127 => ?_)
        ·
          refine k_iconst C0 0 dX6_pays_134 (by decide) ?_
          exact J3 _ (by first | exact (if_pos h127).symm | exact (if_neg h127).symm)
        ·
          refine k_iconst C0 1 dX6_pays_130 (by decide) ?_
          refine k_goto C0 135 dX6_pays_131 (by decide) ?_
          exact J3 _ (by first | exact (if_pos h127).symm | exact (if_neg h127).symm)
      ·
        subst ex3
        refine k_callV C0 K0 dX6_pays_135 (ct_sells l D Y A o al mu (mu.1 16 i.toNatClampNeg) (mu.1 17 i.toNatClampNeg) (if (mu.1 21 i.toNatClampNeg = 1 ∧ mu.1 20 i.toNatClampNeg = 0) then mu.1 12 (5 * mu.1 16 i.toNatClampNeg + mu.1 17 i.toNatClampNeg).toNatClampNeg / 2 else mu.1 12 (5 * mu.1 16 i.toNatClampNeg + mu.1 17 i.toNatClampNeg).toNatClampNeg) (if mu.1 20 i.toNatClampNeg < 12 then (0 : Int32) else 1) (hk.2 hf).2) gkX6_114 hyX6_sells (fun H hV => r_recv K0 hV) rfl (by exact Nat.le_of_ble_eq_true rfl) ⟨Nat.le_of_ble_eq_true rfl, Nat.le_of_ble_eq_true rfl⟩ ⟨Nat.le_of_ble_eq_true rfl, Nat.le_of_ble_eq_true rfl⟩ (fun E => kX_no E) (fun _ => k_W (V' := WR D Y A o al (r_payS mu i)) (by unfold r_payS r_payP r_payO r_payPr; exact fun H h => h) ?_)
        refine k_pop C0 dX6_pays_138 rfl ?_
        refine k_aload_n C0 dX6_pays_139 2 rfl ?_
        refine r_get C0 K0 20 dX6_pays_140 (tC 236 rfl rfl) (by decide) rfl rfl ?_
        refine k_iload_n C0 dX6_pays_143 3 rfl ?_
        refine k_dup2 C0 dX6_pays_144 rfl rfl ?_
        refine r_iald C0 K0 20 dX6_pays_145 (by decide) hk.1 (v := (r_payS mu i).1 20 i.toNatClampNeg) rfl ?_
        refine k_iconst C0 1 dX6_pays_146 (by decide) ?_
        refine k_iadd C0 dX6_pays_147 ?_
        refine r_iast C0 K0 20 dX6_pays_148 (by decide) hk.1 ?_
        refine k_aload_n C0 dX6_pays_149 2 rfl ?_
        refine r_get C0 K0 19 dX6_pays_150 (tC 235 rfl rfl) (by decide) rfl rfl ?_
        refine k_iload_n C0 dX6_pays_153 3 rfl ?_
        refine k_iconst C0 0 dX6_pays_154 (by decide) ?_
        refine r_iast C0 K0 19 dX6_pays_155 (by decide) hk.1 ?_
        refine k_aload_n C0 dX6_pays_156 2 rfl ?_
        refine r_get C0 K0 18 dX6_pays_157 (tC 234 rfl rfl) (by decide) rfl rfl ?_
        refine k_iload_n C0 dX6_pays_160 3 rfl ?_
        refine k_aload_n C0 dX6_pays_161 2 rfl ?_
        refine r_getI C0 K0 0 ((r_payS mu i).1 0 0) dX6_pays_162 (tC 216 rfl rfl) (by decide) rfl (rg_0 al _) (rI_tr (by decide) (rI_tr (by decide) rfl)) ?_
        refine k_bipush C0 30 dX6_pays_165 (by decide) ?_
        refine k_iadd C0 dX6_pays_167 ?_
        refine r_iast C0 K0 18 dX6_pays_168 (by decide) hk.1 ?_
        refine k_iconst C0 1 dX6_pays_169 (by decide) ?_
        exact k_zret C0 dX6_pays_170 hr rfl hlk (Nat.le_of_ble_eq_true rfl) (Nat.le_of_ble_eq_true rfl) () rfl (by unfold r_payT; exact fun H h => h)
theorem ct_pays (l : Launch) (D : va_G) (Y : Nat → Nat) (A : Nat → Prop) (o : Nat) (al : Nat → Nat) (mu : Rm) (i : Int32) (hk : r_payOK mu i) : CT l yX6_pays (Cond.code yX6_pays cX6_pays 4 (some .boolean)) 6 200 D Y A [.ref o, .int i] (WR D Y A o al mu) (fun _ : Unit => some (.int (r_pays mu i).1)) (fun _ : Unit => WR D Y A o al (r_pays mu i).2) noX 0 0 := by
  by_cases hf : mu.1 22 i.toNatClampNeg = 1
  · unfold r_pays
    rw [if_pos hf]
    exact ct_pays_0 l D Y A o al mu i hk hf
  · unfold r_pays
    rw [if_neg hf]
    exact ct_pays_1 l D Y A o al mu i hk hf
