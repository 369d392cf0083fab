def r_tx (mu : Rm) (ld pr : Int32) : Int32 := pr * mu.1 1 ld.toNatClampNeg / (100 + mu.1 1 ld.toNatClampNeg)
def r_sh (mu : Rm) (p ld pr old : Int32) : Int32 := (pr - r_tx mu ld pr) * (if ¬ old = 0 ∨ mu.1 6 (mu.1 11 p.toNatClampNeg).toNatClampNeg < 1000000 then 15 else 30) / 100
def r_row (mu : Rm) (p ld pr old : Int32) : Int64 := pr.toInt64 + ((r_tx mu ld pr).toInt64 <<< ((17 : Int32).toInt64 &&& 63)) + ((r_sh mu p ld pr old).toInt64 <<< ((32 : Int32).toInt64 &&& 63)) + ((mu.1 0 0 / 30).toInt64 <<< ((47 : Int32).toInt64 &&& 63)) + ((mu.1 11 p.toNatClampNeg).toInt64 <<< ((54 : Int32).toInt64 &&& 63)) + (ld.toInt64 <<< ((57 : Int32).toInt64 &&& 63)) + ((mu.1 2 ld.toNatClampNeg).toInt64 <<< ((60 : Int32).toInt64 &&& 63))
def r_sell1 (mu : Rm) (p ld pr old : Int32) : Rm := rR (rI mu 6 (mu.1 11 p.toNatClampNeg).toNatClampNeg (mu.1 6 (mu.1 11 p.toNatClampNeg).toNatClampNeg + (pr - r_tx mu ld pr))) (mu.1 13 0).toNatClampNeg (r_row mu p ld pr old)
def r_sell2 (mu : Rm) (p ld pr old : Int32) : Rm := r_counts (r_sell1 mu p ld pr old) (r_row mu p ld pr old) 1
def r_sells (mu : Rm) (p ld pr old : Int32) : Int32 × Rm := ((r_sell2 mu p ld pr old).1 13 0 + 1 - 1, rI (r_sell2 mu p ld pr old) 13 0 ((r_sell2 mu p ld pr old).1 13 0 + 1))
/-- what a sale asks of the numbers -/
def r_sellOK (mu : Rm) (p ld pr old : Int32) : Prop := vp_in p 20 ∧ vp_in ld 5 ∧ vp_in (mu.1 11 p.toNatClampNeg) 6 ∧ (¬ 100 + mu.1 1 ld.toNatClampNeg = 0) ∧ vp_in (mu.1 13 0) 5400 ∧ vp_in (r_part (r_row mu p ld pr old) 54 3) 6 ∧ vp_in (r_part (r_row mu p ld pr old) 57 3) 5
theorem gkX6_110 : GoodIn TT (wsV RX6 110 yX6_counts.cls yX6_counts (Cond.code yX6_counts cX6_counts 4 none :: TT)) := goodTV (tD 89 rfl rfl) (tD 91 rfl rfl) (tP 18 rfl) (tA 6 rfl rfl) (tD 92 rfl rfl)
theorem hyX6_counts : yX6_counts.cls ≠ "java/lang/invoke/MethodHandle" ∧ yX6_counts.cls ≠ "java/lang/invoke/VarHandle" ∧ (parseMethodDescriptor yX6_counts.desc).map (fun d => d.parameters.length) = some 2 := by decide +kernel
theorem gkX6_114 : GoodIn TT (wsV RX6 114 yX6_sells.cls yX6_sells (Cond.code yX6_sells cX6_sells 9 (some .int) :: TT)) := goodTV (tD 85 rfl rfl) (tD 87 rfl rfl) (tP 17 rfl) (tA 6 rfl rfl) (tD 88 rfl rfl)
theorem hyX6_sells : yX6_sells.cls ≠ "java/lang/invoke/MethodHandle" ∧ yX6_sells.cls ≠ "java/lang/invoke/VarHandle" ∧ (parseMethodDescriptor yX6_sells.desc).map (fun d => d.parameters.length) = some 4 := by decide +kernel
theorem gkX6_122 : GoodIn TT (wsV RX6 122 yX6_fails.cls yX6_fails (Cond.code yX6_fails cX6_fails 2 (some .int) :: TT)) := goodTV (tD 116 rfl rfl) (tD 118 rfl rfl) (tP 20 rfl) (tA 6 rfl rfl) (tD 119 rfl rfl)
theorem hyX6_fails : yX6_fails.cls ≠ "java/lang/invoke/MethodHandle" ∧ yX6_fails.cls ≠ "java/lang/invoke/VarHandle" ∧ (parseMethodDescriptor yX6_fails.desc).map (fun d => d.parameters.length) = some 1 := by decide +kernel
set_option maxRecDepth 100000 in
set_option maxHeartbeats 4000000 in
theorem ct_sells (l : Launch) (D : va_G) (Y : Nat → Nat) (A : Nat → Prop) (o : Nat) (al : Nat → Nat) (mu : Rm) (p ld pr old : Int32) (hk : r_sellOK mu p ld pr old) : CT l yX6_sells (Cond.code yX6_sells cX6_sells 9 (some .int)) 4 88 D Y A [.ref o, .int p, .int ld, .int pr, .int old] (WR D Y A o al mu) (fun _ : Unit => some (.int ((((r_sell2 mu p ld pr old).1 13 0) + 1) - 1))) (fun _ : Unit => WR D Y A o al ((r_sells mu p ld pr old).2)) noX 0 0 := by
  refine CT.of (by decide) (Nat.le_of_ble_eq_true rfl) ?_
  intro p_ e_ s_ m_ below_ meth_ c_ C0 K0 hr hlk htab hnm_
  refine k_aload_n C0 dX6_sells_0 0 rfl ?_
  refine r_get C0 K0 11 dX6_sells_1 (tC 227 rfl rfl) (by decide) rfl rfl ?_
  refine k_iload_n C0 dX6_sells_4 1 rfl ?_
  refine r_iald C0 K0 11 dX6_sells_5 (by decide) hk.1 (v := mu.1 11 p.toNatClampNeg) rfl ?_
  refine k_istore C0 [(5, _), (0, _), (1, _), (2, _), (3, _), (4, _)] dX6_sells_6 (by decide) rfl ?_
  refine k_iload_n C0 dX6_sells_8 4 rfl ?_
  refine k_aload_n C0 dX6_sells_9 1 rfl ?_
  refine r_get C0 K0 1 dX6_sells_10 (tC 217 rfl rfl) (by decide) rfl rfl ?_
  refine k_iload_n C0 dX6_sells_13 3 rfl ?_
  refine r_iald C0 K0 1 dX6_sells_14 (by decide) hk.2.1 (v := mu.1 1 ld.toNatClampNeg) rfl ?_
  refine k_imul C0 dX6_sells_15 ?_
  refine k_bipush C0 100 dX6_sells_16 (by decide) ?_
  refine k_aload_n C0 dX6_sells_18 1 rfl ?_
  refine r_get C0 K0 1 dX6_sells_19 (tC 217 rfl rfl) (by decide) rfl rfl ?_
  refine k_iload_n C0 dX6_sells_22 3 rfl ?_
  refine r_iald C0 K0 1 dX6_sells_23 (by decide) hk.2.1 (v := mu.1 1 ld.toNatClampNeg) rfl ?_
  refine k_iadd C0 dX6_sells_24 ?_
  refine k_idiv C0 dX6_sells_25 hk.2.2.2.1 ?_
  refine k_istore C0 [(6, _), (5, _), (0, _), (1, _), (2, _), (3, _), (4, _)] dX6_sells_26 (by decide) rfl ?_
  refine k_iload_n C0 dX6_sells_28 5 rfl ?_
  refine k_iload C0 dX6_sells_29 0 rfl ?_
  refine k_isub C0 dX6_sells_31 ?_
  refine k_istore C0 [(7, _), (6, _), (5, _), (0, _), (1, _), (2, _), (3, _), (4, _)] dX6_sells_32 (by decide) rfl ?_
  refine k_iload C0 dX6_sells_34 0 rfl ?_
  refine k_join (fun x => x = (if ¬ old = 0 ∨ mu.1 6 (mu.1 11 p.toNatClampNeg).toNatClampNeg < 1000000 then 15 else 30)) 60 0 (fun J1 => ?_) (fun x1 ex1 => ?_)
  ·
    refine k_iload C0 dX6_sells_36 7 rfl ?_
    refine k_if_ne C0 53 dX6_sells_38 (by decide) (fun h38 => ?_) (fun h38 => ?_)
    ·
      refine k_bipush C0 15 dX6_sells_53 (by decide) ?_
      refine k_goto C0 60 dX6_sells_55 (by decide) ?_
      exact J1 _ (by first | exact (if_pos (Or.inl h38)).symm | exact (if_pos (Or.inr (Int32.not_le.mp h50))).symm | exact (if_neg (fun z => z.elim (fun q => q h38) (fun q => Int32.not_lt.mpr h50 q))).symm)
    ·
      refine k_aload_n C0 dX6_sells_41 3 rfl ?_
      refine r_get C0 K0 6 dX6_sells_42 (tC 222 rfl rfl) (by decide) rfl rfl ?_
      refine k_iload C0 dX6_sells_45 2 rfl ?_
      refine r_iald C0 K0 6 dX6_sells_47 (by decide) hk.2.2.1 (v := mu.1 6 ((mu.1 11 p.toNatClampNeg).toNatClampNeg)) rfl ?_
      refine k_ldc C0 (v := 1000000) dX6_sells_48 (tD 71 rfl rfl) ?_
      refine k_icmp_ge C0 58 dX6_sells_50 (by decide) (fun h50 => ?_) (fun h50 => ?_)
      ·
        refine k_bipush C0 30 dX6_sells_58 (by decide) ?_
        exact J1 _ (by first | exact (if_pos (Or.inl h38)).symm | exact (if_pos (Or.inr (Int32.not_le.mp h50))).symm | exact (if_neg (fun z => z.elim (fun q => q h38) (fun q => Int32.not_lt.mpr h50 q))).symm)
      ·
        refine k_bipush C0 15 dX6_sells_53 (by decide) ?_
        refine k_goto C0 60 dX6_sells_55 (by decide) ?_
        exact J1 _ (by first | exact (if_pos (Or.inl h38)).symm | exact (if_pos (Or.inr (Int32.not_le.mp h50))).symm | exact (if_neg (fun z => z.elim (fun q => q h38) (fun q => Int32.not_lt.mpr h50 q))).symm)
  ·
    subst ex1
    refine k_imul C0 dX6_sells_60 ?_
    refine k_bipush C0 100 dX6_sells_61 (by decide) ?_
    refine k_idiv C0 dX6_sells_63 (by decide) ?_
    refine k_istore C0 [(8, _), (7, _), (6, _), (5, _), (0, _), (1, _), (2, _), (3, _), (4, _)] dX6_sells_64 (by decide) rfl ?_
    refine k_aload_n C0 dX6_sells_66 4 rfl ?_
    refine r_get C0 K0 6 dX6_sells_67 (tC 222 rfl rfl) (by decide) rfl rfl ?_
    refine k_iload C0 dX6_sells_70 3 rfl ?_
    refine k_dup2 C0 dX6_sells_72 rfl rfl ?_
    refine r_iald C0 K0 6 dX6_sells_73 (by decide) hk.2.2.1 (v := mu.1 6 ((mu.1 11 p.toNatClampNeg).toNatClampNeg)) rfl ?_
    refine k_iload C0 dX6_sells_74 1 rfl ?_
    refine k_iadd C0 dX6_sells_76 ?_
    refine r_iast C0 K0 6 dX6_sells_77 (by decide) hk.2.2.1 ?_
    refine k_aload_n C0 dX6_sells_78 4 rfl ?_
    refine r_get C0 K0 14 dX6_sells_79 (tC 230 rfl rfl) (by decide) rfl rfl ?_
    refine k_aload_n C0 dX6_sells_82 4 rfl ?_
    refine r_getI C0 K0 13 (mu.1 13 0) dX6_sells_83 (tC 229 rfl rfl) (by decide) rfl (rg_13 al _) (rI_tr (by decide) rfl) ?_
    refine k_iload_n C0 dX6_sells_86 7 rfl ?_
    refine k_i2l C0 dX6_sells_87 ?_
    refine k_iload C0 dX6_sells_88 2 rfl ?_
    refine k_i2l C0 dX6_sells_90 ?_
    refine k_bipush C0 17 dX6_sells_91 (by decide) ?_
    refine k_lshl C0 dX6_sells_93 ?_
    refine k_ladd C0 dX6_sells_94 ?_
    refine k_iload C0 dX6_sells_95 0 rfl ?_
    refine k_i2l C0 dX6_sells_97 ?_
    refine k_bipush C0 32 dX6_sells_98 (by decide) ?_
    refine k_lshl C0 dX6_sells_100 ?_
    refine k_ladd C0 dX6_sells_101 ?_
    refine k_aload_n C0 dX6_sells_102 4 rfl ?_
    refine r_getI C0 K0 0 (mu.1 0 0) dX6_sells_103 (tC 216 rfl rfl) (by decide) rfl (rg_0 al _) (rI_tr (by decide) rfl) ?_
    refine k_bipush C0 30 dX6_sells_106 (by decide) ?_
    refine k_idiv C0 dX6_sells_108 (by decide) ?_
    refine k_i2l C0 dX6_sells_109 ?_
    refine k_bipush C0 47 dX6_sells_110 (by decide) ?_
    refine k_lshl C0 dX6_sells_112 ?_
    refine k_ladd C0 dX6_sells_113 ?_
    refine k_iload C0 dX6_sells_114 3 rfl ?_
    refine k_i2l C0 dX6_sells_116 ?_
    refine k_bipush C0 54 dX6_sells_117 (by decide) ?_
    refine k_lshl C0 dX6_sells_119 ?_
    refine k_ladd C0 dX6_sells_120 ?_
    refine k_iload_n C0 dX6_sells_121 6 rfl ?_
    refine k_i2l C0 dX6_sells_122 ?_
    refine k_bipush C0 57 dX6_sells_123 (by decide) ?_
    refine k_lshl C0 dX6_sells_125 ?_
    refine k_ladd C0 dX6_sells_126 ?_
    refine k_aload_n C0 dX6_sells_127 4 rfl ?_
    refine r_get C0 K0 2 dX6_sells_128 (tC 218 rfl rfl) (by decide) rfl rfl ?_
    refine k_iload_n C0 dX6_sells_131 6 rfl ?_
    refine r_iald C0 K0 2 dX6_sells_132 (by decide) hk.2.1 (v := mu.1 2 ld.toNatClampNeg) (rI_tr (by decide) rfl) ?_
    refine k_i2l C0 dX6_sells_133 ?_
    refine k_bipush C0 60 dX6_sells_134 (by decide) ?_
    refine k_lshl C0 dX6_sells_136 ?_
    refine k_ladd C0 dX6_sells_137 ?_
    refine r_last C0 K0 dX6_sells_138 hk.2.2.2.2.1 ?_
    refine k_aload_n C0 dX6_sells_139 4 rfl ?_
    refine k_aload_n C0 dX6_sells_140 4 rfl ?_
    refine r_get C0 K0 14 dX6_sells_141 (tC 230 rfl rfl) (by decide) rfl rfl ?_
    refine k_aload_n C0 dX6_sells_144 4 rfl ?_
    refine r_getI C0 K0 13 (mu.1 13 0) dX6_sells_145 (tC 229 rfl rfl) (by decide) rfl (rg_13 al _) (rR_tr (rI_tr (by decide) rfl)) ?_
    refine r_lald C0 K0 dX6_sells_148 hk.2.2.2.2.1 (v := (((((pr.toInt64 + ((((pr * (mu.1 1 ld.toNatClampNeg)) / (100 + (mu.1 1 ld.toNatClampNeg))).toInt64) <<< ((17 : Int32).toInt64 &&& 63))) + (((((pr - ((pr * (mu.1 1 ld.toNatClampNeg)) / (100 + (mu.1 1 ld.toNatClampNeg)))) * (if ¬ old = 0 ∨ mu.1 6 (mu.1 11 p.toNatClampNeg).toNatClampNeg < 1000000 then 15 else 30)) / 100).toInt64) <<< ((32 : Int32).toInt64 &&& 63))) + ((((mu.1 0 0) / 30).toInt64) <<< ((47 : Int32).toInt64 &&& 63))) + (((mu.1 11 p.toNatClampNeg).toInt64) <<< ((54 : Int32).toInt64 &&& 63))) + (ld.toInt64 <<< ((57 : Int32).toInt64 &&& 63))) + (((mu.1 2 ld.toNatClampNeg).toInt64) <<< ((60 : Int32).toInt64 &&& 63))) (by exact pk_uLs) ?_
    refine k_iconst C0 1 dX6_sells_149 (by decide) ?_
    refine k_callV C0 K0 dX6_sells_150 (ct_counts l D Y A o al (rR (rI mu 6 ((mu.1 11 p.toNatClampNeg).toNatClampNeg) ((mu.1 6 ((mu.1 11 p.toNatClampNeg).toNatClampNeg)) + (pr - ((pr * (mu.1 1 ld.toNatClampNeg)) / (100 + (mu.1 1 ld.toNatClampNeg)))))) ((mu.1 13 0).toNatClampNeg) ((((((pr.toInt64 + ((((pr * (mu.1 1 ld.toNatClampNeg)) / (100 + (mu.1 1 ld.toNatClampNeg))).toInt64) <<< ((17 : Int32).toInt64 &&& 63))) + (((((pr - ((pr * (mu.1 1 ld.toNatClampNeg)) / (100 + (mu.1 1 ld.toNatClampNeg)))) * (if ¬ old = 0 ∨ mu.1 6 (mu.1 11 p.toNatClampNeg).toNatClampNeg < 1000000 then 15 else 30)) / 100).toInt64) <<< ((32 : Int32).toInt64 &&& 63))) + ((((mu.1 0 0) / 30).toInt64) <<< ((47 : Int32).toInt64 &&& 63))) + (((mu.1 11 p.toNatClampNeg).toInt64) <<< ((54 : Int32).toInt64 &&& 63))) + (ld.toInt64 <<< ((57 : Int32).toInt64 &&& 63))) + (((mu.1 2 ld.toNatClampNeg).toInt64) <<< ((60 : Int32).toInt64 &&& 63)))) ((((((pr.toInt64 + ((((pr * (mu.1 1 ld.toNatClampNeg)) / (100 + (mu.1 1 ld.toNatClampNeg))).toInt64) <<< ((17 : Int32).toInt64 &&& 63))) + (((((pr - ((pr * (mu.1 1 ld.toNatClampNeg)) / (100 + (mu.1 1 ld.toNatClampNeg)))) * (if ¬ old = 0 ∨ mu.1 6 (mu.1 11 p.toNatClampNeg).toNatClampNeg < 1000000 then 15 else 30)) / 100).toInt64) <<< ((32 : Int32).toInt64 &&& 63))) + ((((mu.1 0 0) / 30).toInt64) <<< ((47 : Int32).toInt64 &&& 63))) + (((mu.1 11 p.toNatClampNeg).toInt64) <<< ((54 : Int32).toInt64 &&& 63))) + (ld.toInt64 <<< ((57 : Int32).toInt64 &&& 63))) + (((mu.1 2 ld.toNatClampNeg).toInt64) <<< ((60 : Int32).toInt64 &&& 63))) 1 hk.2.2.2.2.2.1 hk.2.2.2.2.2.2) gkX6_110 hyX6_counts (fun H hV => r_recv K0 hV) rfl (by exact Nat.le_of_ble_eq_true rfl) ⟨Nat.le_of_ble_eq_true rfl, Nat.le_of_ble_eq_true rfl⟩ ⟨Nat.le_of_ble_eq_true rfl, Nat.le_of_ble_eq_true rfl⟩ (fun E => kX_no E) (fun _ => k_W (V' := WR D Y A o al (r_sell2 mu p ld pr old)) (by unfold r_sell2 r_sell1 r_row r_sh r_tx; exact fun H h => h) ?_)
    refine k_aload_n C0 dX6_sells_153 4 rfl ?_
    refine k_dup C0 dX6_sells_154 rfl ?_
    refine r_getI C0 K0 13 ((r_sell2 mu p ld pr old).1 13 0) dX6_sells_155 (tC 229 rfl rfl) (by decide) rfl (rg_13 al _) rfl ?_
    refine k_iconst C0 1 dX6_sells_158 (by decide) ?_
    refine k_iadd C0 dX6_sells_159 ?_
    refine r_putS C0 K0 13 dX6_sells_160 (tC 229 rfl rfl) (by decide) rfl rfl (by decide +kernel) (rs_13 al _ _) (by decide) ?_
    refine k_aload_n C0 dX6_sells_163 4 rfl ?_
    refine r_getI C0 K0 13 (((r_sell2 mu p ld pr old).1 13 0) + 1) dX6_sells_164 (tC 229 rfl rfl) (by decide) rfl (rg_13 al _) rI_at ?_
    refine k_iconst C0 1 dX6_sells_167 (by decide) ?_
    refine k_isub C0 dX6_sells_168 ?_
    exact k_iret C0 dX6_sells_169 hr hlk (Nat.le_of_ble_eq_true rfl) (Nat.le_of_ble_eq_true rfl) () rfl (fun H h => h)
set_option maxRecDepth 100000 in
set_option maxHeartbeats 4000000 in
theorem ct_buy_ok (l : Launch) (D : va_G) (Y : Nat → Nat) (A : Nat → Prop) (o : Nat) (al : Nat → Nat) (mu : Rm) (a b : Int32) (a1 : 0 ≤ a) (a2 : a ≤ mu.1 10 0 - 1) (b1 : 0 ≤ b) (b2 : b ≤ 4) (hi : vp_in (5 * a + b) 100) (hk : r_sellOK (rI mu 25 0 0) a b (mu.1 12 (5 * a + b).toNatClampNeg) 0) : CT l yX6_buy (Cond.code yX6_buy cX6_buy 3 (some .int)) 5 116 D Y A [.ref o, .int a, .int b] (WR D Y A o al mu) (fun _ : Unit => some (.int ((r_sells (rI mu 25 0 0) a b (mu.1 12 (((5 * a) + b).toNatClampNeg)) (0 : Int32)).1))) (fun _ : Unit => WR D Y A o al ((r_sells (rI mu 25 0 0) a b (mu.1 12 (((5 * a) + b).toNatClampNeg)) (0 : Int32)).2)) noX 0 0 := by
  refine CT.of (by decide) (Nat.le_of_ble_eq_true rfl) ?_
  intro p_ e_ s_ m_ below_ meth_ c_ C0 K0 hr hlk htab hnm_
  refine k_aload_n C0 dX6_buy_0 0 rfl ?_
  refine k_iload_n C0 dX6_buy_1 1 rfl ?_
  refine k_iconst C0 0 dX6_buy_2 (by decide) ?_
  refine k_aload_n C0 dX6_buy_3 0 rfl ?_
  refine r_getI C0 K0 10 (mu.1 10 0) dX6_buy_4 (tC 226 rfl rfl) (by decide) rfl (rg_10 al _) rfl ?_
  refine k_iconst C0 1 dX6_buy_7 (by decide) ?_
  refine k_isub C0 dX6_buy_8 ?_
  refine k_callS C0 K0 dX6_buy_9 (ct_in1 l D Y A _ a (0 : Int32) ((mu.1 10 0) - 1) a1 a2) gkX6_69 hyX6_in rfl (by exact Nat.le_of_ble_eq_true rfl) ⟨Nat.le_of_ble_eq_true rfl, Nat.le_of_ble_eq_true rfl⟩ ⟨Nat.le_of_ble_eq_true rfl, Nat.le_of_ble_eq_true rfl⟩ (fun E => kX_no E) (fun u => ?_)
  refine k_if_ne C0 19 dX6_buy_12 (by decide) (fun _ => ?_) (fun zz => absurd zz (by decide))
  refine k_iload_n C0 dX6_buy_19 2 rfl ?_
  refine k_iconst C0 0 dX6_buy_20 (by decide) ?_
  refine k_iconst C0 4 dX6_buy_21 (by decide) ?_
  refine k_callS C0 K0 dX6_buy_22 (ct_in1 l D Y A _ b (0 : Int32) (4 : Int32) b1 b2) gkX6_69 hyX6_in rfl (by exact Nat.le_of_ble_eq_true rfl) ⟨Nat.le_of_ble_eq_true rfl, Nat.le_of_ble_eq_true rfl⟩ ⟨Nat.le_of_ble_eq_true rfl, Nat.le_of_ble_eq_true rfl⟩ (fun E => kX_no E) (fun u => ?_)
  refine k_if_ne C0 32 dX6_buy_25 (by decide) (fun _ => ?_) (fun zz => absurd zz (by decide))
  refine k_iconst C0 0 dX6_buy_32 (by decide) ?_
  refine r_putS C0 K0 25 dX6_buy_33 (tD 1 rfl rfl) (by decide) rfl rfl (by decide +kernel) (rs_25 al _ _) (by decide) ?_
  refine k_aload_n C0 dX6_buy_36 0 rfl ?_
  refine r_getI C0 K0 25 0 dX6_buy_37 (tD 1 rfl rfl) (by decide) rfl (rg_25 al _) rI_at ?_
  refine k_if_ne C0 63 dX6_buy_40 (by decide) (fun zz => absurd (by decide) zz) (fun _ => ?_)
  refine k_aload_n C0 dX6_buy_43 0 rfl ?_
  refine k_iload_n C0 dX6_buy_44 1 rfl ?_
  refine k_iload_n C0 dX6_buy_45 2 rfl ?_
  refine k_aload_n C0 dX6_buy_46 0 rfl ?_
  refine r_get C0 K0 12 dX6_buy_47 (tC 228 rfl rfl) (by decide) rfl rfl ?_
  refine k_iconst C0 5 dX6_buy_50 (by decide) ?_
  refine k_iload_n C0 dX6_buy_51 1 rfl ?_
  refine k_imul C0 dX6_buy_52 ?_
  refine k_iload_n C0 dX6_buy_53 2 rfl ?_
  refine k_iadd C0 dX6_buy_54 ?_
  refine r_iald C0 K0 12 dX6_buy_55 (by decide) hi (v := mu.1 12 (((5 * a) + b).toNatClampNeg)) (rI_tr (by decide) rfl) ?_
  refine k_iconst C0 0 dX6_buy_56 (by decide) ?_
  refine k_callV C0 K0 dX6_buy_57 (ct_sells l D Y A o al (rI mu 25 0 0) a b (mu.1 12 (((5 * a) + b).toNatClampNeg)) (0 : Int32) hk) gkX6_114 hyX6_sells (fun H hV => r_recv K0 hV) rfl (by exact Nat.le_of_ble_eq_true rfl) ⟨Nat.le_of_ble_eq_true rfl, Nat.le_of_ble_eq_true rfl⟩ ⟨Nat.le_of_ble_eq_true rfl, Nat.le_of_ble_eq_true rfl⟩ (fun E => kX_no E) (fun u => ?_)
  refine k_goto C0 64 dX6_buy_60 (by decide) ?_
  exact k_iret C0 dX6_buy_64 hr hlk (Nat.le_of_ble_eq_true rfl) (Nat.le_of_ble_eq_true rfl) () rfl (fun H h => h)
set_option maxRecDepth 100000 in
set_option maxHeartbeats 4000000 in
theorem ct_buy_1 (l : Launch) (D : va_G) (Y : Nat → Nat) (A : Nat → Prop) (o : Nat) (al : Nat → Nat) (mu : Rm) (a b : Int32) (a1 : ¬ (0 ≤ a ∧ a ≤ mu.1 10 0 - 1)) : CT l yX6_buy (Cond.code yX6_buy cX6_buy 3 (some .int)) 1 22 D Y A [.ref o, .int a, .int b] (WR D Y A o al mu) (fun _ : Unit => some (.int 0)) (fun _ : Unit => WR D Y A o al (rI mu 25 0 1)) noX 0 0 := by
  refine CT.of (by decide) (Nat.le_of_ble_eq_true rfl) ?_
  intro p_ e_ s_ m_ below_ meth_ c_ C0 K0 hr hlk htab hnm_
  refine k_aload_n C0 dX6_buy_0 0 rfl ?_
  refine k_iload_n C0 dX6_buy_1 1 rfl ?_
  refine k_iconst C0 0 dX6_buy_2 (by decide) ?_
  refine k_aload_n C0 dX6_buy_3 0 rfl ?_
  refine r_getI C0 K0 10 (mu.1 10 0) dX6_buy_4 (tC 226 rfl rfl) (by decide) rfl (rg_10 al _) rfl ?_
  refine k_iconst C0 1 dX6_buy_7 (by decide) ?_
  refine k_isub C0 dX6_buy_8 ?_
  refine k_callS C0 K0 dX6_buy_9 (ct_in0 l D Y A _ a (0 : Int32) ((mu.1 10 0) - 1) a1) gkX6_69 hyX6_in rfl (by exact Nat.le_of_ble_eq_true rfl) ⟨Nat.le_of_ble_eq_true rfl, Nat.le_of_ble_eq_true rfl⟩ ⟨Nat.le_of_ble_eq_true rfl, Nat.le_of_ble_eq_true rfl⟩ (fun E => kX_no E) (fun u => ?_)
  refine k_if_ne C0 19 dX6_buy_12 (by decide) (fun zz => absurd (by decide) zz) (fun _ => ?_)
  refine k_iconst C0 1 dX6_buy_15 (by decide) ?_
  refine k_goto C0 33 dX6_buy_16 (by decide) ?_
  refine r_putS C0 K0 25 dX6_buy_33 (tD 1 rfl rfl) (by decide) rfl rfl (by decide +kernel) (rs_25 al _ _) (by decide) ?_
  refine k_aload_n C0 dX6_buy_36 0 rfl ?_
  refine r_getI C0 K0 25 1 dX6_buy_37 (tD 1 rfl rfl) (by decide) rfl (rg_25 al _) rI_at ?_
  refine k_if_ne C0 63 dX6_buy_40 (by decide) (fun _ => ?_) (fun zz => absurd zz (by decide))
  refine k_iconst C0 0 dX6_buy_63 (by decide) ?_
  exact k_iret C0 dX6_buy_64 hr hlk (Nat.le_of_ble_eq_true rfl) (Nat.le_of_ble_eq_true rfl) () rfl (fun H h => h)
set_option maxRecDepth 100000 in
set_option maxHeartbeats 4000000 in
theorem ct_buy_2 (l : Launch) (D : va_G) (Y : Nat → Nat) (A : Nat → Prop) (o : Nat) (al : Nat → Nat) (mu : Rm) (a b : Int32) (a1 : 0 ≤ a) (a2 : a ≤ mu.1 10 0 - 1) (b1 : ¬ (0 ≤ b ∧ b ≤ 4)) : CT l yX6_buy (Cond.code yX6_buy cX6_buy 3 (some .int)) 1 22 D Y A [.ref o, .int a, .int b] (WR D Y A o al mu) (fun _ : Unit => some (.int 0)) (fun _ : Unit => WR D Y A o al (rI mu 25 0 2)) noX 0 0 := by
  refine CT.of (by decide) (Nat.le_of_ble_eq_true rfl) ?_
  intro p_ e_ s_ m_ below_ meth_ c_ C0 K0 hr hlk htab hnm_
  refine k_aload_n C0 dX6_buy_0 0 rfl ?_
  refine k_iload_n C0 dX6_buy_1 1 rfl ?_
  refine k_iconst C0 0 dX6_buy_2 (by decide) ?_
  refine k_aload_n C0 dX6_buy_3 0 rfl ?_
  refine r_getI C0 K0 10 (mu.1 10 0) dX6_buy_4 (tC 226 rfl rfl) (by decide) rfl (rg_10 al _) rfl ?_
  refine k_iconst C0 1 dX6_buy_7 (by decide) ?_
  refine k_isub C0 dX6_buy_8 ?_
  refine k_callS C0 K0 dX6_buy_9 (ct_in1 l D Y A _ a (0 : Int32) ((mu.1 10 0) - 1) a1 a2) gkX6_69 hyX6_in rfl (by exact Nat.le_of_ble_eq_true rfl) ⟨Nat.le_of_ble_eq_true rfl, Nat.le_of_ble_eq_true rfl⟩ ⟨Nat.le_of_ble_eq_true rfl, Nat.le_of_ble_eq_true rfl⟩ (fun E => kX_no E) (fun u => ?_)
  refine k_if_ne C0 19 dX6_buy_12 (by decide) (fun _ => ?_) (fun zz => absurd zz (by decide))
  refine k_iload_n C0 dX6_buy_19 2 rfl ?_
  refine k_iconst C0 0 dX6_buy_20 (by decide) ?_
  refine k_iconst C0 4 dX6_buy_21 (by decide) ?_
  refine k_callS C0 K0 dX6_buy_22 (ct_in0 l D Y A _ b (0 : Int32) (4 : Int32) b1) gkX6_69 hyX6_in rfl (by exact Nat.le_of_ble_eq_true rfl) ⟨Nat.le_of_ble_eq_true rfl, Nat.le_of_ble_eq_true rfl⟩ ⟨Nat.le_of_ble_eq_true rfl, Nat.le_of_ble_eq_true rfl⟩ (fun E => kX_no E) (fun u => ?_)
  refine k_if_ne C0 32 dX6_buy_25 (by decide) (fun zz => absurd (by decide) zz) (fun _ => ?_)
  refine k_iconst C0 2 dX6_buy_28 (by decide) ?_
  refine k_goto C0 33 dX6_buy_29 (by decide) ?_
  refine r_putS C0 K0 25 dX6_buy_33 (tD 1 rfl rfl) (by decide) rfl rfl (by decide +kernel) (rs_25 al _ _) (by decide) ?_
  refine k_aload_n C0 dX6_buy_36 0 rfl ?_
  refine r_getI C0 K0 25 2 dX6_buy_37 (tD 1 rfl rfl) (by decide) rfl (rg_25 al _) rI_at ?_
  refine k_if_ne C0 63 dX6_buy_40 (by decide) (fun _ => ?_) (fun zz => absurd zz (by decide))
  refine k_iconst C0 0 dX6_buy_63 (by decide) ?_
  exact k_iret C0 dX6_buy_64 hr hlk (Nat.le_of_ble_eq_true rfl) (Nat.le_of_ble_eq_true rfl) () rfl (fun H h => h)
set_option maxRecDepth 100000 in
set_option maxHeartbeats 4000000 in
theorem ct_refund_1 (l : Launch) (D : va_G) (Y : Nat → Nat) (A : Nat → Prop) (o : Nat) (al : Nat → Nat) (mu : Rm) (x : Int32) (h : ¬ (0 ≤ x ∧ x ≤ mu.1 13 0 - 1)) : CT l yX6_refund (Cond.code yX6_refund cX6_refund 2 (some .int)) 2 43 D Y A [.ref o, .int x] (WR D Y A o al mu) (fun _ : Unit => some (.int 0)) (fun _ : Unit => WR D Y A o al (rI mu 25 0 1)) noX 0 0 := by
  refine CT.of (by decide) (Nat.le_of_ble_eq_true rfl) ?_
  intro p_ e_ s_ m_ below_ meth_ c_ C0 K0 hr hlk htab hnm_
  refine k_aload_n C0 dX6_refund_0 0 rfl ?_
  refine k_iload_n C0 dX6_refund_1 1 rfl ?_
  refine k_callV C0 K0 dX6_refund_2 (ct_isSale0 l D Y A o al mu x h) gkX6_118 hyX6_isSale (fun H hV => r_recv K0 hV) rfl (by exact Nat.le_of_ble_eq_true rfl) ⟨Nat.le_of_ble_eq_true rfl, Nat.le_of_ble_eq_true rfl⟩ ⟨Nat.le_of_ble_eq_true rfl, Nat.le_of_ble_eq_true rfl⟩ (fun E => kX_no E) (fun u => ?_)
  refine k_if_ne C0 10 dX6_refund_5 (by decide) (fun zz => absurd (by decide) zz) (fun _ => ?_)
  refine k_iconst C0 0 dX6_refund_8 (by decide) ?_
  exact k_iret C0 dX6_refund_9 hr hlk (Nat.le_of_ble_eq_true rfl) (Nat.le_of_ble_eq_true rfl) () rfl (fun H h => h)
set_option maxRecDepth 100000 in
set_option maxHeartbeats 4000000 in
theorem ct_refund_2a (l : Launch) (D : va_G) (Y : Nat → Nat) (A : Nat → Prop) (o : Nat) (al : Nat → Nat) (mu : Rm) (x : Int32) (h1 : 0 ≤ x) (h2 : x ≤ mu.1 13 0 - 1) (hi : vp_in x 5400) (hr_ : r_part (mu.2 x.toNatClampNeg) 61 1 = 1) : CT l yX6_refund (Cond.code yX6_refund cX6_refund 2 (some .int)) 2 43 D Y A [.ref o, .int x] (WR D Y A o al mu) (fun _ : Unit => some (.int 0)) (fun _ : Unit => WR D Y A o al (rI (rI mu 25 0 0) 25 0 (2 : Int32))) noX 0 0 := by
  refine CT.of (by decide) (Nat.le_of_ble_eq_true rfl) ?_
  intro p_ e_ s_ m_ below_ meth_ c_ C0 K0 hr hlk htab hnm_
  refine k_aload_n C0 dX6_refund_0 0 rfl ?_
  refine k_iload_n C0 dX6_refund_1 1 rfl ?_
  refine k_callV C0 K0 dX6_refund_2 (ct_isSale1 l D Y A o al mu x h1 h2) gkX6_118 hyX6_isSale (fun H hV => r_recv K0 hV) rfl (by exact Nat.le_of_ble_eq_true rfl) ⟨Nat.le_of_ble_eq_true rfl, Nat.le_of_ble_eq_true rfl⟩ ⟨Nat.le_of_ble_eq_true rfl, Nat.le_of_ble_eq_true rfl⟩ (fun E => kX_no E) (fun u => ?_)
  refine k_if_ne C0 10 dX6_refund_5 (by decide) (fun _ => ?_) (fun zz => absurd zz (by decide))
  refine k_aload_n C0 dX6_refund_10 0 rfl ?_
  refine r_get C0 K0 14 dX6_refund_11 (tC 230 rfl rfl) (by decide) rfl rfl ?_
  refine k_iload_n C0 dX6_refund_14 1 rfl ?_
  refine r_lald C0 K0 dX6_refund_15 hi (v := mu.2 x.toNatClampNeg) rfl ?_
  refine k_bipush C0 61 dX6_refund_16 (by decide) ?_
  refine k_iconst C0 1 dX6_refund_18 (by decide) ?_
  refine k_callS C0 K0 dX6_refund_19 (ct_part l D Y A _ (mu.2 x.toNatClampNeg) (61 : Int32) (1 : Int32)) gkX6_81 hyX6_part rfl (by exact Nat.le_of_ble_eq_true rfl) ⟨Nat.le_of_ble_eq_true rfl, Nat.le_of_ble_eq_true rfl⟩ ⟨Nat.le_of_ble_eq_true rfl, Nat.le_of_ble_eq_true rfl⟩ (fun E => kX_no E) (fun u => ?_)
  refine k_iconst C0 1 dX6_refund_22 (by decide) ?_
  refine k_icmp_eq C0 51 dX6_refund_23 (by decide) (fun _ => ?_) (fun zz => absurd hr_ zz)
  refine k_aload_n C0 dX6_refund_51 0 rfl ?_
  refine k_iconst C0 2 dX6_refund_52 (by decide) ?_
  refine k_callV C0 K0 dX6_refund_53 (ct_fails l D Y A o al (rI mu 25 0 0) (2 : Int32)) gkX6_122 hyX6_fails (fun H hV => r_recv K0 hV) rfl (by exact Nat.le_of_ble_eq_true rfl) ⟨Nat.le_of_ble_eq_true rfl, Nat.le_of_ble_eq_true rfl⟩ ⟨Nat.le_of_ble_eq_true rfl, Nat.le_of_ble_eq_true rfl⟩ (fun E => kX_no E) (fun u => ?_)
  exact k_iret C0 dX6_refund_56 hr hlk (Nat.le_of_ble_eq_true rfl) (Nat.le_of_ble_eq_true rfl) () rfl (fun H h => h)
set_option maxRecDepth 100000 in
set_option maxHeartbeats 4000000 in
theorem ct_refund_2b (l : Launch) (D : va_G) (Y : Nat → Nat) (A : Nat → Prop) (o : Nat) (al : Nat → Nat) (mu : Rm) (x : Int32) (h1 : 0 ≤ x) (h2 : x ≤ mu.1 13 0 - 1) (hi : vp_in x 5400) (hr_ : ¬ r_part (mu.2 x.toNatClampNeg) 61 1 = 1) (ho : ¬ mu.1 0 0 / 30 - r_part (mu.2 x.toNatClampNeg) 47 7 ≤ 3) : CT l yX6_refund (Cond.code yX6_refund cX6_refund 2 (some .int)) 2 43 D Y A [.ref o, .int x] (WR D Y A o al mu) (fun _ : Unit => some (.int 0)) (fun _ : Unit => WR D Y A o al (rI (rI mu 25 0 0) 25 0 (2 : Int32))) noX 0 0 := by
  refine CT.of (by decide) (Nat.le_of_ble_eq_true rfl) ?_
  intro p_ e_ s_ m_ below_ meth_ c_ C0 K0 hr hlk htab hnm_
  refine k_aload_n C0 dX6_refund_0 0 rfl ?_
  refine k_iload_n C0 dX6_refund_1 1 rfl ?_
  refine k_callV C0 K0 dX6_refund_2 (ct_isSale1 l D Y A o al mu x h1 h2) gkX6_118 hyX6_isSale (fun H hV => r_recv K0 hV) rfl (by exact Nat.le_of_ble_eq_true rfl) ⟨Nat.le_of_ble_eq_true rfl, Nat.le_of_ble_eq_true rfl⟩ ⟨Nat.le_of_ble_eq_true rfl, Nat.le_of_ble_eq_true rfl⟩ (fun E => kX_no E) (fun u => ?_)
  refine k_if_ne C0 10 dX6_refund_5 (by decide) (fun _ => ?_) (fun zz => absurd zz (by decide))
  refine k_aload_n C0 dX6_refund_10 0 rfl ?_
  refine r_get C0 K0 14 dX6_refund_11 (tC 230 rfl rfl) (by decide) rfl rfl ?_
  refine k_iload_n C0 dX6_refund_14 1 rfl ?_
  refine r_lald C0 K0 dX6_refund_15 hi (v := mu.2 x.toNatClampNeg) rfl ?_
  refine k_bipush C0 61 dX6_refund_16 (by decide) ?_
  refine k_iconst C0 1 dX6_refund_18 (by decide) ?_
  refine k_callS C0 K0 dX6_refund_19 (ct_part l D Y A _ (mu.2 x.toNatClampNeg) (61 : Int32) (1 : Int32)) gkX6_81 hyX6_part rfl (by exact Nat.le_of_ble_eq_true rfl) ⟨Nat.le_of_ble_eq_true rfl, Nat.le_of_ble_eq_true rfl⟩ ⟨Nat.le_of_ble_eq_true rfl, Nat.le_of_ble_eq_true rfl⟩ (fun E => kX_no E) (fun u => ?_)
  refine k_iconst C0 1 dX6_refund_22 (by decide) ?_
  refine k_icmp_eq C0 51 dX6_refund_23 (by decide) (fun zz => absurd zz hr_) (fun _ => ?_)
  refine k_aload_n C0 dX6_refund_26 0 rfl ?_
  refine r_getI C0 K0 0 (mu.1 0 0) dX6_refund_27 (tC 216 rfl rfl) (by decide) rfl (rg_0 al _) (rI_tr (by decide) rfl) ?_
  refine k_bipush C0 30 dX6_refund_30 (by decide) ?_
  refine k_idiv C0 dX6_refund_32 (by decide) ?_
  refine k_aload_n C0 dX6_refund_33 0 rfl ?_
  refine r_get C0 K0 14 dX6_refund_34 (tC 230 rfl rfl) (by decide) rfl rfl ?_
  refine k_iload_n C0 dX6_refund_37 1 rfl ?_
  refine r_lald C0 K0 dX6_refund_38 hi (v := mu.2 x.toNatClampNeg) rfl ?_
  refine k_bipush C0 47 dX6_refund_39 (by decide) ?_
  refine k_bipush C0 7 dX6_refund_41 (by decide) ?_
  refine k_callS C0 K0 dX6_refund_43 (ct_part l D Y A _ (mu.2 x.toNatClampNeg) (47 : Int32) (7 : Int32)) gkX6_81 hyX6_part rfl (by exact Nat.le_of_ble_eq_true rfl) ⟨Nat.le_of_ble_eq_true rfl, Nat.le_of_ble_eq_true rfl⟩ ⟨Nat.le_of_ble_eq_true rfl, Nat.le_of_ble_eq_true rfl⟩ (fun E => kX_no E) (fun u => ?_)
  refine k_isub C0 dX6_refund_46 ?_
  refine k_iconst C0 3 dX6_refund_47 (by decide) ?_
  refine k_icmp_le C0 57 dX6_refund_48 (by decide) (fun zz => absurd zz ho) (fun _ => ?_)
  refine k_aload_n C0 dX6_refund_51 0 rfl ?_
  refine k_iconst C0 2 dX6_refund_52 (by decide) ?_
  refine k_callV C0 K0 dX6_refund_53 (ct_fails l D Y A o al (rI mu 25 0 0) (2 : Int32)) gkX6_122 hyX6_fails (fun H hV => r_recv K0 hV) rfl (by exact Nat.le_of_ble_eq_true rfl) ⟨Nat.le_of_ble_eq_true rfl, Nat.le_of_ble_eq_true rfl⟩ ⟨Nat.le_of_ble_eq_true rfl, Nat.le_of_ble_eq_true rfl⟩ (fun E => kX_no E) (fun u => ?_)
  exact k_iret C0 dX6_refund_56 hr hlk (Nat.le_of_ble_eq_true rfl) (Nat.le_of_ble_eq_true rfl) () rfl (fun H h => h)
set_option maxRecDepth 100000 in
set_option maxHeartbeats 4000000 in
theorem ct_refund_ok (l : Launch) (D : va_G) (Y : Nat → Nat) (A : Nat → Prop) (o : Nat) (al : Nat → Nat) (mu : Rm) (x : Int32) (h1 : 0 ≤ x) (h2 : x ≤ mu.1 13 0 - 1) (hi : vp_in x 5400) (hr_ : ¬ r_part (mu.2 x.toNatClampNeg) 61 1 = 1) (ho : mu.1 0 0 / 30 - r_part (mu.2 x.toNatClampNeg) 47 7 ≤ 3) (hm : vp_in (r_part (mu.2 x.toNatClampNeg) 54 3) 6) (hl : vp_in (r_part (mu.2 x.toNatClampNeg) 57 3) 5) : CT l yX6_refund (Cond.code yX6_refund cX6_refund 2 (some .int)) 4 88 D Y A [.ref o, .int x] (WR D Y A o al mu) (fun _ : Unit => some (.int (r_price (((r_counts (rI mu 25 0 0) (mu.2 x.toNatClampNeg) (-1)).2 x.toNatClampNeg) ||| 2305843009213693952)))) (fun _ : Unit => WR D Y A o al (rR (r_counts (rI mu 25 0 0) (mu.2 x.toNatClampNeg) (-1)) x.toNatClampNeg (((r_counts (rI mu 25 0 0) (mu.2 x.toNatClampNeg) (-1)).2 x.toNatClampNeg) ||| 2305843009213693952))) noX 0 0 := by
  refine CT.of (by decide) (Nat.le_of_ble_eq_true rfl) ?_
  intro p_ e_ s_ m_ below_ meth_ c_ C0 K0 hr hlk htab hnm_
  refine k_aload_n C0 dX6_refund_0 0 rfl ?_
  refine k_iload_n C0 dX6_refund_1 1 rfl ?_
  refine k_callV C0 K0 dX6_refund_2 (ct_isSale1 l D Y A o al mu x h1 h2) gkX6_118 hyX6_isSale (fun H hV => r_recv K0 hV) rfl (by exact Nat.le_of_ble_eq_true rfl) ⟨Nat.le_of_ble_eq_true rfl, Nat.le_of_ble_eq_true rfl⟩ ⟨Nat.le_of_ble_eq_true rfl, Nat.le_of_ble_eq_true rfl⟩ (fun E => kX_no E) (fun u => ?_)
  refine k_if_ne C0 10 dX6_refund_5 (by decide) (fun _ => ?_) (fun zz => absurd zz (by decide))
  refine k_aload_n C0 dX6_refund_10 0 rfl ?_
  refine r_get C0 K0 14 dX6_refund_11 (tC 230 rfl rfl) (by decide) rfl rfl ?_
  refine k_iload_n C0 dX6_refund_14 1 rfl ?_
  refine r_lald C0 K0 dX6_refund_15 hi (v := mu.2 x.toNatClampNeg) rfl ?_
  refine k_bipush C0 61 dX6_refund_16 (by decide) ?_
  refine k_iconst C0 1 dX6_refund_18 (by decide) ?_
  refine k_callS C0 K0 dX6_refund_19 (ct_part l D Y A _ (mu.2 x.toNatClampNeg) (61 : Int32) (1 : Int32)) gkX6_81 hyX6_part rfl (by exact Nat.le_of_ble_eq_true rfl) ⟨Nat.le_of_ble_eq_true rfl, Nat.le_of_ble_eq_true rfl⟩ ⟨Nat.le_of_ble_eq_true rfl, Nat.le_of_ble_eq_true rfl⟩ (fun E => kX_no E) (fun u => ?_)
  refine k_iconst C0 1 dX6_refund_22 (by decide) ?_
  refine k_icmp_eq C0 51 dX6_refund_23 (by decide) (fun zz => absurd zz hr_) (fun _ => ?_)
  refine k_aload_n C0 dX6_refund_26 0 rfl ?_
  refine r_getI C0 K0 0 (mu.1 0 0) dX6_refund_27 (tC 216 rfl rfl) (by decide) rfl (rg_0 al _) (rI_tr (by decide) rfl) ?_
  refine k_bipush C0 30 dX6_refund_30 (by decide) ?_
  refine k_idiv C0 dX6_refund_32 (by decide) ?_
  refine k_aload_n C0 dX6_refund_33 0 rfl ?_
  refine r_get C0 K0 14 dX6_refund_34 (tC 230 rfl rfl) (by decide) rfl rfl ?_
  refine k_iload_n C0 dX6_refund_37 1 rfl ?_
  refine r_lald C0 K0 dX6_refund_38 hi (v := mu.2 x.toNatClampNeg) rfl ?_
  refine k_bipush C0 47 dX6_refund_39 (by decide) ?_
  refine k_bipush C0 7 dX6_refund_41 (by decide) ?_
  refine k_callS C0 K0 dX6_refund_43 (ct_part l D Y A _ (mu.2 x.toNatClampNeg) (47 : Int32) (7 : Int32)) gkX6_81 hyX6_part rfl (by exact Nat.le_of_ble_eq_true rfl) ⟨Nat.le_of_ble_eq_true rfl, Nat.le_of_ble_eq_true rfl⟩ ⟨Nat.le_of_ble_eq_true rfl, Nat.le_of_ble_eq_true rfl⟩ (fun E => kX_no E) (fun u => ?_)
  refine k_isub C0 dX6_refund_46 ?_
  refine k_iconst C0 3 dX6_refund_47 (by decide) ?_
  refine k_icmp_le C0 57 dX6_refund_48 (by decide) (fun _ => ?_) (fun zz => absurd ho zz)
  refine k_aload_n C0 dX6_refund_57 0 rfl ?_
  refine k_aload_n C0 dX6_refund_58 0 rfl ?_
  refine r_get C0 K0 14 dX6_refund_59 (tC 230 rfl rfl) (by decide) rfl rfl ?_
  refine k_iload_n C0 dX6_refund_62 1 rfl ?_
  refine r_lald C0 K0 dX6_refund_63 hi (v := mu.2 x.toNatClampNeg) rfl ?_
  refine k_iconst C0 (-1) dX6_refund_64 (by decide) ?_
  refine k_callV C0 K0 dX6_refund_65 (ct_counts l D Y A o al (rI mu 25 0 0) (mu.2 x.toNatClampNeg) (-1) hm hl) gkX6_110 hyX6_counts (fun H hV => r_recv K0 hV) rfl (by exact Nat.le_of_ble_eq_true rfl) ⟨Nat.le_of_ble_eq_true rfl, Nat.le_of_ble_eq_true rfl⟩ ⟨Nat.le_of_ble_eq_true rfl, Nat.le_of_ble_eq_true rfl⟩ (fun E => kX_no E) (fun u => ?_)
  refine k_aload_n C0 dX6_refund_68 0 rfl ?_
  refine r_get C0 K0 14 dX6_refund_69 (tC 230 rfl rfl) (by decide) rfl rfl ?_
  refine k_iload_n C0 dX6_refund_72 1 rfl ?_
  refine k_dup2 C0 dX6_refund_73 rfl rfl ?_
  refine r_lald C0 K0 dX6_refund_74 hi (v := (r_counts (rI mu 25 0 0) (mu.2 x.toNatClampNeg) (-1)).2 x.toNatClampNeg) rfl ?_
  refine k_ldc2 C0 (v := 2305843009213693952) dX6_refund_75 (tD 120 rfl rfl) ?_
  refine k_lor C0 dX6_refund_78 ?_
  refine r_last C0 K0 dX6_refund_79 hi ?_
  refine k_aload_n C0 dX6_refund_80 0 rfl ?_
  refine r_get C0 K0 14 dX6_refund_81 (tC 230 rfl rfl) (by decide) rfl rfl ?_
  refine k_iload_n C0 dX6_refund_84 1 rfl ?_
  refine r_lald C0 K0 dX6_refund_85 hi (v := ((r_counts (rI mu 25 0 0) (mu.2 x.toNatClampNeg) (-1)).2 x.toNatClampNeg) ||| 2305843009213693952) (by exact pk_uLs) ?_
  refine k_callS C0 K0 dX6_refund_86 (ct_priceOf l D Y A _ (((r_counts (rI mu 25 0 0) (mu.2 x.toNatClampNeg) (-1)).2 x.toNatClampNeg) ||| 2305843009213693952)) gkX6_85 hyX6_priceOf rfl (by exact Nat.le_of_ble_eq_true rfl) ⟨Nat.le_of_ble_eq_true rfl, Nat.le_of_ble_eq_true rfl⟩ ⟨Nat.le_of_ble_eq_true rfl, Nat.le_of_ble_eq_true rfl⟩ (fun E => kX_no E) (fun u => ?_)
  exact k_iret C0 dX6_refund_89 hr hlk (Nat.le_of_ble_eq_true rfl) (Nat.le_of_ble_eq_true rfl) () rfl (fun H h => h)
set_option maxRecDepth 100000 in
set_option maxHeartbeats 4000000 in
theorem ct_addMaker_ok (l : Launch) (D : va_G) (Y : Nat → Nat) (A : Nat → Prop) (o : Nat) (al : Nat → Nat) (mu : Rm) (a : Int32) (a1 : 0 ≤ a) (a2 : a ≤ 1000000) (hn : ¬ mu.1 4 0 = 6) (hi : vp_in (mu.1 4 0) 6) : CT l yX6_addMaker (Cond.code yX6_addMaker cX6_addMaker 2 (some .int)) 1 22 D Y A [.ref o, .int a] (WR D Y A o al mu) (fun _ : Unit => some (.int (((mu.1 4 0) + 1) - 1))) (fun _ : Unit => WR D Y A o al (rI (rI (rI mu 25 0 0) 5 ((mu.1 4 0).toNatClampNeg) a) 4 0 ((mu.1 4 0) + 1))) noX 0 0 := by
  refine CT.of (by decide) (Nat.le_of_ble_eq_true rfl) ?_
  intro p_ e_ s_ m_ below_ meth_ c_ C0 K0 hr hlk htab hnm_
  refine k_aload_n C0 dX6_addMaker_0 0 rfl ?_
  refine k_iload_n C0 dX6_addMaker_1 1 rfl ?_
  refine k_iconst C0 0 dX6_addMaker_2 (by decide) ?_
  refine k_ldc C0 (v := 1000000) dX6_addMaker_3 (tD 71 rfl rfl) ?_
  refine k_callS C0 K0 dX6_addMaker_5 (ct_in1 l D Y A _ a (0 : Int32) (1000000 : Int32) a1 a2) gkX6_69 hyX6_in rfl (by exact Nat.le_of_ble_eq_true rfl) ⟨Nat.le_of_ble_eq_true rfl, Nat.le_of_ble_eq_true rfl⟩ ⟨Nat.le_of_ble_eq_true rfl, Nat.le_of_ble_eq_true rfl⟩ (fun E => kX_no E) (fun u => ?_)
  refine k_if_ne C0 15 dX6_addMaker_8 (by decide) (fun _ => ?_) (fun zz => absurd zz (by decide))
  refine k_aload_n C0 dX6_addMaker_15 0 rfl ?_
  refine r_getI C0 K0 4 (mu.1 4 0) dX6_addMaker_16 (tC 220 rfl rfl) (by decide) rfl (rg_4 al _) rfl ?_
  refine k_bipush C0 6 dX6_addMaker_19 (by decide) ?_
  refine k_icmp_ne C0 28 dX6_addMaker_21 (by decide) (fun _ => ?_) (fun zz => absurd zz hn)
  refine k_iconst C0 0 dX6_addMaker_28 (by decide) ?_
  refine r_putS C0 K0 25 dX6_addMaker_29 (tD 1 rfl rfl) (by decide) rfl rfl (by decide +kernel) (rs_25 al _ _) (by decide) ?_
  refine k_aload_n C0 dX6_addMaker_32 0 rfl ?_
  refine r_getI C0 K0 25 0 dX6_addMaker_33 (tD 1 rfl rfl) (by decide) rfl (rg_25 al _) rI_at ?_
  refine k_if_le C0 41 dX6_addMaker_36 (by decide) (fun _ => ?_) (fun zz => absurd (by decide) zz)
  refine k_aload_n C0 dX6_addMaker_41 0 rfl ?_
  refine r_get C0 K0 5 dX6_addMaker_42 (tC 221 rfl rfl) (by decide) rfl rfl ?_
  refine k_aload_n C0 dX6_addMaker_45 0 rfl ?_
  refine r_getI C0 K0 4 (mu.1 4 0) dX6_addMaker_46 (tC 220 rfl rfl) (by decide) rfl (rg_4 al _) (rI_tr (by decide) rfl) ?_
  refine k_iload_n C0 dX6_addMaker_49 1 rfl ?_
  refine r_iast C0 K0 5 dX6_addMaker_50 (by decide) hi ?_
  refine k_aload_n C0 dX6_addMaker_51 0 rfl ?_
  refine k_dup C0 dX6_addMaker_52 rfl ?_
  refine r_getI C0 K0 4 (mu.1 4 0) dX6_addMaker_53 (tC 220 rfl rfl) (by decide) rfl (rg_4 al _) (rI_tr (by decide) (rI_tr (by decide) rfl)) ?_
  refine k_iconst C0 1 dX6_addMaker_56 (by decide) ?_
  refine k_iadd C0 dX6_addMaker_57 ?_
  refine r_putS C0 K0 4 dX6_addMaker_58 (tC 220 rfl rfl) (by decide) rfl rfl (by decide +kernel) (rs_4 al _ _) (by decide) ?_
  refine k_aload_n C0 dX6_addMaker_61 0 rfl ?_
  refine r_getI C0 K0 4 ((mu.1 4 0) + 1) dX6_addMaker_62 (tC 220 rfl rfl) (by decide) rfl (rg_4 al _) rI_at ?_
  refine k_iconst C0 1 dX6_addMaker_65 (by decide) ?_
  refine k_isub C0 dX6_addMaker_66 ?_
  exact k_iret C0 dX6_addMaker_67 hr hlk (Nat.le_of_ble_eq_true rfl) (Nat.le_of_ble_eq_true rfl) () rfl (fun H h => h)
set_option maxRecDepth 100000 in
set_option maxHeartbeats 4000000 in
theorem ct_addMaker_1 (l : Launch) (D : va_G) (Y : Nat → Nat) (A : Nat → Prop) (o : Nat) (al : Nat → Nat) (mu : Rm) (a : Int32) (a1 : ¬ (0 ≤ a ∧ a ≤ 1000000)) : CT l yX6_addMaker (Cond.code yX6_addMaker cX6_addMaker 2 (some .int)) 1 22 D Y A [.ref o, .int a] (WR D Y A o al mu) (fun _ : Unit => some (.int 0)) (fun _ : Unit => WR D Y A o al (rI mu 25 0 1)) noX 0 0 := by
  refine CT.of (by decide) (Nat.le_of_ble_eq_true rfl) ?_
  intro p_ e_ s_ m_ below_ meth_ c_ C0 K0 hr hlk htab hnm_
  refine k_aload_n C0 dX6_addMaker_0 0 rfl ?_
  refine k_iload_n C0 dX6_addMaker_1 1 rfl ?_
  refine k_iconst C0 0 dX6_addMaker_2 (by decide) ?_
  refine k_ldc C0 (v := 1000000) dX6_addMaker_3 (tD 71 rfl rfl) ?_
  refine k_callS C0 K0 dX6_addMaker_5 (ct_in0 l D Y A _ a (0 : Int32) (1000000 : Int32) a1) gkX6_69 hyX6_in rfl (by exact Nat.le_of_ble_eq_true rfl) ⟨Nat.le_of_ble_eq_true rfl, Nat.le_of_ble_eq_true rfl⟩ ⟨Nat.le_of_ble_eq_true rfl, Nat.le_of_ble_eq_true rfl⟩ (fun E => kX_no E) (fun u => ?_)
  refine k_if_ne C0 15 dX6_addMaker_8 (by decide) (fun zz => absurd (by decide) zz) (fun _ => ?_)
  refine k_iconst C0 1 dX6_addMaker_11 (by decide) ?_
  refine k_goto C0 29 dX6_addMaker_12 (by decide) ?_
  refine r_putS C0 K0 25 dX6_addMaker_29 (tD 1 rfl rfl) (by decide) rfl rfl (by decide +kernel) (rs_25 al _ _) (by decide) ?_
  refine k_aload_n C0 dX6_addMaker_32 0 rfl ?_
  refine r_getI C0 K0 25 1 dX6_addMaker_33 (tD 1 rfl rfl) (by decide) rfl (rg_25 al _) rI_at ?_
  refine k_if_le C0 41 dX6_addMaker_36 (by decide) (fun zz => absurd zz (by decide)) (fun _ => ?_)
  refine k_iconst C0 0 dX6_addMaker_39 (by decide) ?_
  exact k_iret C0 dX6_addMaker_40 hr hlk (Nat.le_of_ble_eq_true rfl) (Nat.le_of_ble_eq_true rfl) () rfl (fun H h => h)
set_option maxRecDepth 100000 in
set_option maxHeartbeats 4000000 in
theorem ct_addMaker_2 (l : Launch) (D : va_G) (Y : Nat → Nat) (A : Nat → Prop) (o : Nat) (al : Nat → Nat) (mu : Rm) (a : Int32) (a1 : 0 ≤ a) (a2 : a ≤ 1000000) (hn : mu.1 4 0 = 6) : CT l yX6_addMaker (Cond.code yX6_addMaker cX6_addMaker 2 (some .int)) 1 22 D Y A [.ref o, .int a] (WR D Y A o al mu) (fun _ : Unit => some (.int 0)) (fun _ : Unit => WR D Y A o al (rI mu 25 0 2)) noX 0 0 := by
  refine CT.of (by decide) (Nat.le_of_ble_eq_true rfl) ?_
  intro p_ e_ s_ m_ below_ meth_ c_ C0 K0 hr hlk htab hnm_
  refine k_aload_n C0 dX6_addMaker_0 0 rfl ?_
  refine k_iload_n C0 dX6_addMaker_1 1 rfl ?_
  refine k_iconst C0 0 dX6_addMaker_2 (by decide) ?_
  refine k_ldc C0 (v := 1000000) dX6_addMaker_3 (tD 71 rfl rfl) ?_
  refine k_callS C0 K0 dX6_addMaker_5 (ct_in1 l D Y A _ a (0 : Int32) (1000000 : Int32) a1 a2) gkX6_69 hyX6_in rfl (by exact Nat.le_of_ble_eq_true rfl) ⟨Nat.le_of_ble_eq_true rfl, Nat.le_of_ble_eq_true rfl⟩ ⟨Nat.le_of_ble_eq_true rfl, Nat.le_of_ble_eq_true rfl⟩ (fun E => kX_no E) (fun u => ?_)
  refine k_if_ne C0 15 dX6_addMaker_8 (by decide) (fun _ => ?_) (fun zz => absurd zz (by decide))
  refine k_aload_n C0 dX6_addMaker_15 0 rfl ?_
  refine r_getI C0 K0 4 (mu.1 4 0) dX6_addMaker_16 (tC 220 rfl rfl) (by decide) rfl (rg_4 al _) rfl ?_
  refine k_bipush C0 6 dX6_addMaker_19 (by decide) ?_
  refine k_icmp_ne C0 28 dX6_addMaker_21 (by decide) (fun zz => absurd hn zz) (fun _ => ?_)
  refine k_iconst C0 2 dX6_addMaker_24 (by decide) ?_
  refine k_goto C0 29 dX6_addMaker_25 (by decide) ?_
  refine r_putS C0 K0 25 dX6_addMaker_29 (tD 1 rfl rfl) (by decide) rfl rfl (by decide +kernel) (rs_25 al _ _) (by decide) ?_
  refine k_aload_n C0 dX6_addMaker_32 0 rfl ?_
  refine r_getI C0 K0 25 2 dX6_addMaker_33 (tD 1 rfl rfl) (by decide) rfl (rg_25 al _) rI_at ?_
  refine k_if_le C0 41 dX6_addMaker_36 (by decide) (fun zz => absurd zz (by decide)) (fun _ => ?_)
  refine k_iconst C0 0 dX6_addMaker_39 (by decide) ?_
  exact k_iret C0 dX6_addMaker_40 hr hlk (Nat.le_of_ble_eq_true rfl) (Nat.le_of_ble_eq_true rfl) () rfl (fun H h => h)
set_option maxRecDepth 100000 in
set_option maxHeartbeats 4000000 in
theorem ct_addProduct_1 (l : Launch) (D : va_G) (Y : Nat → Nat) (A : Nat → Prop) (o : Nat) (al : Nat → Nat) (mu : Rm) (a b : Int32) (a1 : ¬ (0 ≤ a ∧ a ≤ mu.1 4 0 - 1)) : CT l yX6_addProduct (Cond.code yX6_addProduct cX6_addProduct 4 (some .int)) 1 22 D Y A [.ref o, .int a, .int b] (WR D Y A o al mu) (fun _ : Unit => some (.int 0)) (fun _ : Unit => WR D Y A o al (rI mu 25 0 1)) noX 0 0 := by
  refine CT.of (by decide) (Nat.le_of_ble_eq_true rfl) ?_
  intro p_ e_ s_ m_ below_ meth_ c_ C0 K0 hr hlk htab hnm_
  refine k_aload_n C0 dX6_addProduct_0 0 rfl ?_
  refine k_iload_n C0 dX6_addProduct_1 1 rfl ?_
  refine k_iconst C0 0 dX6_addProduct_2 (by decide) ?_
  refine k_aload_n C0 dX6_addProduct_3 0 rfl ?_
  refine r_getI C0 K0 4 (mu.1 4 0) dX6_addProduct_4 (tC 220 rfl rfl) (by decide) rfl (rg_4 al _) rfl ?_
  refine k_iconst C0 1 dX6_addProduct_7 (by decide) ?_
  refine k_isub C0 dX6_addProduct_8 ?_
  refine k_callS C0 K0 dX6_addProduct_9 (ct_in0 l D Y A _ a (0 : Int32) ((mu.1 4 0) - 1) a1) gkX6_69 hyX6_in rfl (by exact Nat.le_of_ble_eq_true rfl) ⟨Nat.le_of_ble_eq_true rfl, Nat.le_of_ble_eq_true rfl⟩ ⟨Nat.le_of_ble_eq_true rfl, Nat.le_of_ble_eq_true rfl⟩ (fun E => kX_no E) (fun u => ?_)
  refine k_if_ne C0 19 dX6_addProduct_12 (by decide) (fun zz => absurd (by decide) zz) (fun _ => ?_)
  refine k_iconst C0 1 dX6_addProduct_15 (by decide) ?_
  refine k_goto C0 47 dX6_addProduct_16 (by decide) ?_
  refine r_putS C0 K0 25 dX6_addProduct_47 (tD 1 rfl rfl) (by decide) rfl rfl (by decide +kernel) (rs_25 al _ _) (by decide) ?_
  refine k_aload_n C0 dX6_addProduct_50 0 rfl ?_
  refine r_getI C0 K0 25 1 dX6_addProduct_51 (tD 1 rfl rfl) (by decide) rfl (rg_25 al _) rI_at ?_
  refine k_if_le C0 59 dX6_addProduct_54 (by decide) (fun zz => absurd zz (by decide)) (fun _ => ?_)
  refine k_iconst C0 0 dX6_addProduct_57 (by decide) ?_
  exact k_iret C0 dX6_addProduct_58 hr hlk (Nat.le_of_ble_eq_true rfl) (Nat.le_of_ble_eq_true rfl) () rfl (fun H h => h)
set_option maxRecDepth 100000 in
set_option maxHeartbeats 4000000 in
theorem ct_addProduct_2 (l : Launch) (D : va_G) (Y : Nat → Nat) (A : Nat → Prop) (o : Nat) (al : Nat → Nat) (mu : Rm) (a b : Int32) (a1 : 0 ≤ a) (a2 : a ≤ mu.1 4 0 - 1) (b1 : ¬ (0 ≤ b ∧ b ≤ 100000)) : CT l yX6_addProduct (Cond.code yX6_addProduct cX6_addProduct 4 (some .int)) 1 22 D Y A [.ref o, .int a, .int b] (WR D Y A o al mu) (fun _ : Unit => some (.int 0)) (fun _ : Unit => WR D Y A o al (rI mu 25 0 2)) noX 0 0 := by
  refine CT.of (by decide) (Nat.le_of_ble_eq_true rfl) ?_
  intro p_ e_ s_ m_ below_ meth_ c_ C0 K0 hr hlk htab hnm_
  refine k_aload_n C0 dX6_addProduct_0 0 rfl ?_
  refine k_iload_n C0 dX6_addProduct_1 1 rfl ?_
  refine k_iconst C0 0 dX6_addProduct_2 (by decide) ?_
  refine k_aload_n C0 dX6_addProduct_3 0 rfl ?_
  refine r_getI C0 K0 4 (mu.1 4 0) dX6_addProduct_4 (tC 220 rfl rfl) (by decide) rfl (rg_4 al _) rfl ?_
  refine k_iconst C0 1 dX6_addProduct_7 (by decide) ?_
  refine k_isub C0 dX6_addProduct_8 ?_
  refine k_callS C0 K0 dX6_addProduct_9 (ct_in1 l D Y A _ a (0 : Int32) ((mu.1 4 0) - 1) a1 a2) gkX6_69 hyX6_in rfl (by exact Nat.le_of_ble_eq_true rfl) ⟨Nat.le_of_ble_eq_true rfl, Nat.le_of_ble_eq_true rfl⟩ ⟨Nat.le_of_ble_eq_true rfl, Nat.le_of_ble_eq_true rfl⟩ (fun E => kX_no E) (fun u => ?_)
  refine k_if_ne C0 19 dX6_addProduct_12 (by decide) (fun _ => ?_) (fun zz => absurd zz (by decide))
  refine k_iload_n C0 dX6_addProduct_19 2 rfl ?_
  refine k_iconst C0 0 dX6_addProduct_20 (by decide) ?_
  refine k_ldc C0 (v := 100000) dX6_addProduct_21 (tD 76 rfl rfl) ?_
  refine k_callS C0 K0 dX6_addProduct_23 (ct_in0 l D Y A _ b (0 : Int32) (100000 : Int32) b1) gkX6_69 hyX6_in rfl (by exact Nat.le_of_ble_eq_true rfl) ⟨Nat.le_of_ble_eq_true rfl, Nat.le_of_ble_eq_true rfl⟩ ⟨Nat.le_of_ble_eq_true rfl, Nat.le_of_ble_eq_true rfl⟩ (fun E => kX_no E) (fun u => ?_)
  refine k_if_ne C0 33 dX6_addProduct_26 (by decide) (fun zz => absurd (by decide) zz) (fun _ => ?_)
  refine k_iconst C0 2 dX6_addProduct_29 (by decide) ?_
  refine k_goto C0 47 dX6_addProduct_30 (by decide) ?_
  refine r_putS C0 K0 25 dX6_addProduct_47 (tD 1 rfl rfl) (by decide) rfl rfl (by decide +kernel) (rs_25 al _ _) (by decide) ?_
  refine k_aload_n C0 dX6_addProduct_50 0 rfl ?_
  refine r_getI C0 K0 25 2 dX6_addProduct_51 (tD 1 rfl rfl) (by decide) rfl (rg_25 al _) rI_at ?_
  refine k_if_le C0 59 dX6_addProduct_54 (by decide) (fun zz => absurd zz (by decide)) (fun _ => ?_)
  refine k_iconst C0 0 dX6_addProduct_57 (by decide) ?_
  exact k_iret C0 dX6_addProduct_58 hr hlk (Nat.le_of_ble_eq_true rfl) (Nat.le_of_ble_eq_true rfl) () rfl (fun H h => h)
set_option maxRecDepth 100000 in
set_option maxHeartbeats 4000000 in
theorem ct_addProduct_3 (l : Launch) (D : va_G) (Y : Nat → Nat) (A : Nat → Prop) (o : Nat) (al : Nat → Nat) (mu : Rm) (a b : Int32) (a1 : 0 ≤ a) (a2 : a ≤ mu.1 4 0 - 1) (b1 : 0 ≤ b) (b2 : b ≤ 100000) (hn : mu.1 10 0 = 20) : CT l yX6_addProduct (Cond.code yX6_addProduct cX6_addProduct 4 (some .int)) 1 22 D Y A [.ref o, .int a, .int b] (WR D Y A o al mu) (fun _ : Unit => some (.int 0)) (fun _ : Unit => WR D Y A o al (rI mu 25 0 3)) noX 0 0 := by
  refine CT.of (by decide) (Nat.le_of_ble_eq_true rfl) ?_
  intro p_ e_ s_ m_ below_ meth_ c_ C0 K0 hr hlk htab hnm_
  refine k_aload_n C0 dX6_addProduct_0 0 rfl ?_
  refine k_iload_n C0 dX6_addProduct_1 1 rfl ?_
  refine k_iconst C0 0 dX6_addProduct_2 (by decide) ?_
  refine k_aload_n C0 dX6_addProduct_3 0 rfl ?_
  refine r_getI C0 K0 4 (mu.1 4 0) dX6_addProduct_4 (tC 220 rfl rfl) (by decide) rfl (rg_4 al _) rfl ?_
  refine k_iconst C0 1 dX6_addProduct_7 (by decide) ?_
  refine k_isub C0 dX6_addProduct_8 ?_
  refine k_callS C0 K0 dX6_addProduct_9 (ct_in1 l D Y A _ a (0 : Int32) ((mu.1 4 0) - 1) a1 a2) gkX6_69 hyX6_in rfl (by exact Nat.le_of_ble_eq_true rfl) ⟨Nat.le_of_ble_eq_true rfl, Nat.le_of_ble_eq_true rfl⟩ ⟨Nat.le_of_ble_eq_true rfl, Nat.le_of_ble_eq_true rfl⟩ (fun E => kX_no E) (fun u => ?_)
  refine k_if_ne C0 19 dX6_addProduct_12 (by decide) (fun _ => ?_) (fun zz => absurd zz (by decide))
  refine k_iload_n C0 dX6_addProduct_19 2 rfl ?_
  refine k_iconst C0 0 dX6_addProduct_20 (by decide) ?_
  refine k_ldc C0 (v := 100000) dX6_addProduct_21 (tD 76 rfl rfl) ?_
  refine k_callS C0 K0 dX6_addProduct_23 (ct_in1 l D Y A _ b (0 : Int32) (100000 : Int32) b1 b2) gkX6_69 hyX6_in rfl (by exact Nat.le_of_ble_eq_true rfl) ⟨Nat.le_of_ble_eq_true rfl, Nat.le_of_ble_eq_true rfl⟩ ⟨Nat.le_of_ble_eq_true rfl, Nat.le_of_ble_eq_true rfl⟩ (fun E => kX_no E) (fun u => ?_)
  refine k_if_ne C0 33 dX6_addProduct_26 (by decide) (fun _ => ?_) (fun zz => absurd zz (by decide))
  refine k_aload_n C0 dX6_addProduct_33 0 rfl ?_
  refine r_getI C0 K0 10 (mu.1 10 0) dX6_addProduct_34 (tC 226 rfl rfl) (by decide) rfl (rg_10 al _) rfl ?_
  refine k_bipush C0 20 dX6_addProduct_37 (by decide) ?_
  refine k_icmp_ne C0 46 dX6_addProduct_39 (by decide) (fun zz => absurd hn zz) (fun _ => ?_)
  refine k_iconst C0 3 dX6_addProduct_42 (by decide) ?_
  refine k_goto C0 47 dX6_addProduct_43 (by decide) ?_
  refine r_putS C0 K0 25 dX6_addProduct_47 (tD 1 rfl rfl) (by decide) rfl rfl (by decide +kernel) (rs_25 al _ _) (by decide) ?_
  refine k_aload_n C0 dX6_addProduct_50 0 rfl ?_
  refine r_getI C0 K0 25 3 dX6_addProduct_51 (tD 1 rfl rfl) (by decide) rfl (rg_25 al _) rI_at ?_
  refine k_if_le C0 59 dX6_addProduct_54 (by decide) (fun zz => absurd zz (by decide)) (fun _ => ?_)
  refine k_iconst C0 0 dX6_addProduct_57 (by decide) ?_
  exact k_iret C0 dX6_addProduct_58 hr hlk (Nat.le_of_ble_eq_true rfl) (Nat.le_of_ble_eq_true rfl) () rfl (fun H h => h)
set_option maxRecDepth 100000 in
set_option maxHeartbeats 4000000 in
theorem ct_setPrice_ok (l : Launch) (D : va_G) (Y : Nat → Nat) (A : Nat → Prop) (o : Nat) (al : Nat → Nat) (mu : Rm) (a b v : Int32) (a1 : 0 ≤ a) (a2 : a ≤ mu.1 10 0 - 1) (b1 : 0 ≤ b) (b2 : b ≤ 4) (v1 : 0 ≤ v) (v2 : v ≤ 100000) (hi : vp_in (5 * a + b) 100) : CT l yX6_setPrice (Cond.code yX6_setPrice cX6_setPrice 5 (some .int)) 1 22 D Y A [.ref o, .int a, .int b, .int v] (WR D Y A o al mu) (fun _ : Unit => some (.int (mu.1 12 (((5 * a) + b).toNatClampNeg)))) (fun _ : Unit => WR D Y A o al (rI (rI mu 25 0 0) 12 (((5 * a) + b).toNatClampNeg) v)) noX 0 0 := by
  refine CT.of (by decide) (Nat.le_of_ble_eq_true rfl) ?_
  intro p_ e_ s_ m_ below_ meth_ c_ C0 K0 hr hlk htab hnm_
  refine k_aload_n C0 dX6_setPrice_0 0 rfl ?_
  refine k_iload_n C0 dX6_setPrice_1 1 rfl ?_
  refine k_iconst C0 0 dX6_setPrice_2 (by decide) ?_
  refine k_aload_n C0 dX6_setPrice_3 0 rfl ?_
  refine r_getI C0 K0 10 (mu.1 10 0) dX6_setPrice_4 (tC 226 rfl rfl) (by decide) rfl (rg_10 al _) rfl ?_
  refine k_iconst C0 1 dX6_setPrice_7 (by decide) ?_
  refine k_isub C0 dX6_setPrice_8 ?_
  refine k_callS C0 K0 dX6_setPrice_9 (ct_in1 l D Y A _ a (0 : Int32) ((mu.1 10 0) - 1) a1 a2) gkX6_69 hyX6_in rfl (by exact Nat.le_of_ble_eq_true rfl) ⟨Nat.le_of_ble_eq_true rfl, Nat.le_of_ble_eq_true rfl⟩ ⟨Nat.le_of_ble_eq_true rfl, Nat.le_of_ble_eq_true rfl⟩ (fun E => kX_no E) (fun u => ?_)
  refine k_if_ne C0 19 dX6_setPrice_12 (by decide) (fun _ => ?_) (fun zz => absurd zz (by decide))
  refine k_iload_n C0 dX6_setPrice_19 2 rfl ?_
  refine k_iconst C0 0 dX6_setPrice_20 (by decide) ?_
  refine k_iconst C0 4 dX6_setPrice_21 (by decide) ?_
  refine k_callS C0 K0 dX6_setPrice_22 (ct_in1 l D Y A _ b (0 : Int32) (4 : Int32) b1 b2) gkX6_69 hyX6_in rfl (by exact Nat.le_of_ble_eq_true rfl) ⟨Nat.le_of_ble_eq_true rfl, Nat.le_of_ble_eq_true rfl⟩ ⟨Nat.le_of_ble_eq_true rfl, Nat.le_of_ble_eq_true rfl⟩ (fun E => kX_no E) (fun u => ?_)
  refine k_if_eq C0 38 dX6_setPrice_25 (by decide) (fun zz => absurd zz (by decide)) (fun _ => ?_)
  refine k_iload_n C0 dX6_setPrice_28 3 rfl ?_
  refine k_iconst C0 0 dX6_setPrice_29 (by decide) ?_
  refine k_ldc C0 (v := 100000) dX6_setPrice_30 (tD 76 rfl rfl) ?_
  refine k_callS C0 K0 dX6_setPrice_32 (ct_in1 l D Y A _ v (0 : Int32) (100000 : Int32) v1 v2) gkX6_69 hyX6_in rfl (by exact Nat.le_of_ble_eq_true rfl) ⟨Nat.le_of_ble_eq_true rfl, Nat.le_of_ble_eq_true rfl⟩ ⟨Nat.le_of_ble_eq_true rfl, Nat.le_of_ble_eq_true rfl⟩ (fun E => kX_no E) (fun u => ?_)
  refine k_if_ne C0 42 dX6_setPrice_35 (by decide) (fun _ => ?_) (fun zz => absurd zz (by decide))
  refine k_iconst C0 0 dX6_setPrice_42 (by decide) ?_
  refine r_putS C0 K0 25 dX6_setPrice_43 (tD 1 rfl rfl) (by decide) rfl rfl (by decide +kernel) (rs_25 al _ _) (by decide) ?_
  refine k_aload_n C0 dX6_setPrice_46 0 rfl ?_
  refine r_getI C0 K0 25 0 dX6_setPrice_47 (tD 1 rfl rfl) (by decide) rfl (rg_25 al _) rI_at ?_
  refine k_if_le C0 55 dX6_setPrice_50 (by decide) (fun _ => ?_) (fun zz => absurd (by decide) zz)
  refine k_aload_n C0 dX6_setPrice_55 0 rfl ?_
  refine r_get C0 K0 12 dX6_setPrice_56 (tC 228 rfl rfl) (by decide) rfl rfl ?_
  refine k_iconst C0 5 dX6_setPrice_59 (by decide) ?_
  refine k_iload_n C0 dX6_setPrice_60 1 rfl ?_
  refine k_imul C0 dX6_setPrice_61 ?_
  refine k_iload_n C0 dX6_setPrice_62 2 rfl ?_
  refine k_iadd C0 dX6_setPrice_63 ?_
  refine r_iald C0 K0 12 dX6_setPrice_64 (by decide) hi (v := mu.1 12 (((5 * a) + b).toNatClampNeg)) (rI_tr (by decide) rfl) ?_
  refine k_istore C0 [(4, _), (0, _), (1, _), (2, _), (3, _)] dX6_setPrice_65 (by decide) rfl ?_
  refine k_aload_n C0 dX6_setPrice_67 1 rfl ?_
  refine r_get C0 K0 12 dX6_setPrice_68 (tC 228 rfl rfl) (by decide) rfl rfl ?_
  refine k_iconst C0 5 dX6_setPrice_71 (by decide) ?_
  refine k_iload_n C0 dX6_setPrice_72 2 rfl ?_
  refine k_imul C0 dX6_setPrice_73 ?_
  refine k_iload_n C0 dX6_setPrice_74 3 rfl ?_
  refine k_iadd C0 dX6_setPrice_75 ?_
  refine k_iload_n C0 dX6_setPrice_76 4 rfl ?_
  refine r_iast C0 K0 12 dX6_setPrice_77 (by decide) hi ?_
  refine k_iload C0 dX6_setPrice_78 0 rfl ?_
  exact k_iret C0 dX6_setPrice_80 hr hlk (Nat.le_of_ble_eq_true rfl) (Nat.le_of_ble_eq_true rfl) () rfl (fun H h => h)
set_option maxRecDepth 100000 in
set_option maxHeartbeats 4000000 in
theorem ct_setPrice_1 (l : Launch) (D : va_G) (Y : Nat → Nat) (A : Nat → Prop) (o : Nat) (al : Nat → Nat) (mu : Rm) (a b v : Int32) (a1 : ¬ (0 ≤ a ∧ a ≤ mu.1 10 0 - 1)) : CT l yX6_setPrice (Cond.code yX6_setPrice cX6_setPrice 5 (some .int)) 1 22 D Y A [.ref o, .int a, .int b, .int v] (WR D Y A o al mu) (fun _ : Unit => some (.int 0)) (fun _ : Unit => WR D Y A o al (rI mu 25 0 1)) noX 0 0 := by
  refine CT.of (by decide) (Nat.le_of_ble_eq_true rfl) ?_
  intro p_ e_ s_ m_ below_ meth_ c_ C0 K0 hr hlk htab hnm_
  refine k_aload_n C0 dX6_setPrice_0 0 rfl ?_
  refine k_iload_n C0 dX6_setPrice_1 1 rfl ?_
  refine k_iconst C0 0 dX6_setPrice_2 (by decide) ?_
  refine k_aload_n C0 dX6_setPrice_3 0 rfl ?_
  refine r_getI C0 K0 10 (mu.1 10 0) dX6_setPrice_4 (tC 226 rfl rfl) (by decide) rfl (rg_10 al _) rfl ?_
  refine k_iconst C0 1 dX6_setPrice_7 (by decide) ?_
  refine k_isub C0 dX6_setPrice_8 ?_
  refine k_callS C0 K0 dX6_setPrice_9 (ct_in0 l D Y A _ a (0 : Int32) ((mu.1 10 0) - 1) a1) gkX6_69 hyX6_in rfl (by exact Nat.le_of_ble_eq_true rfl) ⟨Nat.le_of_ble_eq_true rfl, Nat.le_of_ble_eq_true rfl⟩ ⟨Nat.le_of_ble_eq_true rfl, Nat.le_of_ble_eq_true rfl⟩ (fun E => kX_no E) (fun u => ?_)
  refine k_if_ne C0 19 dX6_setPrice_12 (by decide) (fun zz => absurd (by decide) zz) (fun _ => ?_)
  refine k_iconst C0 1 dX6_setPrice_15 (by decide) ?_
  refine k_goto C0 43 dX6_setPrice_16 (by decide) ?_
  refine r_putS C0 K0 25 dX6_setPrice_43 (tD 1 rfl rfl) (by decide) rfl rfl (by decide +kernel) (rs_25 al _ _) (by decide) ?_
  refine k_aload_n C0 dX6_setPrice_46 0 rfl ?_
  refine r_getI C0 K0 25 1 dX6_setPrice_47 (tD 1 rfl rfl) (by decide) rfl (rg_25 al _) rI_at ?_
  refine k_if_le C0 55 dX6_setPrice_50 (by decide) (fun zz => absurd zz (by decide)) (fun _ => ?_)
  refine k_iconst C0 0 dX6_setPrice_53 (by decide) ?_
  exact k_iret C0 dX6_setPrice_54 hr hlk (Nat.le_of_ble_eq_true rfl) (Nat.le_of_ble_eq_true rfl) () rfl (fun H h => h)
set_option maxRecDepth 100000 in
set_option maxHeartbeats 4000000 in
theorem ct_setPrice_2a (l : Launch) (D : va_G) (Y : Nat → Nat) (A : Nat → Prop) (o : Nat) (al : Nat → Nat) (mu : Rm) (a b v : Int32) (a1 : 0 ≤ a) (a2 : a ≤ mu.1 10 0 - 1) (b1 : ¬ (0 ≤ b ∧ b ≤ 4)) : CT l yX6_setPrice (Cond.code yX6_setPrice cX6_setPrice 5 (some .int)) 1 22 D Y A [.ref o, .int a, .int b, .int v] (WR D Y A o al mu) (fun _ : Unit => some (.int 0)) (fun _ : Unit => WR D Y A o al (rI mu 25 0 2)) noX 0 0 := by
  refine CT.of (by decide) (Nat.le_of_ble_eq_true rfl) ?_
  intro p_ e_ s_ m_ below_ meth_ c_ C0 K0 hr hlk htab hnm_
  refine k_aload_n C0 dX6_setPrice_0 0 rfl ?_
  refine k_iload_n C0 dX6_setPrice_1 1 rfl ?_
  refine k_iconst C0 0 dX6_setPrice_2 (by decide) ?_
  refine k_aload_n C0 dX6_setPrice_3 0 rfl ?_
  refine r_getI C0 K0 10 (mu.1 10 0) dX6_setPrice_4 (tC 226 rfl rfl) (by decide) rfl (rg_10 al _) rfl ?_
  refine k_iconst C0 1 dX6_setPrice_7 (by decide) ?_
  refine k_isub C0 dX6_setPrice_8 ?_
  refine k_callS C0 K0 dX6_setPrice_9 (ct_in1 l D Y A _ a (0 : Int32) ((mu.1 10 0) - 1) a1 a2) gkX6_69 hyX6_in rfl (by exact Nat.le_of_ble_eq_true rfl) ⟨Nat.le_of_ble_eq_true rfl, Nat.le_of_ble_eq_true rfl⟩ ⟨Nat.le_of_ble_eq_true rfl, Nat.le_of_ble_eq_true rfl⟩ (fun E => kX_no E) (fun u => ?_)
  refine k_if_ne C0 19 dX6_setPrice_12 (by decide) (fun _ => ?_) (fun zz => absurd zz (by decide))
  refine k_iload_n C0 dX6_setPrice_19 2 rfl ?_
  refine k_iconst C0 0 dX6_setPrice_20 (by decide) ?_
  refine k_iconst C0 4 dX6_setPrice_21 (by decide) ?_
  refine k_callS C0 K0 dX6_setPrice_22 (ct_in0 l D Y A _ b (0 : Int32) (4 : Int32) b1) gkX6_69 hyX6_in rfl (by exact Nat.le_of_ble_eq_true rfl) ⟨Nat.le_of_ble_eq_true rfl, Nat.le_of_ble_eq_true rfl⟩ ⟨Nat.le_of_ble_eq_true rfl, Nat.le_of_ble_eq_true rfl⟩ (fun E => kX_no E) (fun u => ?_)
  refine k_if_eq C0 38 dX6_setPrice_25 (by decide) (fun _ => ?_) (fun zz => absurd (by decide) zz)
  refine k_iconst C0 2 dX6_setPrice_38 (by decide) ?_
  refine k_goto C0 43 dX6_setPrice_39 (by decide) ?_
  refine r_putS C0 K0 25 dX6_setPrice_43 (tD 1 rfl rfl) (by decide) rfl rfl (by decide +kernel) (rs_25 al _ _) (by decide) ?_
  refine k_aload_n C0 dX6_setPrice_46 0 rfl ?_
  refine r_getI C0 K0 25 2 dX6_setPrice_47 (tD 1 rfl rfl) (by decide) rfl (rg_25 al _) rI_at ?_
  refine k_if_le C0 55 dX6_setPrice_50 (by decide) (fun zz => absurd zz (by decide)) (fun _ => ?_)
  refine k_iconst C0 0 dX6_setPrice_53 (by decide) ?_
  exact k_iret C0 dX6_setPrice_54 hr hlk (Nat.le_of_ble_eq_true rfl) (Nat.le_of_ble_eq_true rfl) () rfl (fun H h => h)
set_option maxRecDepth 100000 in
set_option maxHeartbeats 4000000 in
theorem ct_setPrice_2b (l : Launch) (D : va_G) (Y : Nat → Nat) (A : Nat → Prop) (o : Nat) (al : Nat → Nat) (mu : Rm) (a b v : Int32) (a1 : 0 ≤ a) (a2 : a ≤ mu.1 10 0 - 1) (b1 : 0 ≤ b) (b2 : b ≤ 4) (v1 : ¬ (0 ≤ v ∧ v ≤ 100000)) : CT l yX6_setPrice (Cond.code yX6_setPrice cX6_setPrice 5 (some .int)) 1 22 D Y A [.ref o, .int a, .int b, .int v] (WR D Y A o al mu) (fun _ : Unit => some (.int 0)) (fun _ : Unit => WR D Y A o al (rI mu 25 0 2)) noX 0 0 := by
  refine CT.of (by decide) (Nat.le_of_ble_eq_true rfl) ?_
  intro p_ e_ s_ m_ below_ meth_ c_ C0 K0 hr hlk htab hnm_
  refine k_aload_n C0 dX6_setPrice_0 0 rfl ?_
  refine k_iload_n C0 dX6_setPrice_1 1 rfl ?_
  refine k_iconst C0 0 dX6_setPrice_2 (by decide) ?_
  refine k_aload_n C0 dX6_setPrice_3 0 rfl ?_
  refine r_getI C0 K0 10 (mu.1 10 0) dX6_setPrice_4 (tC 226 rfl rfl) (by decide) rfl (rg_10 al _) rfl ?_
  refine k_iconst C0 1 dX6_setPrice_7 (by decide) ?_
  refine k_isub C0 dX6_setPrice_8 ?_
  refine k_callS C0 K0 dX6_setPrice_9 (ct_in1 l D Y A _ a (0 : Int32) ((mu.1 10 0) - 1) a1 a2) gkX6_69 hyX6_in rfl (by exact Nat.le_of_ble_eq_true rfl) ⟨Nat.le_of_ble_eq_true rfl, Nat.le_of_ble_eq_true rfl⟩ ⟨Nat.le_of_ble_eq_true rfl, Nat.le_of_ble_eq_true rfl⟩ (fun E => kX_no E) (fun u => ?_)
  refine k_if_ne C0 19 dX6_setPrice_12 (by decide) (fun _ => ?_) (fun zz => absurd zz (by decide))
  refine k_iload_n C0 dX6_setPrice_19 2 rfl ?_
  refine k_iconst C0 0 dX6_setPrice_20 (by decide) ?_
  refine k_iconst C0 4 dX6_setPrice_21 (by decide) ?_
  refine k_callS C0 K0 dX6_setPrice_22 (ct_in1 l D Y A _ b (0 : Int32) (4 : Int32) b1 b2) gkX6_69 hyX6_in rfl (by exact Nat.le_of_ble_eq_true rfl) ⟨Nat.le_of_ble_eq_true rfl, Nat.le_of_ble_eq_true rfl⟩ ⟨Nat.le_of_ble_eq_true rfl, Nat.le_of_ble_eq_true rfl⟩ (fun E => kX_no E) (fun u => ?_)
  refine k_if_eq C0 38 dX6_setPrice_25 (by decide) (fun zz => absurd zz (by decide)) (fun _ => ?_)
  refine k_iload_n C0 dX6_setPrice_28 3 rfl ?_
  refine k_iconst C0 0 dX6_setPrice_29 (by decide) ?_
  refine k_ldc C0 (v := 100000) dX6_setPrice_30 (tD 76 rfl rfl) ?_
  refine k_callS C0 K0 dX6_setPrice_32 (ct_in0 l D Y A _ v (0 : Int32) (100000 : Int32) v1) gkX6_69 hyX6_in rfl (by exact Nat.le_of_ble_eq_true rfl) ⟨Nat.le_of_ble_eq_true rfl, Nat.le_of_ble_eq_true rfl⟩ ⟨Nat.le_of_ble_eq_true rfl, Nat.le_of_ble_eq_true rfl⟩ (fun E => kX_no E) (fun u => ?_)
  refine k_if_ne C0 42 dX6_setPrice_35 (by decide) (fun zz => absurd (by decide) zz) (fun _ => ?_)
  refine k_iconst C0 2 dX6_setPrice_38 (by decide) ?_
  refine k_goto C0 43 dX6_setPrice_39 (by decide) ?_
  refine r_putS C0 K0 25 dX6_setPrice_43 (tD 1 rfl rfl) (by decide) rfl rfl (by decide +kernel) (rs_25 al _ _) (by decide) ?_
  refine k_aload_n C0 dX6_setPrice_46 0 rfl ?_
  refine r_getI C0 K0 25 2 dX6_setPrice_47 (tD 1 rfl rfl) (by decide) rfl (rg_25 al _) rI_at ?_
  refine k_if_le C0 55 dX6_setPrice_50 (by decide) (fun zz => absurd zz (by decide)) (fun _ => ?_)
  refine k_iconst C0 0 dX6_setPrice_53 (by decide) ?_
  exact k_iret C0 dX6_setPrice_54 hr hlk (Nat.le_of_ble_eq_true rfl) (Nat.le_of_ble_eq_true rfl) () rfl (fun H h => h)
set_option maxRecDepth 100000 in
set_option maxHeartbeats 4000000 in
theorem ct_subscribe_ok (l : Launch) (D : va_G) (Y : Nat → Nat) (A : Nat → Prop) (o : Nat) (al : Nat → Nat) (mu : Rm) (a b dd h : Int32) (a1 : 0 ≤ a) (a2 : a ≤ mu.1 10 0 - 1) (b1 : 0 ≤ b) (b2 : b ≤ 4) (d1 : 1 ≤ dd) (d2 : dd ≤ 60) (hn : ¬ mu.1 15 0 = 40) (hi : vp_in (mu.1 15 0) 40) : CT l yX6_subscribe (Cond.code yX6_subscribe cX6_subscribe 5 (some .int)) 1 22 D Y A [.ref o, .int a, .int b, .int dd, .int h] (WR D Y A o al mu) (fun _ : Unit => some (.int (((mu.1 15 0) + 1) - 1))) (fun _ : Unit => WR D Y A o al (rI (rI (rI (rI (rI (rI (rI (rI (rI mu 25 0 0) 16 (mu.1 15 0).toNatClampNeg a) 17 (mu.1 15 0).toNatClampNeg b) 18 (mu.1 15 0).toNatClampNeg (mu.1 0 0 + dd)) 19 (mu.1 15 0).toNatClampNeg 0) 20 (mu.1 15 0).toNatClampNeg 0) 21 (mu.1 15 0).toNatClampNeg (if h = 0 then 0 else 1)) 22 (mu.1 15 0).toNatClampNeg 0) 15 0 (mu.1 15 0 + 1))) noX 0 0 := by
  refine CT.of (by decide) (Nat.le_of_ble_eq_true rfl) ?_
  intro p_ e_ s_ m_ below_ meth_ c_ C0 K0 hr hlk htab hnm_
  refine k_aload_n C0 dX6_subscribe_0 0 rfl ?_
  refine k_iload_n C0 dX6_subscribe_1 1 rfl ?_
  refine k_iconst C0 0 dX6_subscribe_2 (by decide) ?_
  refine k_aload_n C0 dX6_subscribe_3 0 rfl ?_
  refine r_getI C0 K0 10 (mu.1 10 0) dX6_subscribe_4 (tC 226 rfl rfl) (by decide) rfl (rg_10 al _) rfl ?_
  refine k_iconst C0 1 dX6_subscribe_7 (by decide) ?_
  refine k_isub C0 dX6_subscribe_8 ?_
  refine k_callS C0 K0 dX6_subscribe_9 (ct_in1 l D Y A _ a (0 : Int32) ((mu.1 10 0) - 1) a1 a2) gkX6_69 hyX6_in rfl (by exact Nat.le_of_ble_eq_true rfl) ⟨Nat.le_of_ble_eq_true rfl, Nat.le_of_ble_eq_true rfl⟩ ⟨Nat.le_of_ble_eq_true rfl, Nat.le_of_ble_eq_true rfl⟩ (fun E => kX_no E) (fun u => ?_)
  refine k_if_ne C0 19 dX6_subscribe_12 (by decide) (fun _ => ?_) (fun zz => absurd zz (by decide))
  refine k_iload_n C0 dX6_subscribe_19 2 rfl ?_
  refine k_iconst C0 0 dX6_subscribe_20 (by decide) ?_
  refine k_iconst C0 4 dX6_subscribe_21 (by decide) ?_
  refine k_callS C0 K0 dX6_subscribe_22 (ct_in1 l D Y A _ b (0 : Int32) (4 : Int32) b1 b2) gkX6_69 hyX6_in rfl (by exact Nat.le_of_ble_eq_true rfl) ⟨Nat.le_of_ble_eq_true rfl, Nat.le_of_ble_eq_true rfl⟩ ⟨Nat.le_of_ble_eq_true rfl, Nat.le_of_ble_eq_true rfl⟩ (fun E => kX_no E) (fun u => ?_)
  refine k_if_eq C0 38 dX6_subscribe_25 (by decide) (fun zz => absurd zz (by decide)) (fun _ => ?_)
  refine k_iload_n C0 dX6_subscribe_28 3 rfl ?_
  refine k_iconst C0 1 dX6_subscribe_29 (by decide) ?_
  refine k_bipush C0 60 dX6_subscribe_30 (by decide) ?_
  refine k_callS C0 K0 dX6_subscribe_32 (ct_in1 l D Y A _ dd (1 : Int32) (60 : Int32) d1 d2) gkX6_69 hyX6_in rfl (by exact Nat.le_of_ble_eq_true rfl) ⟨Nat.le_of_ble_eq_true rfl, Nat.le_of_ble_eq_true rfl⟩ ⟨Nat.le_of_ble_eq_true rfl, Nat.le_of_ble_eq_true rfl⟩ (fun E => kX_no E) (fun u => ?_)
  refine k_if_ne C0 42 dX6_subscribe_35 (by decide) (fun _ => ?_) (fun zz => absurd zz (by decide))
  refine k_aload_n C0 dX6_subscribe_42 0 rfl ?_
  refine r_getI C0 K0 15 (mu.1 15 0) dX6_subscribe_43 (tC 231 rfl rfl) (by decide) rfl (rg_15 al _) rfl ?_
  refine k_bipush C0 40 dX6_subscribe_46 (by decide) ?_
  refine k_icmp_ne C0 55 dX6_subscribe_48 (by decide) (fun _ => ?_) (fun zz => absurd zz hn)
  refine k_iconst C0 0 dX6_subscribe_55 (by decide) ?_
  refine r_putS C0 K0 25 dX6_subscribe_56 (tD 1 rfl rfl) (by decide) rfl rfl (by decide +kernel) (rs_25 al _ _) (by decide) ?_
  refine k_aload_n C0 dX6_subscribe_59 0 rfl ?_
  refine r_getI C0 K0 25 0 dX6_subscribe_60 (tD 1 rfl rfl) (by decide) rfl (rg_25 al _) rI_at ?_
  refine k_if_le C0 68 dX6_subscribe_63 (by decide) (fun _ => ?_) (fun zz => absurd (by decide) zz)
  refine k_aload_n C0 dX6_subscribe_68 0 rfl ?_
  refine r_get C0 K0 16 dX6_subscribe_69 (tC 232 rfl rfl) (by decide) rfl rfl ?_
  refine k_aload_n C0 dX6_subscribe_72 0 rfl ?_
  refine r_getI C0 K0 15 (mu.1 15 0) dX6_subscribe_73 (tC 231 rfl rfl) (by decide) rfl (rg_15 al _) (rI_tr (by decide) rfl) ?_
  refine k_iload_n C0 dX6_subscribe_76 1 rfl ?_
  refine r_iast C0 K0 16 dX6_subscribe_77 (by decide) hi ?_
  refine k_aload_n C0 dX6_subscribe_78 0 rfl ?_
  refine r_get C0 K0 17 dX6_subscribe_79 (tC 233 rfl rfl) (by decide) rfl rfl ?_
  refine k_aload_n C0 dX6_subscribe_82 0 rfl ?_
  refine r_getI C0 K0 15 (mu.1 15 0) dX6_subscribe_83 (tC 231 rfl rfl) (by decide) rfl (rg_15 al _) (rI_tr (by decide) (rI_tr (by decide) rfl)) ?_
  refine k_iload_n C0 dX6_subscribe_86 2 rfl ?_
  refine r_iast C0 K0 17 dX6_subscribe_87 (by decide) hi ?_
  refine k_aload_n C0 dX6_subscribe_88 0 rfl ?_
  refine r_get C0 K0 18 dX6_subscribe_89 (tC 234 rfl rfl) (by decide) rfl rfl ?_
  refine k_aload_n C0 dX6_subscribe_92 0 rfl ?_
  refine r_getI C0 K0 15 (mu.1 15 0) dX6_subscribe_93 (tC 231 rfl rfl) (by decide) rfl (rg_15 al _) (rI_tr (by decide) (rI_tr (by decide) (rI_tr (by decide) rfl))) ?_
  refine k_aload_n C0 dX6_subscribe_96 0 rfl ?_
  refine r_getI C0 K0 0 (mu.1 0 0) dX6_subscribe_97 (tC 216 rfl rfl) (by decide) rfl (rg_0 al _) (rI_tr (by decide) (rI_tr (by decide) (rI_tr (by decide) rfl))) ?_
  refine k_iload_n C0 dX6_subscribe_100 3 rfl ?_
  refine k_iadd C0 dX6_subscribe_101 ?_
  refine r_iast C0 K0 18 dX6_subscribe_102 (by decide) hi ?_
  refine k_aload_n C0 dX6_subscribe_103 0 rfl ?_
  refine r_get C0 K0 19 dX6_subscribe_104 (tC 235 rfl rfl) (by decide) rfl rfl ?_
  refine k_aload_n C0 dX6_subscribe_107 0 rfl ?_
  refine r_getI C0 K0 15 (mu.1 15 0) dX6_subscribe_108 (tC 231 rfl rfl) (by decide) rfl (rg_15 al _) (rI_tr (by decide) (rI_tr (by decide) (rI_tr (by decide) (rI_tr (by decide) rfl)))) ?_
  refine k_iconst C0 0 dX6_subscribe_111 (by decide) ?_
  refine r_iast C0 K0 19 dX6_subscribe_112 (by decide) hi ?_
  refine k_aload_n C0 dX6_subscribe_113 0 rfl ?_
  refine r_get C0 K0 20 dX6_subscribe_114 (tC 236 rfl rfl) (by decide) rfl rfl ?_
  refine k_aload_n C0 dX6_subscribe_117 0 rfl ?_
  refine r_getI C0 K0 15 (mu.1 15 0) dX6_subscribe_118 (tC 231 rfl rfl) (by decide) rfl (rg_15 al _) (rI_tr (by decide) (rI_tr (by decide) (rI_tr (by decide) (rI_tr (by decide) (rI_tr (by decide) rfl))))) ?_
  refine k_iconst C0 0 dX6_subscribe_121 (by decide) ?_
  refine r_iast C0 K0 20 dX6_subscribe_122 (by decide) hi ?_
  refine k_aload_n C0 dX6_subscribe_123 0 rfl ?_
  refine r_get C0 K0 21 dX6_subscribe_124 (tC 237 rfl rfl) (by decide) rfl rfl ?_
  refine k_aload_n C0 dX6_subscribe_127 0 rfl ?_
  refine r_getI C0 K0 15 (mu.1 15 0) dX6_subscribe_128 (tC 231 rfl rfl) (by decide) rfl (rg_15 al _) (rI_tr (by decide) (rI_tr (by decide) (rI_tr (by decide) (rI_tr (by decide) (rI_tr (by decide) (rI_tr (by decide) rfl)))))) ?_
  refine k_iload C0 dX6_subscribe_131 4 rfl ?_
  refine k_if_eq C0 140 dX6_subscribe_133 (by decide) (fun h133 => ?_) (fun h133 => ?_)
  ·
    refine k_iconst C0 0 dX6_subscribe_140 (by decide) ?_
    refine r_iast C0 K0 21 dX6_subscribe_141 (by decide) hi ?_
    refine k_aload_n C0 dX6_subscribe_142 0 rfl ?_
    refine r_get C0 K0 22 dX6_subscribe_143 (tC 238 rfl rfl) (by decide) rfl rfl ?_
    refine k_aload_n C0 dX6_subscribe_146 0 rfl ?_
    refine r_getI C0 K0 15 (mu.1 15 0) dX6_subscribe_147 (tC 231 rfl rfl) (by decide) rfl (rg_15 al _) (rI_tr (by decide) (rI_tr (by decide) (rI_tr (by decide) (rI_tr (by decide) (rI_tr (by decide) (rI_tr (by decide) (rI_tr (by decide) rfl))))))) ?_
    refine k_iconst C0 0 dX6_subscribe_150 (by decide) ?_
    refine r_iast C0 K0 22 dX6_subscribe_151 (by decide) hi ?_
    refine k_aload_n C0 dX6_subscribe_152 0 rfl ?_
    refine k_dup C0 dX6_subscribe_153 rfl ?_
    refine r_getI C0 K0 15 (mu.1 15 0) dX6_subscribe_154 (tC 231 rfl rfl) (by decide) rfl (rg_15 al _) (rI_tr (by decide) (rI_tr (by decide) (rI_tr (by decide) (rI_tr (by decide) (rI_tr (by decide) (rI_tr (by decide) (rI_tr (by decide) (rI_tr (by decide) rfl)))))))) ?_
    refine k_iconst C0 1 dX6_subscribe_157 (by decide) ?_
    refine k_iadd C0 dX6_subscribe_158 ?_
    refine r_putS C0 K0 15 dX6_subscribe_159 (tC 231 rfl rfl) (by decide) rfl rfl (by decide +kernel) (rs_15 al _ _) (by decide) ?_
    refine k_aload_n C0 dX6_subscribe_162 0 rfl ?_
    refine r_getI C0 K0 15 ((mu.1 15 0) + 1) dX6_subscribe_163 (tC 231 rfl rfl) (by decide) rfl (rg_15 al _) rI_at ?_
    refine k_iconst C0 1 dX6_subscribe_166 (by decide) ?_
    refine k_isub C0 dX6_subscribe_167 ?_
    exact k_iret C0 dX6_subscribe_168 hr hlk (Nat.le_of_ble_eq_true rfl) (Nat.le_of_ble_eq_true rfl) () rfl (by first | (rw [if_pos h133]; exact fun H h => h) | (rw [if_neg h133]; exact fun H h => h))
  ·
    refine k_iconst C0 1 dX6_subscribe_136 (by decide) ?_
    refine k_goto C0 141 dX6_subscribe_137 (by decide) ?_
    refine r_iast C0 K0 21 dX6_subscribe_141 (by decide) hi ?_
    refine k_aload_n C0 dX6_subscribe_142 0 rfl ?_
    refine r_get C0 K0 22 dX6_subscribe_143 (tC 238 rfl rfl) (by decide) rfl rfl ?_
    refine k_aload_n C0 dX6_subscribe_146 0 rfl ?_
    refine r_getI C0 K0 15 (mu.1 15 0) dX6_subscribe_147 (tC 231 rfl rfl) (by decide) rfl (rg_15 al _) (rI_tr (by decide) (rI_tr (by decide) (rI_tr (by decide) (rI_tr (by decide) (rI_tr (by decide) (rI_tr (by decide) (rI_tr (by decide) rfl))))))) ?_
    refine k_iconst C0 0 dX6_subscribe_150 (by decide) ?_
    refine r_iast C0 K0 22 dX6_subscribe_151 (by decide) hi ?_
    refine k_aload_n C0 dX6_subscribe_152 0 rfl ?_
    refine k_dup C0 dX6_subscribe_153 rfl ?_
    refine r_getI C0 K0 15 (mu.1 15 0) dX6_subscribe_154 (tC 231 rfl rfl) (by decide) rfl (rg_15 al _) (rI_tr (by decide) (rI_tr (by decide) (rI_tr (by decide) (rI_tr (by decide) (rI_tr (by decide) (rI_tr (by decide) (rI_tr (by decide) (rI_tr (by decide) rfl)))))))) ?_
    refine k_iconst C0 1 dX6_subscribe_157 (by decide) ?_
    refine k_iadd C0 dX6_subscribe_158 ?_
    refine r_putS C0 K0 15 dX6_subscribe_159 (tC 231 rfl rfl) (by decide) rfl rfl (by decide +kernel) (rs_15 al _ _) (by decide) ?_
    refine k_aload_n C0 dX6_subscribe_162 0 rfl ?_
    refine r_getI C0 K0 15 ((mu.1 15 0) + 1) dX6_subscribe_163 (tC 231 rfl rfl) (by decide) rfl (rg_15 al _) rI_at ?_
    refine k_iconst C0 1 dX6_subscribe_166 (by decide) ?_
    refine k_isub C0 dX6_subscribe_167 ?_
    exact k_iret C0 dX6_subscribe_168 hr hlk (Nat.le_of_ble_eq_true rfl) (Nat.le_of_ble_eq_true rfl) () rfl (by first | (rw [if_pos h133]; exact fun H h => h) | (rw [if_neg h133]; exact fun H h => h))
set_option maxRecDepth 100000 in
set_option maxHeartbeats 4000000 in
theorem ct_subscribe_1 (l : Launch) (D : va_G) (Y : Nat → Nat) (A : Nat → Prop) (o : Nat) (al : Nat → Nat) (mu : Rm) (a b dd h : Int32) (a1 : ¬ (0 ≤ a ∧ a ≤ mu.1 10 0 - 1)) : CT l yX6_subscribe (Cond.code yX6_subscribe cX6_subscribe 5 (some .int)) 1 22 D Y A [.ref o, .int a, .int b, .int dd, .int h] (WR D Y A o al mu) (fun _ : Unit => some (.int 0)) (fun _ : Unit => WR D Y A o al (rI mu 25 0 1)) noX 0 0 := by
  refine CT.of (by decide) (Nat.le_of_ble_eq_true rfl) ?_
  intro p_ e_ s_ m_ below_ meth_ c_ C0 K0 hr hlk htab hnm_
  refine k_aload_n C0 dX6_subscribe_0 0 rfl ?_
  refine k_iload_n C0 dX6_subscribe_1 1 rfl ?_
  refine k_iconst C0 0 dX6_subscribe_2 (by decide) ?_
  refine k_aload_n C0 dX6_subscribe_3 0 rfl ?_
  refine r_getI C0 K0 10 (mu.1 10 0) dX6_subscribe_4 (tC 226 rfl rfl) (by decide) rfl (rg_10 al _) rfl ?_
  refine k_iconst C0 1 dX6_subscribe_7 (by decide) ?_
  refine k_isub C0 dX6_subscribe_8 ?_
  refine k_callS C0 K0 dX6_subscribe_9 (ct_in0 l D Y A _ a (0 : Int32) ((mu.1 10 0) - 1) a1) gkX6_69 hyX6_in rfl (by exact Nat.le_of_ble_eq_true rfl) ⟨Nat.le_of_ble_eq_true rfl, Nat.le_of_ble_eq_true rfl⟩ ⟨Nat.le_of_ble_eq_true rfl, Nat.le_of_ble_eq_true rfl⟩ (fun E => kX_no E) (fun u => ?_)
  refine k_if_ne C0 19 dX6_subscribe_12 (by decide) (fun zz => absurd (by decide) zz) (fun _ => ?_)
  refine k_iconst C0 1 dX6_subscribe_15 (by decide) ?_
  refine k_goto C0 56 dX6_subscribe_16 (by decide) ?_
  refine r_putS C0 K0 25 dX6_subscribe_56 (tD 1 rfl rfl) (by decide) rfl rfl (by decide +kernel) (rs_25 al _ _) (by decide) ?_
  refine k_aload_n C0 dX6_subscribe_59 0 rfl ?_
  refine r_getI C0 K0 25 1 dX6_subscribe_60 (tD 1 rfl rfl) (by decide) rfl (rg_25 al _) rI_at ?_
  refine k_if_le C0 68 dX6_subscribe_63 (by decide) (fun zz => absurd zz (by decide)) (fun _ => ?_)
  refine k_iconst C0 0 dX6_subscribe_66 (by decide) ?_
  exact k_iret C0 dX6_subscribe_67 hr hlk (Nat.le_of_ble_eq_true rfl) (Nat.le_of_ble_eq_true rfl) () rfl (fun H h => h)
set_option maxRecDepth 100000 in
set_option maxHeartbeats 4000000 in
theorem ct_subscribe_2a (l : Launch) (D : va_G) (Y : Nat → Nat) (A : Nat → Prop) (o : Nat) (al : Nat → Nat) (mu : Rm) (a b dd h : Int32) (a1 : 0 ≤ a) (a2 : a ≤ mu.1 10 0 - 1) (b1 : ¬ (0 ≤ b ∧ b ≤ 4)) : CT l yX6_subscribe (Cond.code yX6_subscribe cX6_subscribe 5 (some .int)) 1 22 D Y A [.ref o, .int a, .int b, .int dd, .int h] (WR D Y A o al mu) (fun _ : Unit => some (.int 0)) (fun _ : Unit => WR D Y A o al (rI mu 25 0 2)) noX 0 0 := by
  refine CT.of (by decide) (Nat.le_of_ble_eq_true rfl) ?_
  intro p_ e_ s_ m_ below_ meth_ c_ C0 K0 hr hlk htab hnm_
  refine k_aload_n C0 dX6_subscribe_0 0 rfl ?_
  refine k_iload_n C0 dX6_subscribe_1 1 rfl ?_
  refine k_iconst C0 0 dX6_subscribe_2 (by decide) ?_
  refine k_aload_n C0 dX6_subscribe_3 0 rfl ?_
  refine r_getI C0 K0 10 (mu.1 10 0) dX6_subscribe_4 (tC 226 rfl rfl) (by decide) rfl (rg_10 al _) rfl ?_
  refine k_iconst C0 1 dX6_subscribe_7 (by decide) ?_
  refine k_isub C0 dX6_subscribe_8 ?_
  refine k_callS C0 K0 dX6_subscribe_9 (ct_in1 l D Y A _ a (0 : Int32) ((mu.1 10 0) - 1) a1 a2) gkX6_69 hyX6_in rfl (by exact Nat.le_of_ble_eq_true rfl) ⟨Nat.le_of_ble_eq_true rfl, Nat.le_of_ble_eq_true rfl⟩ ⟨Nat.le_of_ble_eq_true rfl, Nat.le_of_ble_eq_true rfl⟩ (fun E => kX_no E) (fun u => ?_)
  refine k_if_ne C0 19 dX6_subscribe_12 (by decide) (fun _ => ?_) (fun zz => absurd zz (by decide))
  refine k_iload_n C0 dX6_subscribe_19 2 rfl ?_
  refine k_iconst C0 0 dX6_subscribe_20 (by decide) ?_
  refine k_iconst C0 4 dX6_subscribe_21 (by decide) ?_
  refine k_callS C0 K0 dX6_subscribe_22 (ct_in0 l D Y A _ b (0 : Int32) (4 : Int32) b1) gkX6_69 hyX6_in rfl (by exact Nat.le_of_ble_eq_true rfl) ⟨Nat.le_of_ble_eq_true rfl, Nat.le_of_ble_eq_true rfl⟩ ⟨Nat.le_of_ble_eq_true rfl, Nat.le_of_ble_eq_true rfl⟩ (fun E => kX_no E) (fun u => ?_)
  refine k_if_eq C0 38 dX6_subscribe_25 (by decide) (fun _ => ?_) (fun zz => absurd (by decide) zz)
  refine k_iconst C0 2 dX6_subscribe_38 (by decide) ?_
  refine k_goto C0 56 dX6_subscribe_39 (by decide) ?_
  refine r_putS C0 K0 25 dX6_subscribe_56 (tD 1 rfl rfl) (by decide) rfl rfl (by decide +kernel) (rs_25 al _ _) (by decide) ?_
  refine k_aload_n C0 dX6_subscribe_59 0 rfl ?_
  refine r_getI C0 K0 25 2 dX6_subscribe_60 (tD 1 rfl rfl) (by decide) rfl (rg_25 al _) rI_at ?_
  refine k_if_le C0 68 dX6_subscribe_63 (by decide) (fun zz => absurd zz (by decide)) (fun _ => ?_)
  refine k_iconst C0 0 dX6_subscribe_66 (by decide) ?_
  exact k_iret C0 dX6_subscribe_67 hr hlk (Nat.le_of_ble_eq_true rfl) (Nat.le_of_ble_eq_true rfl) () rfl (fun H h => h)
set_option maxRecDepth 100000 in
set_option maxHeartbeats 4000000 in
theorem ct_subscribe_2b (l : Launch) (D : va_G) (Y : Nat → Nat) (A : Nat → Prop) (o : Nat) (al : Nat → Nat) (mu : Rm) (a b dd h : Int32) (a1 : 0 ≤ a) (a2 : a ≤ mu.1 10 0 - 1) (b1 : 0 ≤ b) (b2 : b ≤ 4) (d1 : ¬ (1 ≤ dd ∧ dd ≤ 60)) : CT l yX6_subscribe (Cond.code yX6_subscribe cX6_subscribe 5 (some .int)) 1 22 D Y A [.ref o, .int a, .int b, .int dd, .int h] (WR D Y A o al mu) (fun _ : Unit => some (.int 0)) (fun _ : Unit => WR D Y A o al (rI mu 25 0 2)) noX 0 0 := by
  refine CT.of (by decide) (Nat.le_of_ble_eq_true rfl) ?_
  intro p_ e_ s_ m_ below_ meth_ c_ C0 K0 hr hlk htab hnm_
  refine k_aload_n C0 dX6_subscribe_0 0 rfl ?_
  refine k_iload_n C0 dX6_subscribe_1 1 rfl ?_
  refine k_iconst C0 0 dX6_subscribe_2 (by decide) ?_
  refine k_aload_n C0 dX6_subscribe_3 0 rfl ?_
  refine r_getI C0 K0 10 (mu.1 10 0) dX6_subscribe_4 (tC 226 rfl rfl) (by decide) rfl (rg_10 al _) rfl ?_
  refine k_iconst C0 1 dX6_subscribe_7 (by decide) ?_
  refine k_isub C0 dX6_subscribe_8 ?_
  refine k_callS C0 K0 dX6_subscribe_9 (ct_in1 l D Y A _ a (0 : Int32) ((mu.1 10 0) - 1) a1 a2) gkX6_69 hyX6_in rfl (by exact Nat.le_of_ble_eq_true rfl) ⟨Nat.le_of_ble_eq_true rfl, Nat.le_of_ble_eq_true rfl⟩ ⟨Nat.le_of_ble_eq_true rfl, Nat.le_of_ble_eq_true rfl⟩ (fun E => kX_no E) (fun u => ?_)
  refine k_if_ne C0 19 dX6_subscribe_12 (by decide) (fun _ => ?_) (fun zz => absurd zz (by decide))
  refine k_iload_n C0 dX6_subscribe_19 2 rfl ?_
  refine k_iconst C0 0 dX6_subscribe_20 (by decide) ?_
  refine k_iconst C0 4 dX6_subscribe_21 (by decide) ?_
  refine k_callS C0 K0 dX6_subscribe_22 (ct_in1 l D Y A _ b (0 : Int32) (4 : Int32) b1 b2) gkX6_69 hyX6_in rfl (by exact Nat.le_of_ble_eq_true rfl) ⟨Nat.le_of_ble_eq_true rfl, Nat.le_of_ble_eq_true rfl⟩ ⟨Nat.le_of_ble_eq_true rfl, Nat.le_of_ble_eq_true rfl⟩ (fun E => kX_no E) (fun u => ?_)
  refine k_if_eq C0 38 dX6_subscribe_25 (by decide) (fun zz => absurd zz (by decide)) (fun _ => ?_)
  refine k_iload_n C0 dX6_subscribe_28 3 rfl ?_
  refine k_iconst C0 1 dX6_subscribe_29 (by decide) ?_
  refine k_bipush C0 60 dX6_subscribe_30 (by decide) ?_
  refine k_callS C0 K0 dX6_subscribe_32 (ct_in0 l D Y A _ dd (1 : Int32) (60 : Int32) d1) gkX6_69 hyX6_in rfl (by exact Nat.le_of_ble_eq_true rfl) ⟨Nat.le_of_ble_eq_true rfl, Nat.le_of_ble_eq_true rfl⟩ ⟨Nat.le_of_ble_eq_true rfl, Nat.le_of_ble_eq_true rfl⟩ (fun E => kX_no E) (fun u => ?_)
  refine k_if_ne C0 42 dX6_subscribe_35 (by decide) (fun zz => absurd (by decide) zz) (fun _ => ?_)
  refine k_iconst C0 2 dX6_subscribe_38 (by decide) ?_
  refine k_goto C0 56 dX6_subscribe_39 (by decide) ?_
  refine r_putS C0 K0 25 dX6_subscribe_56 (tD 1 rfl rfl) (by decide) rfl rfl (by decide +kernel) (rs_25 al _ _) (by decide) ?_
  refine k_aload_n C0 dX6_subscribe_59 0 rfl ?_
  refine r_getI C0 K0 25 2 dX6_subscribe_60 (tD 1 rfl rfl) (by decide) rfl (rg_25 al _) rI_at ?_
  refine k_if_le C0 68 dX6_subscribe_63 (by decide) (fun zz => absurd zz (by decide)) (fun _ => ?_)
  refine k_iconst C0 0 dX6_subscribe_66 (by decide) ?_
  exact k_iret C0 dX6_subscribe_67 hr hlk (Nat.le_of_ble_eq_true rfl) (Nat.le_of_ble_eq_true rfl) () rfl (fun H h => h)
set_option maxRecDepth 100000 in
set_option maxHeartbeats 4000000 in
theorem ct_subscribe_3 (l : Launch) (D : va_G) (Y : Nat → Nat) (A : Nat → Prop) (o : Nat) (al : Nat → Nat) (mu : Rm) (a b dd h : Int32) (a1 : 0 ≤ a) (a2 : a ≤ mu.1 10 0 - 1) (b1 : 0 ≤ b) (b2 : b ≤ 4) (d1 : 1 ≤ dd) (d2 : dd ≤ 60) (hn : mu.1 15 0 = 40) : CT l yX6_subscribe (Cond.code yX6_subscribe cX6_subscribe 5 (some .int)) 1 22 D Y A [.ref o, .int a, .int b, .int dd, .int h] (WR D Y A o al mu) (fun _ : Unit => some (.int 0)) (fun _ : Unit => WR D Y A o al (rI mu 25 0 3)) noX 0 0 := by
  refine CT.of (by decide) (Nat.le_of_ble_eq_true rfl) ?_
  intro p_ e_ s_ m_ below_ meth_ c_ C0 K0 hr hlk htab hnm_
  refine k_aload_n C0 dX6_subscribe_0 0 rfl ?_
  refine k_iload_n C0 dX6_subscribe_1 1 rfl ?_
  refine k_iconst C0 0 dX6_subscribe_2 (by decide) ?_
  refine k_aload_n C0 dX6_subscribe_3 0 rfl ?_
  refine r_getI C0 K0 10 (mu.1 10 0) dX6_subscribe_4 (tC 226 rfl rfl) (by decide) rfl (rg_10 al _) rfl ?_
  refine k_iconst C0 1 dX6_subscribe_7 (by decide) ?_
  refine k_isub C0 dX6_subscribe_8 ?_
  refine k_callS C0 K0 dX6_subscribe_9 (ct_in1 l D Y A _ a (0 : Int32) ((mu.1 10 0) - 1) a1 a2) gkX6_69 hyX6_in rfl (by exact Nat.le_of_ble_eq_true rfl) ⟨Nat.le_of_ble_eq_true rfl, Nat.le_of_ble_eq_true rfl⟩ ⟨Nat.le_of_ble_eq_true rfl, Nat.le_of_ble_eq_true rfl⟩ (fun E => kX_no E) (fun u => ?_)
  refine k_if_ne C0 19 dX6_subscribe_12 (by decide) (fun _ => ?_) (fun zz => absurd zz (by decide))
  refine k_iload_n C0 dX6_subscribe_19 2 rfl ?_
  refine k_iconst C0 0 dX6_subscribe_20 (by decide) ?_
  refine k_iconst C0 4 dX6_subscribe_21 (by decide) ?_
  refine k_callS C0 K0 dX6_subscribe_22 (ct_in1 l D Y A _ b (0 : Int32) (4 : Int32) b1 b2) gkX6_69 hyX6_in rfl (by exact Nat.le_of_ble_eq_true rfl) ⟨Nat.le_of_ble_eq_true rfl, Nat.le_of_ble_eq_true rfl⟩ ⟨Nat.le_of_ble_eq_true rfl, Nat.le_of_ble_eq_true rfl⟩ (fun E => kX_no E) (fun u => ?_)
  refine k_if_eq C0 38 dX6_subscribe_25 (by decide) (fun zz => absurd zz (by decide)) (fun _ => ?_)
  refine k_iload_n C0 dX6_subscribe_28 3 rfl ?_
  refine k_iconst C0 1 dX6_subscribe_29 (by decide) ?_
  refine k_bipush C0 60 dX6_subscribe_30 (by decide) ?_
  refine k_callS C0 K0 dX6_subscribe_32 (ct_in1 l D Y A _ dd (1 : Int32) (60 : Int32) d1 d2) gkX6_69 hyX6_in rfl (by exact Nat.le_of_ble_eq_true rfl) ⟨Nat.le_of_ble_eq_true rfl, Nat.le_of_ble_eq_true rfl⟩ ⟨Nat.le_of_ble_eq_true rfl, Nat.le_of_ble_eq_true rfl⟩ (fun E => kX_no E) (fun u => ?_)
  refine k_if_ne C0 42 dX6_subscribe_35 (by decide) (fun _ => ?_) (fun zz => absurd zz (by decide))
  refine k_aload_n C0 dX6_subscribe_42 0 rfl ?_
  refine r_getI C0 K0 15 (mu.1 15 0) dX6_subscribe_43 (tC 231 rfl rfl) (by decide) rfl (rg_15 al _) rfl ?_
  refine k_bipush C0 40 dX6_subscribe_46 (by decide) ?_
  refine k_icmp_ne C0 55 dX6_subscribe_48 (by decide) (fun zz => absurd hn zz) (fun _ => ?_)
  refine k_iconst C0 3 dX6_subscribe_51 (by decide) ?_
  refine k_goto C0 56 dX6_subscribe_52 (by decide) ?_
  refine r_putS C0 K0 25 dX6_subscribe_56 (tD 1 rfl rfl) (by decide) rfl rfl (by decide +kernel) (rs_25 al _ _) (by decide) ?_
  refine k_aload_n C0 dX6_subscribe_59 0 rfl ?_
  refine r_getI C0 K0 25 3 dX6_subscribe_60 (tD 1 rfl rfl) (by decide) rfl (rg_25 al _) rI_at ?_
  refine k_if_le C0 68 dX6_subscribe_63 (by decide) (fun zz => absurd zz (by decide)) (fun _ => ?_)
  refine k_iconst C0 0 dX6_subscribe_66 (by decide) ?_
  exact k_iret C0 dX6_subscribe_67 hr hlk (Nat.le_of_ble_eq_true rfl) (Nat.le_of_ble_eq_true rfl) () rfl (fun H h => h)
set_option maxRecDepth 100000 in
set_option maxHeartbeats 4000000 in
theorem ct_move_1a (l : Launch) (D : va_G) (Y : Nat → Nat) (A : Nat → Prop) (o : Nat) (al : Nat → Nat) (mu : Rm) (a b : Int32) (a1 : ¬ (0 ≤ a ∧ a ≤ mu.1 15 0 - 1)) : CT l yX6_move (Cond.code yX6_move cX6_move 4 (some .int)) 1 22 D Y A [.ref o, .int a, .int b] (WR D Y A o al mu) (fun _ : Unit => some (.int 0)) (fun _ : Unit => WR D Y A o al (rI mu 25 0 1)) noX 0 0 := by
  refine CT.of (by decide) (Nat.le_of_ble_eq_true rfl) ?_
  intro p_ e_ s_ m_ below_ meth_ c_ C0 K0 hr hlk htab hnm_
  refine k_aload_n C0 dX6_move_0 0 rfl ?_
  refine k_iload_n C0 dX6_move_1 1 rfl ?_
  refine k_iconst C0 0 dX6_move_2 (by decide) ?_
  refine k_aload_n C0 dX6_move_3 0 rfl ?_
  refine r_getI C0 K0 15 (mu.1 15 0) dX6_move_4 (tC 231 rfl rfl) (by decide) rfl (rg_15 al _) rfl ?_
  refine k_iconst C0 1 dX6_move_7 (by decide) ?_
  refine k_isub C0 dX6_move_8 ?_
  refine k_callS C0 K0 dX6_move_9 (ct_in0 l D Y A _ a (0 : Int32) ((mu.1 15 0) - 1) a1) gkX6_69 hyX6_in rfl (by exact Nat.le_of_ble_eq_true rfl) ⟨Nat.le_of_ble_eq_true rfl, Nat.le_of_ble_eq_true rfl⟩ ⟨Nat.le_of_ble_eq_true rfl, Nat.le_of_ble_eq_true rfl⟩ (fun E => kX_no E) (fun u => ?_)
  refine k_if_eq C0 33 dX6_move_12 (by decide) (fun _ => ?_) (fun zz => absurd (by decide) zz)
  refine k_iconst C0 1 dX6_move_33 (by decide) ?_
  refine r_putS C0 K0 25 dX6_move_34 (tD 1 rfl rfl) (by decide) rfl rfl (by decide +kernel) (rs_25 al _ _) (by decide) ?_
  refine k_aload_n C0 dX6_move_37 0 rfl ?_
  refine r_getI C0 K0 25 1 dX6_move_38 (tD 1 rfl rfl) (by decide) rfl (rg_25 al _) rI_at ?_
  refine k_if_le C0 46 dX6_move_41 (by decide) (fun zz => absurd zz (by decide)) (fun _ => ?_)
  refine k_iconst C0 0 dX6_move_44 (by decide) ?_
  exact k_iret C0 dX6_move_45 hr hlk (Nat.le_of_ble_eq_true rfl) (Nat.le_of_ble_eq_true rfl) () rfl (fun H h => h)
set_option maxRecDepth 100000 in
set_option maxHeartbeats 4000000 in
theorem ct_move_1b (l : Launch) (D : va_G) (Y : Nat → Nat) (A : Nat → Prop) (o : Nat) (al : Nat → Nat) (mu : Rm) (a b : Int32) (a1 : 0 ≤ a) (a2 : a ≤ mu.1 15 0 - 1) (b1 : ¬ (0 ≤ b ∧ b ≤ mu.1 10 0 - 1)) : CT l yX6_move (Cond.code yX6_move cX6_move 4 (some .int)) 1 22 D Y A [.ref o, .int a, .int b] (WR D Y A o al mu) (fun _ : Unit => some (.int 0)) (fun _ : Unit => WR D Y A o al (rI mu 25 0 1)) noX 0 0 := by
  refine CT.of (by decide) (Nat.le_of_ble_eq_true rfl) ?_
  intro p_ e_ s_ m_ below_ meth_ c_ C0 K0 hr hlk htab hnm_
  refine k_aload_n C0 dX6_move_0 0 rfl ?_
  refine k_iload_n C0 dX6_move_1 1 rfl ?_
  refine k_iconst C0 0 dX6_move_2 (by decide) ?_
  refine k_aload_n C0 dX6_move_3 0 rfl ?_
  refine r_getI C0 K0 15 (mu.1 15 0) dX6_move_4 (tC 231 rfl rfl) (by decide) rfl (rg_15 al _) rfl ?_
  refine k_iconst C0 1 dX6_move_7 (by decide) ?_
  refine k_isub C0 dX6_move_8 ?_
  refine k_callS C0 K0 dX6_move_9 (ct_in1 l D Y A _ a (0 : Int32) ((mu.1 15 0) - 1) a1 a2) gkX6_69 hyX6_in rfl (by exact Nat.le_of_ble_eq_true rfl) ⟨Nat.le_of_ble_eq_true rfl, Nat.le_of_ble_eq_true rfl⟩ ⟨Nat.le_of_ble_eq_true rfl, Nat.le_of_ble_eq_true rfl⟩ (fun E => kX_no E) (fun u => ?_)
  refine k_if_eq C0 33 dX6_move_12 (by decide) (fun zz => absurd zz (by decide)) (fun _ => ?_)
  refine k_iload_n C0 dX6_move_15 2 rfl ?_
  refine k_iconst C0 0 dX6_move_16 (by decide) ?_
  refine k_aload_n C0 dX6_move_17 0 rfl ?_
  refine r_getI C0 K0 10 (mu.1 10 0) dX6_move_18 (tC 226 rfl rfl) (by decide) rfl (rg_10 al _) rfl ?_
  refine k_iconst C0 1 dX6_move_21 (by decide) ?_
  refine k_isub C0 dX6_move_22 ?_
  refine k_callS C0 K0 dX6_move_23 (ct_in0 l D Y A _ b (0 : Int32) ((mu.1 10 0) - 1) b1) gkX6_69 hyX6_in rfl (by exact Nat.le_of_ble_eq_true rfl) ⟨Nat.le_of_ble_eq_true rfl, Nat.le_of_ble_eq_true rfl⟩ ⟨Nat.le_of_ble_eq_true rfl, Nat.le_of_ble_eq_true rfl⟩ (fun E => kX_no E) (fun u => ?_)
  refine k_if_eq C0 33 dX6_move_26 (by decide) (fun _ => ?_) (fun zz => absurd (by decide) zz)
  refine k_iconst C0 1 dX6_move_33 (by decide) ?_
  refine r_putS C0 K0 25 dX6_move_34 (tD 1 rfl rfl) (by decide) rfl rfl (by decide +kernel) (rs_25 al _ _) (by decide) ?_
  refine k_aload_n C0 dX6_move_37 0 rfl ?_
  refine r_getI C0 K0 25 1 dX6_move_38 (tD 1 rfl rfl) (by decide) rfl (rg_25 al _) rI_at ?_
  refine k_if_le C0 46 dX6_move_41 (by decide) (fun zz => absurd zz (by decide)) (fun _ => ?_)
  refine k_iconst C0 0 dX6_move_44 (by decide) ?_
  exact k_iret C0 dX6_move_45 hr hlk (Nat.le_of_ble_eq_true rfl) (Nat.le_of_ble_eq_true rfl) () rfl (fun H h => h)
set_option maxRecDepth 100000 in
set_option maxHeartbeats 4000000 in
theorem ct_move_2a (l : Launch) (D : va_G) (Y : Nat → Nat) (A : Nat → Prop) (o : Nat) (al : Nat → Nat) (mu : Rm) (a b : Int32) (a1 : 0 ≤ a) (a2 : a ≤ mu.1 15 0 - 1) (b1 : 0 ≤ b) (b2 : b ≤ mu.1 10 0 - 1) (hi : vp_in a 40) (hs : mu.1 16 a.toNatClampNeg = b) : CT l yX6_move (Cond.code yX6_move cX6_move 4 (some .int)) 1 22 D Y A [.ref o, .int a, .int b] (WR D Y A o al mu) (fun _ : Unit => some (.int 0)) (fun _ : Unit => WR D Y A o al (rI (rI mu 25 0 0) 25 0 (2 : Int32))) noX 0 0 := by
  refine CT.of (by decide) (Nat.le_of_ble_eq_true rfl) ?_
  intro p_ e_ s_ m_ below_ meth_ c_ C0 K0 hr hlk htab hnm_
  refine k_aload_n C0 dX6_move_0 0 rfl ?_
  refine k_iload_n C0 dX6_move_1 1 rfl ?_
  refine k_iconst C0 0 dX6_move_2 (by decide) ?_
  refine k_aload_n C0 dX6_move_3 0 rfl ?_
  refine r_getI C0 K0 15 (mu.1 15 0) dX6_move_4 (tC 231 rfl rfl) (by decide) rfl (rg_15 al _) rfl ?_
  refine k_iconst C0 1 dX6_move_7 (by decide) ?_
  refine k_isub C0 dX6_move_8 ?_
  refine k_callS C0 K0 dX6_move_9 (ct_in1 l D Y A _ a (0 : Int32) ((mu.1 15 0) - 1) a1 a2) gkX6_69 hyX6_in rfl (by exact Nat.le_of_ble_eq_true rfl) ⟨Nat.le_of_ble_eq_true rfl, Nat.le_of_ble_eq_true rfl⟩ ⟨Nat.le_of_ble_eq_true rfl, Nat.le_of_ble_eq_true rfl⟩ (fun E => kX_no E) (fun u => ?_)
  refine k_if_eq C0 33 dX6_move_12 (by decide) (fun zz => absurd zz (by decide)) (fun _ => ?_)
  refine k_iload_n C0 dX6_move_15 2 rfl ?_
  refine k_iconst C0 0 dX6_move_16 (by decide) ?_
  refine k_aload_n C0 dX6_move_17 0 rfl ?_
  refine r_getI C0 K0 10 (mu.1 10 0) dX6_move_18 (tC 226 rfl rfl) (by decide) rfl (rg_10 al _) rfl ?_
  refine k_iconst C0 1 dX6_move_21 (by decide) ?_
  refine k_isub C0 dX6_move_22 ?_
  refine k_callS C0 K0 dX6_move_23 (ct_in1 l D Y A _ b (0 : Int32) ((mu.1 10 0) - 1) b1 b2) gkX6_69 hyX6_in rfl (by exact Nat.le_of_ble_eq_true rfl) ⟨Nat.le_of_ble_eq_true rfl, Nat.le_of_ble_eq_true rfl⟩ ⟨Nat.le_of_ble_eq_true rfl, Nat.le_of_ble_eq_true rfl⟩ (fun E => kX_no E) (fun u => ?_)
  refine k_if_eq C0 33 dX6_move_26 (by decide) (fun zz => absurd zz (by decide)) (fun _ => ?_)
  refine k_iconst C0 0 dX6_move_29 (by decide) ?_
  refine k_goto C0 34 dX6_move_30 (by decide) ?_
  refine r_putS C0 K0 25 dX6_move_34 (tD 1 rfl rfl) (by decide) rfl rfl (by decide +kernel) (rs_25 al _ _) (by decide) ?_
  refine k_aload_n C0 dX6_move_37 0 rfl ?_
  refine r_getI C0 K0 25 0 dX6_move_38 (tD 1 rfl rfl) (by decide) rfl (rg_25 al _) rI_at ?_
  refine k_if_le C0 46 dX6_move_41 (by decide) (fun _ => ?_) (fun zz => absurd (by decide) zz)
  refine k_aload_n C0 dX6_move_46 0 rfl ?_
  refine r_get C0 K0 16 dX6_move_47 (tC 232 rfl rfl) (by decide) rfl rfl ?_
  refine k_iload_n C0 dX6_move_50 1 rfl ?_
  refine r_iald C0 K0 16 dX6_move_51 (by decide) hi (v := mu.1 16 a.toNatClampNeg) (rI_tr (by decide) rfl) ?_
  refine k_istore_n C0 [(3, _), (0, _), (1, _), (2, _)] dX6_move_52 (by decide) rfl ?_
  refine k_iload_n C0 dX6_move_53 0 rfl ?_
  refine k_iload_n C0 dX6_move_54 3 rfl ?_
  refine k_icmp_eq C0 73 dX6_move_55 (by decide) (fun _ => ?_) (fun zz => absurd hs zz)
  refine k_aload_n C0 dX6_move_73 1 rfl ?_
  refine k_iconst C0 2 dX6_move_74 (by decide) ?_
  refine k_callV C0 K0 dX6_move_75 (ct_fails l D Y A o al (rI mu 25 0 0) (2 : Int32)) gkX6_122 hyX6_fails (fun H hV => r_recv K0 hV) rfl (by exact Nat.le_of_ble_eq_true rfl) ⟨Nat.le_of_ble_eq_true rfl, Nat.le_of_ble_eq_true rfl⟩ ⟨Nat.le_of_ble_eq_true rfl, Nat.le_of_ble_eq_true rfl⟩ (fun E => kX_no E) (fun u => ?_)
  exact k_iret C0 dX6_move_78 hr hlk (Nat.le_of_ble_eq_true rfl) (Nat.le_of_ble_eq_true rfl) () rfl (fun H h => h)
set_option maxRecDepth 100000 in
set_option maxHeartbeats 4000000 in
theorem ct_move_2b (l : Launch) (D : va_G) (Y : Nat → Nat) (A : Nat → Prop) (o : Nat) (al : Nat → Nat) (mu : Rm) (a b : Int32) (a1 : 0 ≤ a) (a2 : a ≤ mu.1 15 0 - 1) (b1 : 0 ≤ b) (b2 : b ≤ mu.1 10 0 - 1) (hi : vp_in a 40) (hj : vp_in (mu.1 16 a.toNatClampNeg) 20) (hb : vp_in b 20) (hs : ¬ mu.1 16 a.toNatClampNeg = b) (hm : ¬ mu.1 11 (mu.1 16 a.toNatClampNeg).toNatClampNeg = mu.1 11 b.toNatClampNeg) : CT l yX6_move (Cond.code yX6_move cX6_move 4 (some .int)) 1 22 D Y A [.ref o, .int a, .int b] (WR D Y A o al mu) (fun _ : Unit => some (.int 0)) (fun _ : Unit => WR D Y A o al (rI (rI mu 25 0 0) 25 0 (2 : Int32))) noX 0 0 := by
  refine CT.of (by decide) (Nat.le_of_ble_eq_true rfl) ?_
  intro p_ e_ s_ m_ below_ meth_ c_ C0 K0 hr hlk htab hnm_
  refine k_aload_n C0 dX6_move_0 0 rfl ?_
  refine k_iload_n C0 dX6_move_1 1 rfl ?_
  refine k_iconst C0 0 dX6_move_2 (by decide) ?_
  refine k_aload_n C0 dX6_move_3 0 rfl ?_
  refine r_getI C0 K0 15 (mu.1 15 0) dX6_move_4 (tC 231 rfl rfl) (by decide) rfl (rg_15 al _) rfl ?_
  refine k_iconst C0 1 dX6_move_7 (by decide) ?_
  refine k_isub C0 dX6_move_8 ?_
  refine k_callS C0 K0 dX6_move_9 (ct_in1 l D Y A _ a (0 : Int32) ((mu.1 15 0) - 1) a1 a2) gkX6_69 hyX6_in rfl (by exact Nat.le_of_ble_eq_true rfl) ⟨Nat.le_of_ble_eq_true rfl, Nat.le_of_ble_eq_true rfl⟩ ⟨Nat.le_of_ble_eq_true rfl, Nat.le_of_ble_eq_true rfl⟩ (fun E => kX_no E) (fun u => ?_)
  refine k_if_eq C0 33 dX6_move_12 (by decide) (fun zz => absurd zz (by decide)) (fun _ => ?_)
  refine k_iload_n C0 dX6_move_15 2 rfl ?_
  refine k_iconst C0 0 dX6_move_16 (by decide) ?_
  refine k_aload_n C0 dX6_move_17 0 rfl ?_
  refine r_getI C0 K0 10 (mu.1 10 0) dX6_move_18 (tC 226 rfl rfl) (by decide) rfl (rg_10 al _) rfl ?_
  refine k_iconst C0 1 dX6_move_21 (by decide) ?_
  refine k_isub C0 dX6_move_22 ?_
  refine k_callS C0 K0 dX6_move_23 (ct_in1 l D Y A _ b (0 : Int32) ((mu.1 10 0) - 1) b1 b2) gkX6_69 hyX6_in rfl (by exact Nat.le_of_ble_eq_true rfl) ⟨Nat.le_of_ble_eq_true rfl, Nat.le_of_ble_eq_true rfl⟩ ⟨Nat.le_of_ble_eq_true rfl, Nat.le_of_ble_eq_true rfl⟩ (fun E => kX_no E) (fun u => ?_)
  refine k_if_eq C0 33 dX6_move_26 (by decide) (fun zz => absurd zz (by decide)) (fun _ => ?_)
  refine k_iconst C0 0 dX6_move_29 (by decide) ?_
  refine k_goto C0 34 dX6_move_30 (by decide) ?_
  refine r_putS C0 K0 25 dX6_move_34 (tD 1 rfl rfl) (by decide) rfl rfl (by decide +kernel) (rs_25 al _ _) (by decide) ?_
  refine k_aload_n C0 dX6_move_37 0 rfl ?_
  refine r_getI C0 K0 25 0 dX6_move_38 (tD 1 rfl rfl) (by decide) rfl (rg_25 al _) rI_at ?_
  refine k_if_le C0 46 dX6_move_41 (by decide) (fun _ => ?_) (fun zz => absurd (by decide) zz)
  refine k_aload_n C0 dX6_move_46 0 rfl ?_
  refine r_get C0 K0 16 dX6_move_47 (tC 232 rfl rfl) (by decide) rfl rfl ?_
  refine k_iload_n C0 dX6_move_50 1 rfl ?_
  refine r_iald C0 K0 16 dX6_move_51 (by decide) hi (v := mu.1 16 a.toNatClampNeg) (rI_tr (by decide) rfl) ?_
  refine k_istore_n C0 [(3, _), (0, _), (1, _), (2, _)] dX6_move_52 (by decide) rfl ?_
  refine k_iload_n C0 dX6_move_53 0 rfl ?_
  refine k_iload_n C0 dX6_move_54 3 rfl ?_
  refine k_icmp_eq C0 73 dX6_move_55 (by decide) (fun zz => absurd zz hs) (fun _ => ?_)
  refine k_aload_n C0 dX6_move_58 1 rfl ?_
  refine r_get C0 K0 11 dX6_move_59 (tC 227 rfl rfl) (by decide) rfl rfl ?_
  refine k_iload_n C0 dX6_move_62 0 rfl ?_
  refine r_iald C0 K0 11 dX6_move_63 (by decide) hj (v := mu.1 11 ((mu.1 16 a.toNatClampNeg).toNatClampNeg)) (rI_tr (by decide) rfl) ?_
  refine k_aload_n C0 dX6_move_64 1 rfl ?_
  refine r_get C0 K0 11 dX6_move_65 (tC 227 rfl rfl) (by decide) rfl rfl ?_
  refine k_iload_n C0 dX6_move_68 3 rfl ?_
  refine r_iald C0 K0 11 dX6_move_69 (by decide) hb (v := mu.1 11 b.toNatClampNeg) (rI_tr (by decide) rfl) ?_
  refine k_icmp_eq C0 79 dX6_move_70 (by decide) (fun zz => absurd zz hm) (fun _ => ?_)
  refine k_aload_n C0 dX6_move_73 1 rfl ?_
  refine k_iconst C0 2 dX6_move_74 (by decide) ?_
  refine k_callV C0 K0 dX6_move_75 (ct_fails l D Y A o al (rI mu 25 0 0) (2 : Int32)) gkX6_122 hyX6_fails (fun H hV => r_recv K0 hV) rfl (by exact Nat.le_of_ble_eq_true rfl) ⟨Nat.le_of_ble_eq_true rfl, Nat.le_of_ble_eq_true rfl⟩ ⟨Nat.le_of_ble_eq_true rfl, Nat.le_of_ble_eq_true rfl⟩ (fun E => kX_no E) (fun u => ?_)
  exact k_iret C0 dX6_move_78 hr hlk (Nat.le_of_ble_eq_true rfl) (Nat.le_of_ble_eq_true rfl) () rfl (fun H h => h)
set_option maxRecDepth 100000 in
set_option maxHeartbeats 4000000 in
theorem ct_move_3 (l : Launch) (D : va_G) (Y : Nat → Nat) (A : Nat → Prop) (o : Nat) (al : Nat → Nat) (mu : Rm) (a b : Int32) (a1 : 0 ≤ a) (a2 : a ≤ mu.1 15 0 - 1) (b1 : 0 ≤ b) (b2 : b ≤ mu.1 10 0 - 1) (hi : vp_in a 40) (hj : vp_in (mu.1 16 a.toNatClampNeg) 20) (hb : vp_in b 20) (hs : ¬ mu.1 16 a.toNatClampNeg = b) (hm : mu.1 11 (mu.1 16 a.toNatClampNeg).toNatClampNeg = mu.1 11 b.toNatClampNeg) (he : mu.1 18 a.toNatClampNeg = -1) : CT l yX6_move (Cond.code yX6_move cX6_move 4 (some .int)) 1 22 D Y A [.ref o, .int a, .int b] (WR D Y A o al mu) (fun _ : Unit => some (.int 0)) (fun _ : Unit => WR D Y A o al (rI (rI mu 25 0 0) 25 0 (3 : Int32))) noX 0 0 := by
  refine CT.of (by decide) (Nat.le_of_ble_eq_true rfl) ?_
  intro p_ e_ s_ m_ below_ meth_ c_ C0 K0 hr hlk htab hnm_
  refine k_aload_n C0 dX6_move_0 0 rfl ?_
  refine k_iload_n C0 dX6_move_1 1 rfl ?_
  refine k_iconst C0 0 dX6_move_2 (by decide) ?_
  refine k_aload_n C0 dX6_move_3 0 rfl ?_
  refine r_getI C0 K0 15 (mu.1 15 0) dX6_move_4 (tC 231 rfl rfl) (by decide) rfl (rg_15 al _) rfl ?_
  refine k_iconst C0 1 dX6_move_7 (by decide) ?_
  refine k_isub C0 dX6_move_8 ?_
  refine k_callS C0 K0 dX6_move_9 (ct_in1 l D Y A _ a (0 : Int32) ((mu.1 15 0) - 1) a1 a2) gkX6_69 hyX6_in rfl (by exact Nat.le_of_ble_eq_true rfl) ⟨Nat.le_of_ble_eq_true rfl, Nat.le_of_ble_eq_true rfl⟩ ⟨Nat.le_of_ble_eq_true rfl, Nat.le_of_ble_eq_true rfl⟩ (fun E => kX_no E) (fun u => ?_)
  refine k_if_eq C0 33 dX6_move_12 (by decide) (fun zz => absurd zz (by decide)) (fun _ => ?_)
  refine k_iload_n C0 dX6_move_15 2 rfl ?_
  refine k_iconst C0 0 dX6_move_16 (by decide) ?_
  refine k_aload_n C0 dX6_move_17 0 rfl ?_
  refine r_getI C0 K0 10 (mu.1 10 0) dX6_move_18 (tC 226 rfl rfl) (by decide) rfl (rg_10 al _) rfl ?_
  refine k_iconst C0 1 dX6_move_21 (by decide) ?_
  refine k_isub C0 dX6_move_22 ?_
  refine k_callS C0 K0 dX6_move_23 (ct_in1 l D Y A _ b (0 : Int32) ((mu.1 10 0) - 1) b1 b2) gkX6_69 hyX6_in rfl (by exact Nat.le_of_ble_eq_true rfl) ⟨Nat.le_of_ble_eq_true rfl, Nat.le_of_ble_eq_true rfl⟩ ⟨Nat.le_of_ble_eq_true rfl, Nat.le_of_ble_eq_true rfl⟩ (fun E => kX_no E) (fun u => ?_)
  refine k_if_eq C0 33 dX6_move_26 (by decide) (fun zz => absurd zz (by decide)) (fun _ => ?_)
  refine k_iconst C0 0 dX6_move_29 (by decide) ?_
  refine k_goto C0 34 dX6_move_30 (by decide) ?_
  refine r_putS C0 K0 25 dX6_move_34 (tD 1 rfl rfl) (by decide) rfl rfl (by decide +kernel) (rs_25 al _ _) (by decide) ?_
  refine k_aload_n C0 dX6_move_37 0 rfl ?_
  refine r_getI C0 K0 25 0 dX6_move_38 (tD 1 rfl rfl) (by decide) rfl (rg_25 al _) rI_at ?_
  refine k_if_le C0 46 dX6_move_41 (by decide) (fun _ => ?_) (fun zz => absurd (by decide) zz)
  refine k_aload_n C0 dX6_move_46 0 rfl ?_
  refine r_get C0 K0 16 dX6_move_47 (tC 232 rfl rfl) (by decide) rfl rfl ?_
  refine k_iload_n C0 dX6_move_50 1 rfl ?_
  refine r_iald C0 K0 16 dX6_move_51 (by decide) hi (v := mu.1 16 a.toNatClampNeg) (rI_tr (by decide) rfl) ?_
  refine k_istore_n C0 [(3, _), (0, _), (1, _), (2, _)] dX6_move_52 (by decide) rfl ?_
  refine k_iload_n C0 dX6_move_53 0 rfl ?_
  refine k_iload_n C0 dX6_move_54 3 rfl ?_
  refine k_icmp_eq C0 73 dX6_move_55 (by decide) (fun zz => absurd zz hs) (fun _ => ?_)
  refine k_aload_n C0 dX6_move_58 1 rfl ?_
  refine r_get C0 K0 11 dX6_move_59 (tC 227 rfl rfl) (by decide) rfl rfl ?_
  refine k_iload_n C0 dX6_move_62 0 rfl ?_
  refine r_iald C0 K0 11 dX6_move_63 (by decide) hj (v := mu.1 11 ((mu.1 16 a.toNatClampNeg).toNatClampNeg)) (rI_tr (by decide) rfl) ?_
  refine k_aload_n C0 dX6_move_64 1 rfl ?_
  refine r_get C0 K0 11 dX6_move_65 (tC 227 rfl rfl) (by decide) rfl rfl ?_
  refine k_iload_n C0 dX6_move_68 3 rfl ?_
  refine r_iald C0 K0 11 dX6_move_69 (by decide) hb (v := mu.1 11 b.toNatClampNeg) (rI_tr (by decide) rfl) ?_
  refine k_icmp_eq C0 79 dX6_move_70 (by decide) (fun _ => ?_) (fun zz => absurd hm zz)
  refine k_aload_n C0 dX6_move_79 1 rfl ?_
  refine r_get C0 K0 18 dX6_move_80 (tC 234 rfl rfl) (by decide) rfl rfl ?_
  refine k_iload_n C0 dX6_move_83 2 rfl ?_
  refine r_iald C0 K0 18 dX6_move_84 (by decide) hi (v := mu.1 18 a.toNatClampNeg) (rI_tr (by decide) rfl) ?_
  refine k_iconst C0 (-1) dX6_move_85 (by decide) ?_
  refine k_icmp_ne C0 95 dX6_move_86 (by decide) (fun zz => absurd he zz) (fun _ => ?_)
  refine k_aload_n C0 dX6_move_89 1 rfl ?_
  refine k_iconst C0 3 dX6_move_90 (by decide) ?_
  refine k_callV C0 K0 dX6_move_91 (ct_fails l D Y A o al (rI mu 25 0 0) (3 : Int32)) gkX6_122 hyX6_fails (fun H hV => r_recv K0 hV) rfl (by exact Nat.le_of_ble_eq_true rfl) ⟨Nat.le_of_ble_eq_true rfl, Nat.le_of_ble_eq_true rfl⟩ ⟨Nat.le_of_ble_eq_true rfl, Nat.le_of_ble_eq_true rfl⟩ (fun E => kX_no E) (fun u => ?_)
  exact k_iret C0 dX6_move_94 hr hlk (Nat.le_of_ble_eq_true rfl) (Nat.le_of_ble_eq_true rfl) () rfl (fun H h => h)
set_option maxRecDepth 100000 in
set_option maxHeartbeats 4000000 in
theorem ct_move_ok (l : Launch) (D : va_G) (Y : Nat → Nat) (A : Nat → Prop) (o : Nat) (al : Nat → Nat) (mu : Rm) (a b : Int32) (a1 : 0 ≤ a) (a2 : a ≤ mu.1 15 0 - 1) (b1 : 0 ≤ b) (b2 : b ≤ mu.1 10 0 - 1) (hi : vp_in a 40) (hj : vp_in (mu.1 16 a.toNatClampNeg) 20) (hb : vp_in b 20) (hs : ¬ mu.1 16 a.toNatClampNeg = b) (hm : mu.1 11 (mu.1 16 a.toNatClampNeg).toNatClampNeg = mu.1 11 b.toNatClampNeg) (he : ¬ mu.1 18 a.toNatClampNeg = -1) : CT l yX6_move (Cond.code yX6_move cX6_move 4 (some .int)) 1 22 D Y A [.ref o, .int a, .int b] (WR D Y A o al mu) (fun _ : Unit => some (.int (mu.1 16 a.toNatClampNeg))) (fun _ : Unit => WR D Y A o al (rI (rI mu 25 0 0) 16 a.toNatClampNeg b)) noX 0 0 := by
  refine CT.of (by decide) (Nat.le_of_ble_eq_true rfl) ?_
  intro p_ e_ s_ m_ below_ meth_ c_ C0 K0 hr hlk htab hnm_
  refine k_aload_n C0 dX6_move_0 0 rfl ?_
  refine k_iload_n C0 dX6_move_1 1 rfl ?_
  refine k_iconst C0 0 dX6_move_2 (by decide) ?_
  refine k_aload_n C0 dX6_move_3 0 rfl ?_
  refine r_getI C0 K0 15 (mu.1 15 0) dX6_move_4 (tC 231 rfl rfl) (by decide) rfl (rg_15 al _) rfl ?_
  refine k_iconst C0 1 dX6_move_7 (by decide) ?_
  refine k_isub C0 dX6_move_8 ?_
  refine k_callS C0 K0 dX6_move_9 (ct_in1 l D Y A _ a (0 : Int32) ((mu.1 15 0) - 1) a1 a2) gkX6_69 hyX6_in rfl (by exact Nat.le_of_ble_eq_true rfl) ⟨Nat.le_of_ble_eq_true rfl, Nat.le_of_ble_eq_true rfl⟩ ⟨Nat.le_of_ble_eq_true rfl, Nat.le_of_ble_eq_true rfl⟩ (fun E => kX_no E) (fun u => ?_)
  refine k_if_eq C0 33 dX6_move_12 (by decide) (fun zz => absurd zz (by decide)) (fun _ => ?_)
  refine k_iload_n C0 dX6_move_15 2 rfl ?_
  refine k_iconst C0 0 dX6_move_16 (by decide) ?_
  refine k_aload_n C0 dX6_move_17 0 rfl ?_
  refine r_getI C0 K0 10 (mu.1 10 0) dX6_move_18 (tC 226 rfl rfl) (by decide) rfl (rg_10 al _) rfl ?_
  refine k_iconst C0 1 dX6_move_21 (by decide) ?_
  refine k_isub C0 dX6_move_22 ?_
  refine k_callS C0 K0 dX6_move_23 (ct_in1 l D Y A _ b (0 : Int32) ((mu.1 10 0) - 1) b1 b2) gkX6_69 hyX6_in rfl (by exact Nat.le_of_ble_eq_true rfl) ⟨Nat.le_of_ble_eq_true rfl, Nat.le_of_ble_eq_true rfl⟩ ⟨Nat.le_of_ble_eq_true rfl, Nat.le_of_ble_eq_true rfl⟩ (fun E => kX_no E) (fun u => ?_)
  refine k_if_eq C0 33 dX6_move_26 (by decide) (fun zz => absurd zz (by decide)) (fun _ => ?_)
  refine k_iconst C0 0 dX6_move_29 (by decide) ?_
  refine k_goto C0 34 dX6_move_30 (by decide) ?_
  refine r_putS C0 K0 25 dX6_move_34 (tD 1 rfl rfl) (by decide) rfl rfl (by decide +kernel) (rs_25 al _ _) (by decide) ?_
  refine k_aload_n C0 dX6_move_37 0 rfl ?_
  refine r_getI C0 K0 25 0 dX6_move_38 (tD 1 rfl rfl) (by decide) rfl (rg_25 al _) rI_at ?_
  refine k_if_le C0 46 dX6_move_41 (by decide) (fun _ => ?_) (fun zz => absurd (by decide) zz)
  refine k_aload_n C0 dX6_move_46 0 rfl ?_
  refine r_get C0 K0 16 dX6_move_47 (tC 232 rfl rfl) (by decide) rfl rfl ?_
  refine k_iload_n C0 dX6_move_50 1 rfl ?_
  refine r_iald C0 K0 16 dX6_move_51 (by decide) hi (v := mu.1 16 a.toNatClampNeg) (rI_tr (by decide) rfl) ?_
  refine k_istore_n C0 [(3, _), (0, _), (1, _), (2, _)] dX6_move_52 (by decide) rfl ?_
  refine k_iload_n C0 dX6_move_53 0 rfl ?_
  refine k_iload_n C0 dX6_move_54 3 rfl ?_
  refine k_icmp_eq C0 73 dX6_move_55 (by decide) (fun zz => absurd zz hs) (fun _ => ?_)
  refine k_aload_n C0 dX6_move_58 1 rfl ?_
  refine r_get C0 K0 11 dX6_move_59 (tC 227 rfl rfl) (by decide) rfl rfl ?_
  refine k_iload_n C0 dX6_move_62 0 rfl ?_
  refine r_iald C0 K0 11 dX6_move_63 (by decide) hj (v := mu.1 11 ((mu.1 16 a.toNatClampNeg).toNatClampNeg)) (rI_tr (by decide) rfl) ?_
  refine k_aload_n C0 dX6_move_64 1 rfl ?_
  refine r_get C0 K0 11 dX6_move_65 (tC 227 rfl rfl) (by decide) rfl rfl ?_
  refine k_iload_n C0 dX6_move_68 3 rfl ?_
  refine r_iald C0 K0 11 dX6_move_69 (by decide) hb (v := mu.1 11 b.toNatClampNeg) (rI_tr (by decide) rfl) ?_
  refine k_icmp_eq C0 79 dX6_move_70 (by decide) (fun _ => ?_) (fun zz => absurd hm zz)
  refine k_aload_n C0 dX6_move_79 1 rfl ?_
  refine r_get C0 K0 18 dX6_move_80 (tC 234 rfl rfl) (by decide) rfl rfl ?_
  refine k_iload_n C0 dX6_move_83 2 rfl ?_
  refine r_iald C0 K0 18 dX6_move_84 (by decide) hi (v := mu.1 18 a.toNatClampNeg) (rI_tr (by decide) rfl) ?_
  refine k_iconst C0 (-1) dX6_move_85 (by decide) ?_
  refine k_icmp_ne C0 95 dX6_move_86 (by decide) (fun _ => ?_) (fun zz => absurd zz he)
  refine k_aload_n C0 dX6_move_95 1 rfl ?_
  refine r_get C0 K0 16 dX6_move_96 (tC 232 rfl rfl) (by decide) rfl rfl ?_
  refine k_iload_n C0 dX6_move_99 2 rfl ?_
  refine k_iload_n C0 dX6_move_100 3 rfl ?_
  refine r_iast C0 K0 16 dX6_move_101 (by decide) hi ?_
  refine k_iload_n C0 dX6_move_102 0 rfl ?_
  exact k_iret C0 dX6_move_103 hr hlk (Nat.le_of_ble_eq_true rfl) (Nat.le_of_ble_eq_true rfl) () rfl (fun H h => h)
set_option maxRecDepth 100000 in
set_option maxHeartbeats 4000000 in
theorem ct_setFailing_1 (l : Launch) (D : va_G) (Y : Nat → Nat) (A : Nat → Prop) (o : Nat) (al : Nat → Nat) (mu : Rm) (a b : Int32) (a1 : ¬ (0 ≤ a ∧ a ≤ mu.1 15 0 - 1)) : CT l yX6_setFailing (Cond.code yX6_setFailing cX6_setFailing 3 none) 2 43 D Y A [.ref o, .int a, .int b] (WR D Y A o al mu) (fun _ : Unit => none) (fun _ : Unit => WR D Y A o al (rI mu 25 0 1)) noX 0 0 := by
  refine CT.of (by decide) (Nat.le_of_ble_eq_true rfl) ?_
  intro p_ e_ s_ m_ below_ meth_ c_ C0 K0 hr hlk htab hnm_
  refine k_aload_n C0 dX6_setFailing_0 0 rfl ?_
  refine k_iload_n C0 dX6_setFailing_1 1 rfl ?_
  refine k_callV C0 K0 dX6_setFailing_2 (ct_isPlan0 l D Y A o al mu a a1) gkX6_131 hyX6_isPlan (fun H hV => r_recv K0 hV) rfl (by exact Nat.le_of_ble_eq_true rfl) ⟨Nat.le_of_ble_eq_true rfl, Nat.le_of_ble_eq_true rfl⟩ ⟨Nat.le_of_ble_eq_true rfl, Nat.le_of_ble_eq_true rfl⟩ (fun E => kX_no E) (fun u => ?_)
  refine k_if_eq C0 27 dX6_setFailing_5 (by decide) (fun _ => ?_) (fun zz => absurd (by decide) zz)
  refine k_aload_n C0 dX6_setFailing_27 0 rfl ?_
  refine r_getI C0 K0 25 1 dX6_setFailing_28 (tD 1 rfl rfl) (by decide) rfl (rg_25 al _) rI_at ?_
  refine k_if_ne C0 49 dX6_setFailing_31 (by decide) (fun _ => ?_) (fun zz => absurd zz (by decide))
  exact k_vret C0 dX6_setFailing_49 hr hlk (Nat.le_of_ble_eq_true rfl) (Nat.le_of_ble_eq_true rfl) () rfl (fun H h => h)
set_option maxRecDepth 100000 in
set_option maxHeartbeats 4000000 in
theorem ct_setFailing_2 (l : Launch) (D : va_G) (Y : Nat → Nat) (A : Nat → Prop) (o : Nat) (al : Nat → Nat) (mu : Rm) (a b : Int32) (a1 : 0 ≤ a) (a2 : a ≤ mu.1 15 0 - 1) (hi : vp_in a 40) (he : mu.1 18 a.toNatClampNeg = -1) : CT l yX6_setFailing (Cond.code yX6_setFailing cX6_setFailing 3 none) 2 43 D Y A [.ref o, .int a, .int b] (WR D Y A o al mu) (fun _ : Unit => none) (fun _ : Unit => WR D Y A o al (rI (rI mu 25 0 0) 25 0 2)) noX 0 0 := by
  refine CT.of (by decide) (Nat.le_of_ble_eq_true rfl) ?_
  intro p_ e_ s_ m_ below_ meth_ c_ C0 K0 hr hlk htab hnm_
  refine k_aload_n C0 dX6_setFailing_0 0 rfl ?_
  refine k_iload_n C0 dX6_setFailing_1 1 rfl ?_
  refine k_callV C0 K0 dX6_setFailing_2 (ct_isPlan1 l D Y A o al mu a a1 a2) gkX6_131 hyX6_isPlan (fun H hV => r_recv K0 hV) rfl (by exact Nat.le_of_ble_eq_true rfl) ⟨Nat.le_of_ble_eq_true rfl, Nat.le_of_ble_eq_true rfl⟩ ⟨Nat.le_of_ble_eq_true rfl, Nat.le_of_ble_eq_true rfl⟩ (fun E => kX_no E) (fun u => ?_)
  refine k_if_eq C0 27 dX6_setFailing_5 (by decide) (fun zz => absurd zz (by decide)) (fun _ => ?_)
  refine k_aload_n C0 dX6_setFailing_8 0 rfl ?_
  refine k_aload_n C0 dX6_setFailing_9 0 rfl ?_
  refine r_get C0 K0 18 dX6_setFailing_10 (tC 234 rfl rfl) (by decide) rfl rfl ?_
  refine k_iload_n C0 dX6_setFailing_13 1 rfl ?_
  refine r_iald C0 K0 18 dX6_setFailing_14 (by decide) hi (v := mu.1 18 a.toNatClampNeg) (rI_tr (by decide) rfl) ?_
  refine k_iconst C0 (-1) dX6_setFailing_15 (by decide) ?_
  refine k_icmp_ne C0 23 dX6_setFailing_16 (by decide) (fun zz => absurd he zz) (fun _ => ?_)
  refine k_iconst C0 2 dX6_setFailing_19 (by decide) ?_
  refine k_goto C0 24 dX6_setFailing_20 (by decide) ?_
  refine r_putS C0 K0 25 dX6_setFailing_24 (tD 1 rfl rfl) (by decide) rfl rfl (by decide +kernel) (rs_25 al _ _) (by decide) ?_
  refine k_aload_n C0 dX6_setFailing_27 0 rfl ?_
  refine r_getI C0 K0 25 2 dX6_setFailing_28 (tD 1 rfl rfl) (by decide) rfl (rg_25 al _) rI_at ?_
  refine k_if_ne C0 49 dX6_setFailing_31 (by decide) (fun _ => ?_) (fun zz => absurd zz (by decide))
  exact k_vret C0 dX6_setFailing_49 hr hlk (Nat.le_of_ble_eq_true rfl) (Nat.le_of_ble_eq_true rfl) () rfl (fun H h => h)
set_option maxRecDepth 100000 in
set_option maxHeartbeats 4000000 in
theorem ct_setFailing_ok (l : Launch) (D : va_G) (Y : Nat → Nat) (A : Nat → Prop) (o : Nat) (al : Nat → Nat) (mu : Rm) (a b : Int32) (a1 : 0 ≤ a) (a2 : a ≤ mu.1 15 0 - 1) (hi : vp_in a 40) (he : ¬ mu.1 18 a.toNatClampNeg = -1) : CT l yX6_setFailing (Cond.code yX6_setFailing cX6_setFailing 3 none) 2 43 D Y A [.ref o, .int a, .int b] (WR D Y A o al mu) (fun _ : Unit => none) (fun _ : Unit => WR D Y A o al (rI (rI (rI mu 25 0 0) 25 0 0) 22 a.toNatClampNeg (if b = 0 then 0 else 1))) noX 0 0 := by
  refine CT.of (by decide) (Nat.le_of_ble_eq_true rfl) ?_
  intro p_ e_ s_ m_ below_ meth_ c_ C0 K0 hr hlk htab hnm_
  refine k_aload_n C0 dX6_setFailing_0 0 rfl ?_
  refine k_iload_n C0 dX6_setFailing_1 1 rfl ?_
  refine k_callV C0 K0 dX6_setFailing_2 (ct_isPlan1 l D Y A o al mu a a1 a2) gkX6_131 hyX6_isPlan (fun H hV => r_recv K0 hV) rfl (by exact Nat.le_of_ble_eq_true rfl) ⟨Nat.le_of_ble_eq_true rfl, Nat.le_of_ble_eq_true rfl⟩ ⟨Nat.le_of_ble_eq_true rfl, Nat.le_of_ble_eq_true rfl⟩ (fun E => kX_no E) (fun u => ?_)
  refine k_if_eq C0 27 dX6_setFailing_5 (by decide) (fun zz => absurd zz (by decide)) (fun _ => ?_)
  refine k_aload_n C0 dX6_setFailing_8 0 rfl ?_
  refine k_aload_n C0 dX6_setFailing_9 0 rfl ?_
  refine r_get C0 K0 18 dX6_setFailing_10 (tC 234 rfl rfl) (by decide) rfl rfl ?_
  refine k_iload_n C0 dX6_setFailing_13 1 rfl ?_
  refine r_iald C0 K0 18 dX6_setFailing_14 (by decide) hi (v := mu.1 18 a.toNatClampNeg) (rI_tr (by decide) rfl) ?_
  refine k_iconst C0 (-1) dX6_setFailing_15 (by decide) ?_
  refine k_icmp_ne C0 23 dX6_setFailing_16 (by decide) (fun _ => ?_) (fun zz => absurd zz he)
  refine k_iconst C0 0 dX6_setFailing_23 (by decide) ?_
  refine r_putS C0 K0 25 dX6_setFailing_24 (tD 1 rfl rfl) (by decide) rfl rfl (by decide +kernel) (rs_25 al _ _) (by decide) ?_
  refine k_aload_n C0 dX6_setFailing_27 0 rfl ?_
  refine r_getI C0 K0 25 0 dX6_setFailing_28 (tD 1 rfl rfl) (by decide) rfl (rg_25 al _) rI_at ?_
  refine k_if_ne C0 49 dX6_setFailing_31 (by decide) (fun zz => absurd (by decide) zz) (fun _ => ?_)
  refine k_aload_n C0 dX6_setFailing_34 0 rfl ?_
  refine r_get C0 K0 22 dX6_setFailing_35 (tC 238 rfl rfl) (by decide) rfl rfl ?_
  refine k_iload_n C0 dX6_setFailing_38 1 rfl ?_
  refine k_iload_n C0 dX6_setFailing_39 2 rfl ?_
  refine k_if_eq C0 47 dX6_setFailing_40 (by decide) (fun h40 => ?_) (fun h40 => ?_)
  ·
    refine k_iconst C0 0 dX6_setFailing_47 (by decide) ?_
    refine r_iast C0 K0 22 dX6_setFailing_48 (by decide) hi ?_
    exact k_vret C0 dX6_setFailing_49 hr hlk (Nat.le_of_ble_eq_true rfl) (Nat.le_of_ble_eq_true rfl) () rfl (by first | (rw [if_pos h40]; exact fun H h => h) | (rw [if_neg h40]; exact fun H h => h))
  ·
    refine k_iconst C0 1 dX6_setFailing_43 (by decide) ?_
    refine k_goto C0 48 dX6_setFailing_44 (by decide) ?_
    refine r_iast C0 K0 22 dX6_setFailing_48 (by decide) hi ?_
    exact k_vret C0 dX6_setFailing_49 hr hlk (Nat.le_of_ble_eq_true rfl) (Nat.le_of_ble_eq_true rfl) () rfl (by first | (rw [if_pos h40]; exact fun H h => h) | (rw [if_neg h40]; exact fun H h => h))
set_option maxRecDepth 100000 in
set_option maxHeartbeats 4000000 in
theorem ct_cancel_1 (l : Launch) (D : va_G) (Y : Nat → Nat) (A : Nat → Prop) (o : Nat) (al : Nat → Nat) (mu : Rm) (a : Int32) (a1 : ¬ (0 ≤ a ∧ a ≤ mu.1 15 0 - 1)) : CT l yX6_cancel (Cond.code yX6_cancel cX6_cancel 2 (some .int)) 2 43 D Y A [.ref o, .int a] (WR D Y A o al mu) (fun _ : Unit => some (.int 0)) (fun _ : Unit => WR D Y A o al (rI mu 25 0 1)) noX 0 0 := by
  refine CT.of (by decide) (Nat.le_of_ble_eq_true rfl) ?_
  intro p_ e_ s_ m_ below_ meth_ c_ C0 K0 hr hlk htab hnm_
  refine k_aload_n C0 dX6_cancel_0 0 rfl ?_
  refine k_iload_n C0 dX6_cancel_1 1 rfl ?_
  refine k_callV C0 K0 dX6_cancel_2 (ct_isPlan0 l D Y A o al mu a a1) gkX6_131 hyX6_isPlan (fun H hV => r_recv K0 hV) rfl (by exact Nat.le_of_ble_eq_true rfl) ⟨Nat.le_of_ble_eq_true rfl, Nat.le_of_ble_eq_true rfl⟩ ⟨Nat.le_of_ble_eq_true rfl, Nat.le_of_ble_eq_true rfl⟩ (fun E => kX_no E) (fun u => ?_)
  refine k_if_ne C0 10 dX6_cancel_5 (by decide) (fun zz => absurd (by decide) zz) (fun _ => ?_)
  refine k_iconst C0 0 dX6_cancel_8 (by decide) ?_
  exact k_iret C0 dX6_cancel_9 hr hlk (Nat.le_of_ble_eq_true rfl) (Nat.le_of_ble_eq_true rfl) () rfl (fun H h => h)
set_option maxRecDepth 100000 in
set_option maxHeartbeats 4000000 in
theorem ct_cancel_2 (l : Launch) (D : va_G) (Y : Nat → Nat) (A : Nat → Prop) (o : Nat) (al : Nat → Nat) (mu : Rm) (a : Int32) (a1 : 0 ≤ a) (a2 : a ≤ mu.1 15 0 - 1) (hi : vp_in a 40) (he : mu.1 18 a.toNatClampNeg = -1) : CT l yX6_cancel (Cond.code yX6_cancel cX6_cancel 2 (some .int)) 2 43 D Y A [.ref o, .int a] (WR D Y A o al mu) (fun _ : Unit => some (.int 0)) (fun _ : Unit => WR D Y A o al (rI (rI mu 25 0 0) 25 0 (2 : Int32))) noX 0 0 := by
  refine CT.of (by decide) (Nat.le_of_ble_eq_true rfl) ?_
  intro p_ e_ s_ m_ below_ meth_ c_ C0 K0 hr hlk htab hnm_
  refine k_aload_n C0 dX6_cancel_0 0 rfl ?_
  refine k_iload_n C0 dX6_cancel_1 1 rfl ?_
  refine k_callV C0 K0 dX6_cancel_2 (ct_isPlan1 l D Y A o al mu a a1 a2) gkX6_131 hyX6_isPlan (fun H hV => r_recv K0 hV) rfl (by exact Nat.le_of_ble_eq_true rfl) ⟨Nat.le_of_ble_eq_true rfl, Nat.le_of_ble_eq_true rfl⟩ ⟨Nat.le_of_ble_eq_true rfl, Nat.le_of_ble_eq_true rfl⟩ (fun E => kX_no E) (fun u => ?_)
  refine k_if_ne C0 10 dX6_cancel_5 (by decide) (fun _ => ?_) (fun zz => absurd zz (by decide))
  refine k_aload_n C0 dX6_cancel_10 0 rfl ?_
  refine r_get C0 K0 18 dX6_cancel_11 (tC 234 rfl rfl) (by decide) rfl rfl ?_
  refine k_iload_n C0 dX6_cancel_14 1 rfl ?_
  refine r_iald C0 K0 18 dX6_cancel_15 (by decide) hi (v := mu.1 18 a.toNatClampNeg) (rI_tr (by decide) rfl) ?_
  refine k_iconst C0 (-1) dX6_cancel_16 (by decide) ?_
  refine k_icmp_ne C0 26 dX6_cancel_17 (by decide) (fun zz => absurd he zz) (fun _ => ?_)
  refine k_aload_n C0 dX6_cancel_20 0 rfl ?_
  refine k_iconst C0 2 dX6_cancel_21 (by decide) ?_
  refine k_callV C0 K0 dX6_cancel_22 (ct_fails l D Y A o al (rI mu 25 0 0) (2 : Int32)) gkX6_122 hyX6_fails (fun H hV => r_recv K0 hV) rfl (by exact Nat.le_of_ble_eq_true rfl) ⟨Nat.le_of_ble_eq_true rfl, Nat.le_of_ble_eq_true rfl⟩ ⟨Nat.le_of_ble_eq_true rfl, Nat.le_of_ble_eq_true rfl⟩ (fun E => kX_no E) (fun u => ?_)
  exact k_iret C0 dX6_cancel_25 hr hlk (Nat.le_of_ble_eq_true rfl) (Nat.le_of_ble_eq_true rfl) () rfl (fun H h => h)
set_option maxRecDepth 100000 in
set_option maxHeartbeats 4000000 in
theorem ct_cancel_ok (l : Launch) (D : va_G) (Y : Nat → Nat) (A : Nat → Prop) (o : Nat) (al : Nat → Nat) (mu : Rm) (a : Int32) (a1 : 0 ≤ a) (a2 : a ≤ mu.1 15 0 - 1) (hi : vp_in a 40) (he : ¬ mu.1 18 a.toNatClampNeg = -1) : CT l yX6_cancel (Cond.code yX6_cancel cX6_cancel 2 (some .int)) 2 43 D Y A [.ref o, .int a] (WR D Y A o al mu) (fun _ : Unit => some (.int (mu.1 20 a.toNatClampNeg))) (fun _ : Unit => WR D Y A o al (rI (rI mu 25 0 0) 18 a.toNatClampNeg (-1))) noX 0 0 := by
  refine CT.of (by decide) (Nat.le_of_ble_eq_true rfl) ?_
  intro p_ e_ s_ m_ below_ meth_ c_ C0 K0 hr hlk htab hnm_
  refine k_aload_n C0 dX6_cancel_0 0 rfl ?_
  refine k_iload_n C0 dX6_cancel_1 1 rfl ?_
  refine k_callV C0 K0 dX6_cancel_2 (ct_isPlan1 l D Y A o al mu a a1 a2) gkX6_131 hyX6_isPlan (fun H hV => r_recv K0 hV) rfl (by exact Nat.le_of_ble_eq_true rfl) ⟨Nat.le_of_ble_eq_true rfl, Nat.le_of_ble_eq_true rfl⟩ ⟨Nat.le_of_ble_eq_true rfl, Nat.le_of_ble_eq_true rfl⟩ (fun E => kX_no E) (fun u => ?_)
  refine k_if_ne C0 10 dX6_cancel_5 (by decide) (fun _ => ?_) (fun zz => absurd zz (by decide))
  refine k_aload_n C0 dX6_cancel_10 0 rfl ?_
  refine r_get C0 K0 18 dX6_cancel_11 (tC 234 rfl rfl) (by decide) rfl rfl ?_
  refine k_iload_n C0 dX6_cancel_14 1 rfl ?_
  refine r_iald C0 K0 18 dX6_cancel_15 (by decide) hi (v := mu.1 18 a.toNatClampNeg) (rI_tr (by decide) rfl) ?_
  refine k_iconst C0 (-1) dX6_cancel_16 (by decide) ?_
  refine k_icmp_ne C0 26 dX6_cancel_17 (by decide) (fun _ => ?_) (fun zz => absurd zz he)
  refine k_aload_n C0 dX6_cancel_26 0 rfl ?_
  refine r_get C0 K0 18 dX6_cancel_27 (tC 234 rfl rfl) (by decide) rfl rfl ?_
  refine k_iload_n C0 dX6_cancel_30 1 rfl ?_
  refine k_iconst C0 (-1) dX6_cancel_31 (by decide) ?_
  refine r_iast C0 K0 18 dX6_cancel_32 (by decide) hi ?_
  refine k_aload_n C0 dX6_cancel_33 0 rfl ?_
  refine r_get C0 K0 20 dX6_cancel_34 (tC 236 rfl rfl) (by decide) rfl rfl ?_
  refine k_iload_n C0 dX6_cancel_37 1 rfl ?_
  refine r_iald C0 K0 20 dX6_cancel_38 (by decide) hi (v := mu.1 20 a.toNatClampNeg) (rI_tr (by decide) (rI_tr (by decide) rfl)) ?_
  exact k_iret C0 dX6_cancel_39 hr hlk (Nat.le_of_ble_eq_true rfl) (Nat.le_of_ble_eq_true rfl) () rfl (fun H h => h)
set_option maxRecDepth 100000 in
set_option maxHeartbeats 4000000 in
theorem ct_payout_1 (l : Launch) (D : va_G) (Y : Nat → Nat) (A : Nat → Prop) (o : Nat) (al : Nat → Nat) (mu : Rm) (a b : Int32) (a1 : ¬ (0 ≤ a ∧ a ≤ mu.1 4 0 - 1)) : CT l yX6_payout (Cond.code yX6_payout cX6_payout 3 (some .int)) 1 22 D Y A [.ref o, .int a, .int b] (WR D Y A o al mu) (fun _ : Unit => some (.int 0)) (fun _ : Unit => WR D Y A o al (rI mu 25 0 1)) noX 0 0 := by
  refine CT.of (by decide) (Nat.le_of_ble_eq_true rfl) ?_
  intro p_ e_ s_ m_ below_ meth_ c_ C0 K0 hr hlk htab hnm_
  refine k_aload_n C0 dX6_payout_0 0 rfl ?_
  refine k_iload_n C0 dX6_payout_1 1 rfl ?_
  refine k_iconst C0 0 dX6_payout_2 (by decide) ?_
  refine k_aload_n C0 dX6_payout_3 0 rfl ?_
  refine r_getI C0 K0 4 (mu.1 4 0) dX6_payout_4 (tC 220 rfl rfl) (by decide) rfl (rg_4 al _) rfl ?_
  refine k_iconst C0 1 dX6_payout_7 (by decide) ?_
  refine k_isub C0 dX6_payout_8 ?_
  refine k_callS C0 K0 dX6_payout_9 (ct_in0 l D Y A _ a (0 : Int32) ((mu.1 4 0) - 1) a1) gkX6_69 hyX6_in rfl (by exact Nat.le_of_ble_eq_true rfl) ⟨Nat.le_of_ble_eq_true rfl, Nat.le_of_ble_eq_true rfl⟩ ⟨Nat.le_of_ble_eq_true rfl, Nat.le_of_ble_eq_true rfl⟩ (fun E => kX_no E) (fun u => ?_)
  refine k_if_ne C0 19 dX6_payout_12 (by decide) (fun zz => absurd (by decide) zz) (fun _ => ?_)
  refine k_iconst C0 1 dX6_payout_15 (by decide) ?_
  refine k_goto C0 41 dX6_payout_16 (by decide) ?_
  refine r_putS C0 K0 25 dX6_payout_41 (tD 1 rfl rfl) (by decide) rfl rfl (by decide +kernel) (rs_25 al _ _) (by decide) ?_
  refine k_aload_n C0 dX6_payout_44 0 rfl ?_
  refine r_getI C0 K0 25 1 dX6_payout_45 (tD 1 rfl rfl) (by decide) rfl (rg_25 al _) rI_at ?_
  refine k_if_ne C0 65 dX6_payout_48 (by decide) (fun _ => ?_) (fun zz => absurd zz (by decide))
  refine k_iconst C0 0 dX6_payout_65 (by decide) ?_
  exact k_iret C0 dX6_payout_66 hr hlk (Nat.le_of_ble_eq_true rfl) (Nat.le_of_ble_eq_true rfl) () rfl (fun H h => h)
set_option maxRecDepth 100000 in
set_option maxHeartbeats 4000000 in
theorem ct_payout_2 (l : Launch) (D : va_G) (Y : Nat → Nat) (A : Nat → Prop) (o : Nat) (al : Nat → Nat) (mu : Rm) (a b : Int32) (a1 : 0 ≤ a) (a2 : a ≤ mu.1 4 0 - 1) (b1 : ¬ (0 ≤ b ∧ b ≤ mu.1 0 0 / 30 - 1)) : CT l yX6_payout (Cond.code yX6_payout cX6_payout 3 (some .int)) 1 22 D Y A [.ref o, .int a, .int b] (WR D Y A o al mu) (fun _ : Unit => some (.int 0)) (fun _ : Unit => WR D Y A o al (rI mu 25 0 2)) noX 0 0 := by
  refine CT.of (by decide) (Nat.le_of_ble_eq_true rfl) ?_
  intro p_ e_ s_ m_ below_ meth_ c_ C0 K0 hr hlk htab hnm_
  refine k_aload_n C0 dX6_payout_0 0 rfl ?_
  refine k_iload_n C0 dX6_payout_1 1 rfl ?_
  refine k_iconst C0 0 dX6_payout_2 (by decide) ?_
  refine k_aload_n C0 dX6_payout_3 0 rfl ?_
  refine r_getI C0 K0 4 (mu.1 4 0) dX6_payout_4 (tC 220 rfl rfl) (by decide) rfl (rg_4 al _) rfl ?_
  refine k_iconst C0 1 dX6_payout_7 (by decide) ?_
  refine k_isub C0 dX6_payout_8 ?_
  refine k_callS C0 K0 dX6_payout_9 (ct_in1 l D Y A _ a (0 : Int32) ((mu.1 4 0) - 1) a1 a2) gkX6_69 hyX6_in rfl (by exact Nat.le_of_ble_eq_true rfl) ⟨Nat.le_of_ble_eq_true rfl, Nat.le_of_ble_eq_true rfl⟩ ⟨Nat.le_of_ble_eq_true rfl, Nat.le_of_ble_eq_true rfl⟩ (fun E => kX_no E) (fun u => ?_)
  refine k_if_ne C0 19 dX6_payout_12 (by decide) (fun _ => ?_) (fun zz => absurd zz (by decide))
  refine k_iload_n C0 dX6_payout_19 2 rfl ?_
  refine k_iconst C0 0 dX6_payout_20 (by decide) ?_
  refine k_aload_n C0 dX6_payout_21 0 rfl ?_
  refine r_getI C0 K0 0 (mu.1 0 0) dX6_payout_22 (tC 216 rfl rfl) (by decide) rfl (rg_0 al _) rfl ?_
  refine k_bipush C0 30 dX6_payout_25 (by decide) ?_
  refine k_idiv C0 dX6_payout_27 (by decide) ?_
  refine k_iconst C0 1 dX6_payout_28 (by decide) ?_
  refine k_isub C0 dX6_payout_29 ?_
  refine k_callS C0 K0 dX6_payout_30 (ct_in0 l D Y A _ b (0 : Int32) (((mu.1 0 0) / 30) - 1) b1) gkX6_69 hyX6_in rfl (by exact Nat.le_of_ble_eq_true rfl) ⟨Nat.le_of_ble_eq_true rfl, Nat.le_of_ble_eq_true rfl⟩ ⟨Nat.le_of_ble_eq_true rfl, Nat.le_of_ble_eq_true rfl⟩ (fun E => kX_no E) (fun u => ?_)
  refine k_if_ne C0 40 dX6_payout_33 (by decide) (fun zz => absurd (by decide) zz) (fun _ => ?_)
  refine k_iconst C0 2 dX6_payout_36 (by decide) ?_
  refine k_goto C0 41 dX6_payout_37 (by decide) ?_
  refine r_putS C0 K0 25 dX6_payout_41 (tD 1 rfl rfl) (by decide) rfl rfl (by decide +kernel) (rs_25 al _ _) (by decide) ?_
  refine k_aload_n C0 dX6_payout_44 0 rfl ?_
  refine r_getI C0 K0 25 2 dX6_payout_45 (tD 1 rfl rfl) (by decide) rfl (rg_25 al _) rI_at ?_
  refine k_if_ne C0 65 dX6_payout_48 (by decide) (fun _ => ?_) (fun zz => absurd zz (by decide))
  refine k_iconst C0 0 dX6_payout_65 (by decide) ?_
  exact k_iret C0 dX6_payout_66 hr hlk (Nat.le_of_ble_eq_true rfl) (Nat.le_of_ble_eq_true rfl) () rfl (fun H h => h)
set_option maxRecDepth 100000 in
set_option maxHeartbeats 4000000 in
theorem ct_payout_ok (l : Launch) (D : va_G) (Y : Nat → Nat) (A : Nat → Prop) (o : Nat) (al : Nat → Nat) (mu : Rm) (a b : Int32) (a1 : 0 ≤ a) (a2 : a ≤ mu.1 4 0 - 1) (b1 : 0 ≤ b) (b2 : b ≤ mu.1 0 0 / 30 - 1) (hi : vp_in (120 * a + b) 720) : CT l yX6_payout (Cond.code yX6_payout cX6_payout 3 (some .int)) 1 22 D Y A [.ref o, .int a, .int b] (WR D Y A o al mu) (fun _ : Unit => some (.int (mu.1 9 (((120 * a) + b).toNatClampNeg)))) (fun _ : Unit => WR D Y A o al (rI mu 25 0 0)) noX 0 0 := by
  refine CT.of (by decide) (Nat.le_of_ble_eq_true rfl) ?_
  intro p_ e_ s_ m_ below_ meth_ c_ C0 K0 hr hlk htab hnm_
  refine k_aload_n C0 dX6_payout_0 0 rfl ?_
  refine k_iload_n C0 dX6_payout_1 1 rfl ?_
  refine k_iconst C0 0 dX6_payout_2 (by decide) ?_
  refine k_aload_n C0 dX6_payout_3 0 rfl ?_
  refine r_getI C0 K0 4 (mu.1 4 0) dX6_payout_4 (tC 220 rfl rfl) (by decide) rfl (rg_4 al _) rfl ?_
  refine k_iconst C0 1 dX6_payout_7 (by decide) ?_
  refine k_isub C0 dX6_payout_8 ?_
  refine k_callS C0 K0 dX6_payout_9 (ct_in1 l D Y A _ a (0 : Int32) ((mu.1 4 0) - 1) a1 a2) gkX6_69 hyX6_in rfl (by exact Nat.le_of_ble_eq_true rfl) ⟨Nat.le_of_ble_eq_true rfl, Nat.le_of_ble_eq_true rfl⟩ ⟨Nat.le_of_ble_eq_true rfl, Nat.le_of_ble_eq_true rfl⟩ (fun E => kX_no E) (fun u => ?_)
  refine k_if_ne C0 19 dX6_payout_12 (by decide) (fun _ => ?_) (fun zz => absurd zz (by decide))
  refine k_iload_n C0 dX6_payout_19 2 rfl ?_
  refine k_iconst C0 0 dX6_payout_20 (by decide) ?_
  refine k_aload_n C0 dX6_payout_21 0 rfl ?_
  refine r_getI C0 K0 0 (mu.1 0 0) dX6_payout_22 (tC 216 rfl rfl) (by decide) rfl (rg_0 al _) rfl ?_
  refine k_bipush C0 30 dX6_payout_25 (by decide) ?_
  refine k_idiv C0 dX6_payout_27 (by decide) ?_
  refine k_iconst C0 1 dX6_payout_28 (by decide) ?_
  refine k_isub C0 dX6_payout_29 ?_
  refine k_callS C0 K0 dX6_payout_30 (ct_in1 l D Y A _ b (0 : Int32) (((mu.1 0 0) / 30) - 1) b1 b2) gkX6_69 hyX6_in rfl (by exact Nat.le_of_ble_eq_true rfl) ⟨Nat.le_of_ble_eq_true rfl, Nat.le_of_ble_eq_true rfl⟩ ⟨Nat.le_of_ble_eq_true rfl, Nat.le_of_ble_eq_true rfl⟩ (fun E => kX_no E) (fun u => ?_)
  refine k_if_ne C0 40 dX6_payout_33 (by decide) (fun _ => ?_) (fun zz => absurd zz (by decide))
  refine k_iconst C0 0 dX6_payout_40 (by decide) ?_
  refine r_putS C0 K0 25 dX6_payout_41 (tD 1 rfl rfl) (by decide) rfl rfl (by decide +kernel) (rs_25 al _ _) (by decide) ?_
  refine k_aload_n C0 dX6_payout_44 0 rfl ?_
  refine r_getI C0 K0 25 0 dX6_payout_45 (tD 1 rfl rfl) (by decide) rfl (rg_25 al _) rI_at ?_
  refine k_if_ne C0 65 dX6_payout_48 (by decide) (fun zz => absurd (by decide) zz) (fun _ => ?_)
  refine k_aload_n C0 dX6_payout_51 0 rfl ?_
  refine r_get C0 K0 9 dX6_payout_52 (tC 225 rfl rfl) (by decide) rfl rfl ?_
  refine k_bipush C0 120 dX6_payout_55 (by decide) ?_
  refine k_iload_n C0 dX6_payout_57 1 rfl ?_
  refine k_imul C0 dX6_payout_58 ?_
  refine k_iload_n C0 dX6_payout_59 2 rfl ?_
  refine k_iadd C0 dX6_payout_60 ?_
  refine r_iald C0 K0 9 dX6_payout_61 (by decide) hi (v := mu.1 9 (((120 * a) + b).toNatClampNeg)) (rI_tr (by decide) rfl) ?_
  refine k_goto C0 66 dX6_payout_62 (by decide) ?_
  exact k_iret C0 dX6_payout_66 hr hlk (Nat.le_of_ble_eq_true rfl) (Nat.le_of_ble_eq_true rfl) () rfl (fun H h => h)
