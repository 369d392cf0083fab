def r_plan1 (q : Int32 × Rm) (i : Nat) : Int32 × Rm := if q.2.1 18 (nI i).toNatClampNeg = q.2.1 0 0 then (q.1 + (if (r_pays q.2 (nI i)).1 = 0 then 0 else 1), (r_pays q.2 (nI i)).2) else (q.1 + 0, q.2)
def r_plansN (q : Int32 × Rm) : Nat → Int32 × Rm
  | 0 => q
  | i + 1 => r_plan1 (r_plansN q i) i
def r_yearN (mu : Rm) : Nat → Rm
  | 0 => mu
  | i + 1 => rI (r_yearN mu i) 6 (nI i).toNatClampNeg 0
def r_dayA (mu : Rm) : Rm := rI mu 0 0 (mu.1 0 0 + 1)
def r_dayB (nm : Nat) (mu : Rm) : Rm := if mu.1 0 0 - mu.1 0 0 / 30 * 30 = 0 then r_closeN mu (mu.1 0 0 / 30 - 1) nm else mu
def r_dayC (nm : Nat) (mu : Rm) : Rm := if mu.1 0 0 - mu.1 0 0 / 360 * 360 = 0 then r_yearN mu nm else mu
def r_day0 (nm : Nat) (mu : Rm) : Rm := r_dayC nm (r_dayB nm (r_dayA mu))
def r_day (nm nu : Nat) (q : Int32 × Rm) : Int32 × Rm := r_plansN (q.1, r_day0 nm q.2) nu
def r_passN (nm nu : Nat) (mu : Rm) : Nat → Int32 × Rm
  | 0 => (0, mu)
  | k + 1 => r_day nm nu (r_passN nm nu mu k)
abbrev rKeep (f : Nat) : Prop := f ∉ [0, 3, 6, 7, 8, 9, 13, 18, 19, 20, 23, 24]
theorem rK {f g : Nat} (h : rKeep f) (hg : g ∈ [0, 3, 6, 7, 8, 9, 13, 18, 19, 20, 23, 24]) : f ≠ g := fun z => h (z ▸ hg)
theorem r_counts_ne (mu : Rm) (s : Int64) (g : Int32) (f : Nat) (h3 : f ≠ 3) (h7 : f ≠ 7) (h23 : f ≠ 23) (h24 : f ≠ 24) : (r_counts mu s g).1 f = mu.1 f := (if_neg h3).trans ((if_neg h24).trans ((if_neg h23).trans (if_neg h7)))
theorem r_sells_ne (mu : Rm) (p ld pr old : Int32) (f : Nat) (h3 : f ≠ 3) (h6 : f ≠ 6) (h7 : f ≠ 7) (h13 : f ≠ 13) (h23 : f ≠ 23) (h24 : f ≠ 24) : (r_sells mu p ld pr old).2.1 f = mu.1 f := (if_neg h13).trans ((r_counts_ne _ _ _ f h3 h7 h23 h24).trans (if_neg h6))
theorem r_pays_ne (mu : Rm) (i : Int32) (f : Nat) (h3 : f ≠ 3) (h6 : f ≠ 6) (h7 : f ≠ 7) (h13 : f ≠ 13) (h23 : f ≠ 23) (h24 : f ≠ 24) (h18 : f ≠ 18) (h19 : f ≠ 19) (h20 : f ≠ 20) : (r_pays mu i).2.1 f = mu.1 f := by
  unfold r_pays
  split
  · exact (if_neg h18).trans (if_neg h19)
  · exact (if_neg h18).trans ((if_neg h19).trans ((if_neg h20).trans (r_sells_ne _ _ _ _ _ f h3 h6 h7 h13 h23 h24)))
theorem r_plan1_ne (q : Int32 × Rm) (i f : Nat) (h3 : f ≠ 3) (h6 : f ≠ 6) (h7 : f ≠ 7) (h13 : f ≠ 13) (h23 : f ≠ 23) (h24 : f ≠ 24) (h18 : f ≠ 18) (h19 : f ≠ 19) (h20 : f ≠ 20) : (r_plan1 q i).2.1 f = q.2.1 f := by
  unfold r_plan1
  split
  · exact r_pays_ne _ _ f h3 h6 h7 h13 h23 h24 h18 h19 h20
  · rfl
theorem r_plansN_ne (q : Int32 × Rm) (f : Nat) (h3 : f ≠ 3) (h6 : f ≠ 6) (h7 : f ≠ 7) (h13 : f ≠ 13) (h23 : f ≠ 23) (h24 : f ≠ 24) (h18 : f ≠ 18) (h19 : f ≠ 19) (h20 : f ≠ 20) : ∀ i, (r_plansN q i).2.1 f = q.2.1 f
  | 0 => rfl
  | i + 1 => (r_plan1_ne _ i f h3 h6 h7 h13 h23 h24 h18 h19 h20).trans (r_plansN_ne q f h3 h6 h7 h13 h23 h24 h18 h19 h20 i)
theorem r_yearN_ne (mu : Rm) (f : Nat) (h6 : f ≠ 6) : ∀ i, (r_yearN mu i).1 f = mu.1 f
  | 0 => rfl
  | i + 1 => (if_neg h6).trans (r_yearN_ne mu f h6 i)
theorem r_dayB_ne (nm : Nat) (mu : Rm) (f : Nat) (h7 : f ≠ 7) (h8 : f ≠ 8) (h9 : f ≠ 9) : (r_dayB nm mu).1 f = mu.1 f := by
  unfold r_dayB
  split
  · exact r_closeN_ne mu _ f h7 h8 h9 nm
  · rfl
theorem r_dayC_ne (nm : Nat) (mu : Rm) (f : Nat) (h6 : f ≠ 6) : (r_dayC nm mu).1 f = mu.1 f := by
  unfold r_dayC
  split
  · exact r_yearN_ne mu f h6 nm
  · rfl
theorem r_day0_ne (nm : Nat) (mu : Rm) (f : Nat) (h0 : f ≠ 0) (h6 : f ≠ 6) (h7 : f ≠ 7) (h8 : f ≠ 8) (h9 : f ≠ 9) : (r_day0 nm mu).1 f = mu.1 f := (r_dayC_ne nm _ f h6).trans ((r_dayB_ne nm _ f h7 h8 h9).trans (if_neg h0))
theorem r_day0_0 (nm : Nat) (mu : Rm) : (r_day0 nm mu).1 0 0 = mu.1 0 0 + 1 := (congrFun ((r_dayC_ne nm _ 0 (by decide)).trans (r_dayB_ne nm _ 0 (by decide) (by decide) (by decide))) 0).trans rI_at
theorem r_passN_ne (nm nu : Nat) (mu : Rm) (f : Nat) (h : rKeep f) : ∀ k, (r_passN nm nu mu k).2.1 f = mu.1 f
  | 0 => rfl
  | k + 1 => (r_plansN_ne _ f (rK h (by decide)) (rK h (by decide)) (rK h (by decide)) (rK h (by decide)) (rK h (by decide)) (rK h (by decide)) (rK h (by decide)) (rK h (by decide)) (rK h (by decide)) nu).trans ((r_day0_ne nm _ f (rK h (by decide)) (rK h (by decide)) (rK h (by decide)) (rK h (by decide)) (rK h (by decide))).trans (r_passN_ne nm nu mu f h k))
theorem r_plansN_0 (q : Int32 × Rm) (i : Nat) : (r_plansN q i).2.1 0 = q.2.1 0 := r_plansN_ne q 0 (by decide) (by decide) (by decide) (by decide) (by decide) (by decide) (by decide) (by decide) (by decide) i
theorem r_passN_0 (nm nu : Nat) (mu : Rm) (d : Nat) (h : mu.1 0 0 = nI d) : ∀ k, (r_passN nm nu mu k).2.1 0 0 = nI (d + k)
  | 0 => h
  | k + 1 => by
    show (r_plansN _ nu).2.1 0 0 = _
    rw [congrFun (r_plansN_0 _ nu) 0, r_day0_0, r_passN_0 nm nu mu d h k, nI_1]
    rfl
theorem r_div {d c : Nat} {x : Int32} (h : x = nI d) (hd : d < 2 ^ 31) (hc0 : 0 < c) (hc : c < 2 ^ 31) : x / nI c = nI (d / c) := by rw [h]; exact pk_div hd hc0 hc
theorem r_rem {d c : Nat} {x : Int32} (h : x = nI d) (hd : d < 2 ^ 31) (hc0 : 0 < c) (hc : c < 2 ^ 31) : x - x / nI c * nI c = nI (d % c) := by rw [h]; exact pk_rem hd hc0 hc
theorem r_mon {d : Nat} {x : Int32} (h : x = nI d) (hd : d ≤ 3600) (hz : x - x / 30 * 30 = 0) (h1 : 1 ≤ d) : ∃ j, x / 30 - 1 = nI j ∧ j < 120 := by
  have e1 : x - x / 30 * 30 = nI (d % 30) := r_rem (c := 30) h (by omega) (by decide) (by decide)
  rw [e1] at hz
  have hm : d % 30 = 0 := (nI_eq (b := 0) (by omega) (by decide)).mp hz
  have e2 : x / 30 = nI (d / 30) := r_div (c := 30) h (by omega) (by decide) (by decide)
  refine ⟨d / 30 - 1, ?_, by omega⟩
  rw [e2]
  exact pk_sub (b := 1) (by omega)
theorem gkX6_141 : GoodIn TT (wsV RX6 141 yX6_pays.cls yX6_pays (Cond.code yX6_pays cX6_pays 4 (some .boolean) :: TT)) := goodTV (tD 205 rfl rfl) (tD 207 rfl rfl) (tP 24 rfl) (tA 6 rfl rfl) (tD 208 rfl rfl)
theorem hyX6_pays : yX6_pays.cls ≠ "java/lang/invoke/MethodHandle" ∧ yX6_pays.cls ≠ "java/lang/invoke/VarHandle" ∧ (parseMethodDescriptor yX6_pays.desc).map (fun d => d.parameters.length) = some 1 := by decide +kernel
theorem gkX6_137 : GoodIn TT (wsV RX6 137 yX6_closes.cls yX6_closes (Cond.code yX6_closes cX6_closes 5 none :: TT)) := goodTV (tD 201 rfl rfl) (tD 203 rfl rfl) (tP 23 rfl) (tA 6 rfl rfl) (tD 204 rfl rfl)
theorem hyX6_closes : yX6_closes.cls ≠ "java/lang/invoke/MethodHandle" ∧ yX6_closes.cls ≠ "java/lang/invoke/VarHandle" ∧ (parseMethodDescriptor yX6_closes.desc).map (fun d => d.parameters.length) = some 1 := by decide +kernel
set_option maxRecDepth 100000 in
set_option maxHeartbeats 4000000 in
theorem lp_plans {p : Program} {l : Launch} {e : Env} {R : Room} {s_ : State} {m_ : MethodId} {args_ : Array Value} {below_ : List Frame} {meth_ : Method} {c_ : Code} {Q : State → Prop} {D : va_G} {Y : Nat → Nat} {A : Nat → Prop} {k n : Nat} {o : Nat} {al : Nat → Nat} (C0 : CallFix p m_ c_ cX6_pass 5 s_ args_ TT RX6) (K0 : PK D Y A s_) (q : Int32 × Rm) (dv kv : Int32) (nu : Nat) (hnu : q.2.1 15 0 = nI nu) (h40 : nu ≤ 40) (safe : ∀ i, i < nu → (r_plansN q i).2.1 18 (nI i).toNatClampNeg = (r_plansN q i).2.1 0 0 → r_payOK (r_plansN q i).2 (nI i)) (hR : 7 ≤ R.frames ∧ 223 ≤ R.locals) (hRc : k ≤ R.cells ∧ n ≤ R.slots) (exit : kG p l e R s_ m_ args_ below_ meth_ c_ Q A 5 (WR D Y A o al ((r_plansN q nu).2)) k n 171 [(4, .int (nI nu)), (2, .int ((r_plansN q nu).1)), (0, .ref o), (1, .int dv), (3, .int kv)] []) : ∀ (d i : Nat), i + d = nu → kG p l e R s_ m_ args_ below_ meth_ c_ Q A 5 (WR D Y A o al ((r_plansN q i).2)) k n 125 [(4, .int (nI i)), (2, .int ((r_plansN q i).1)), (0, .ref o), (1, .int dv), (3, .int kv)] [] := by
  intro d
  induction d with
  | zero =>
    intro i hi
    have hb : i = nu := by omega
    subst hb
    refine k_iload C0 dX6_pass_125 0 rfl ?_
    refine k_aload_n C0 dX6_pass_127 2 rfl ?_
    refine r_getI C0 K0 15 (nI i) dX6_pass_128 (tC 231 rfl rfl) (by decide) rfl (rg_15 al _) ((congrFun (r_plansN_ne q 15 (by decide) (by decide) (by decide) (by decide) (by decide) (by decide) (by decide) (by decide) (by decide) i) 0).trans hnu) ?_
    refine k_icmp_ge C0 171 dX6_pass_131 (by decide) (fun _ => ?_) (fun zz => absurd (nI_le (Nat.le_refl i) (by omega)) zz)
    exact exit
  | succ d ih =>
    intro i hi
    refine k_iload C0 dX6_pass_125 0 rfl ?_
    refine k_aload_n C0 dX6_pass_127 2 rfl ?_
    refine r_getI C0 K0 15 (nI nu) dX6_pass_128 (tC 231 rfl rfl) (by decide) rfl (rg_15 al _) ((congrFun (r_plansN_ne q 15 (by decide) (by decide) (by decide) (by decide) (by decide) (by decide) (by decide) (by decide) (by decide) i) 0).trans hnu) ?_
    refine k_icmp_ge C0 171 dX6_pass_131 (by decide) (fun zz => absurd zz (nI_ge (a := i) (b := nu) (by omega) (by omega))) (fun _ => ?_)
    refine k_iload_n C0 dX6_pass_134 1 rfl ?_
    refine k_aload_n C0 dX6_pass_135 2 rfl ?_
    refine r_get C0 K0 18 dX6_pass_136 (tC 234 rfl rfl) (by decide) rfl rfl ?_
    refine k_iload C0 dX6_pass_139 0 rfl ?_
    refine r_iald C0 K0 18 dX6_pass_141 (by decide) (show vp_in (nI i) 40 from vp_in_nI (by omega) (by decide)) (v := ((r_plansN q i).2).1 18 ((nI i).toNatClampNeg)) rfl ?_
    refine k_aload_n C0 dX6_pass_142 2 rfl ?_
    refine r_getI C0 K0 0 (((r_plansN q i).2).1 0 0) dX6_pass_143 (tC 216 rfl rfl) (by decide) rfl (rg_0 al _) rfl ?_
    refine k_icmp_ne C0 162 dX6_pass_146 (by decide) (fun h146 => ?_) (fun h146 => ?_)
    ·
      refine k_iconst C0 0 dX6_pass_162 (by decide) ?_
      refine k_iadd C0 dX6_pass_163 ?_
      refine k_istore_n C0 [(2, _), (4, _), (0, _), (1, _), (3, _)] dX6_pass_164 (by decide) rfl ?_
      refine k_iinc C0 (nI (i + 1)) [(4, _), (2, _), (0, _), (1, _), (3, _)] dX6_pass_165 1 rfl (nI_1 i) (by decide) rfl ?_
      refine k_goto C0 125 dX6_pass_168 (by decide) ?_
      first | refine k_W (V' := WR D Y A o al (r_plansN q (i + 1)).2) (fun H h => by rw [r_plansN]; unfold r_plan1; rw [if_neg h146]; exact h) ?_ | refine k_W (V' := WR D Y A o al (r_plansN q (i + 1)).2) (fun H h => by rw [r_plansN]; unfold r_plan1; rw [if_pos h146]; exact h) ?_
      first | (have en : (r_plansN q i).1 + 0 = (r_plansN q (i + 1)).1 := by rw [r_plansN]; unfold r_plan1; rw [if_neg h146]) | (have en : (r_plansN q i).1 + 0 = (r_plansN q (i + 1)).1 := by rw [r_plansN]; unfold r_plan1; rw [if_pos h146]; show _ = _ + ite _ _ _; rw [if_pos h155]) | (have en : (r_plansN q i).1 + 1 = (r_plansN q (i + 1)).1 := by rw [r_plansN]; unfold r_plan1; rw [if_pos h146]; show _ = _ + ite _ _ _; rw [if_neg h155])
      rw [en]
      exact ih (i + 1) (by omega)
    ·
      refine k_aload_n C0 dX6_pass_149 2 rfl ?_
      refine k_iload C0 dX6_pass_150 0 rfl ?_
      refine k_callV C0 K0 dX6_pass_152 (ct_pays l D Y A o al ((r_plansN q i).2) (nI i) (safe i (by omega) h146)) gkX6_141 hyX6_pays (fun H hV => r_recv K0 hV) rfl (by exact Nat.le_of_ble_eq_true rfl) ⟨Nat.le_trans (Nat.le_of_ble_eq_true rfl) hR.1, Nat.le_trans (Nat.le_of_ble_eq_true rfl) hR.2⟩ hRc (fun E => kX_no E) (fun u => ?_)
      refine k_if_eq C0 162 dX6_pass_155 (by decide) (fun h155 => ?_) (fun h155 => ?_)
      ·
        refine k_iconst C0 0 dX6_pass_162 (by decide) ?_
        refine k_iadd C0 dX6_pass_163 ?_
        refine k_istore_n C0 [(2, _), (4, _), (0, _), (1, _), (3, _)] dX6_pass_164 (by decide) rfl ?_
        refine k_iinc C0 (nI (i + 1)) [(4, _), (2, _), (0, _), (1, _), (3, _)] dX6_pass_165 1 rfl (nI_1 i) (by decide) rfl ?_
        refine k_goto C0 125 dX6_pass_168 (by decide) ?_
        first | refine k_W (V' := WR D Y A o al (r_plansN q (i + 1)).2) (fun H h => by rw [r_plansN]; unfold r_plan1; rw [if_neg h146]; exact h) ?_ | refine k_W (V' := WR D Y A o al (r_plansN q (i + 1)).2) (fun H h => by rw [r_plansN]; unfold r_plan1; rw [if_pos h146]; exact h) ?_
        first | (have en : (r_plansN q i).1 + 0 = (r_plansN q (i + 1)).1 := by rw [r_plansN]; unfold r_plan1; rw [if_neg h146]) | (have en : (r_plansN q i).1 + 0 = (r_plansN q (i + 1)).1 := by rw [r_plansN]; unfold r_plan1; rw [if_pos h146]; show _ = _ + ite _ _ _; rw [if_pos h155]) | (have en : (r_plansN q i).1 + 1 = (r_plansN q (i + 1)).1 := by rw [r_plansN]; unfold r_plan1; rw [if_pos h146]; show _ = _ + ite _ _ _; rw [if_neg h155])
        rw [en]
        exact ih (i + 1) (by omega)
      ·
        refine k_iconst C0 1 dX6_pass_158 (by decide) ?_
        refine k_goto C0 163 dX6_pass_159 (by decide) ?_
        refine k_iadd C0 dX6_pass_163 ?_
        refine k_istore_n C0 [(2, _), (4, _), (0, _), (1, _), (3, _)] dX6_pass_164 (by decide) rfl ?_
        refine k_iinc C0 (nI (i + 1)) [(4, _), (2, _), (0, _), (1, _), (3, _)] dX6_pass_165 1 rfl (nI_1 i) (by decide) rfl ?_
        refine k_goto C0 125 dX6_pass_168 (by decide) ?_
        first | refine k_W (V' := WR D Y A o al (r_plansN q (i + 1)).2) (fun H h => by rw [r_plansN]; unfold r_plan1; rw [if_neg h146]; exact h) ?_ | refine k_W (V' := WR D Y A o al (r_plansN q (i + 1)).2) (fun H h => by rw [r_plansN]; unfold r_plan1; rw [if_pos h146]; exact h) ?_
        first | (have en : (r_plansN q i).1 + 0 = (r_plansN q (i + 1)).1 := by rw [r_plansN]; unfold r_plan1; rw [if_neg h146]) | (have en : (r_plansN q i).1 + 0 = (r_plansN q (i + 1)).1 := by rw [r_plansN]; unfold r_plan1; rw [if_pos h146]; show _ = _ + ite _ _ _; rw [if_pos h155]) | (have en : (r_plansN q i).1 + 1 = (r_plansN q (i + 1)).1 := by rw [r_plansN]; unfold r_plan1; rw [if_pos h146]; show _ = _ + ite _ _ _; rw [if_neg h155])
        rw [en]
        exact ih (i + 1) (by omega)
set_option maxRecDepth 100000 in
set_option maxHeartbeats 4000000 in
theorem lp_year {p : Program} {l : Launch} {e : Env} {R : Room} {s_ : State} {m_ : MethodId} {args_ : Array Value} {below_ : List Frame} {meth_ : Method} {c_ : Code} {Q : State → Prop} {D : va_G} {Y : Nat → Nat} {A : Nat → Prop} {k n : Nat} {o : Nat} {al : Nat → Nat} (C0 : CallFix p m_ c_ cX6_pass 5 s_ args_ TT RX6) (K0 : PK D Y A s_) (mu : Rm) (nv dv kv : Int32) (nm : Nat) (hnm : mu.1 4 0 = nI nm) (h6 : nm ≤ 6) (hz : mu.1 0 0 - mu.1 0 0 / 360 * 360 = 0) (exit : kG p l e R s_ m_ args_ below_ meth_ c_ Q A 5 (WR D Y A o al (r_yearN mu nm)) k n 122 [(4, .int (nI nm)), (2, .int nv), (0, .ref o), (1, .int dv), (3, .int kv)] []) : ∀ (d i : Nat), i + d = nm → kG p l e R s_ m_ args_ below_ meth_ c_ Q A 5 (WR D Y A o al (r_yearN mu i)) k n 88 [(4, .int (nI i)), (2, .int nv), (0, .ref o), (1, .int dv), (3, .int kv)] [] := by
  intro d
  induction d with
  | zero =>
    intro i hi
    have hb : i = nm := by omega
    subst hb
    refine k_iload C0 dX6_pass_88 0 rfl ?_
    refine k_aload_n C0 dX6_pass_90 2 rfl ?_
    refine r_getI C0 K0 4 (nI i) dX6_pass_91 (tC 220 rfl rfl) (by decide) rfl (rg_4 al _) ((congrFun (r_yearN_ne mu 4 (by decide) i) 0).trans hnm) ?_
    refine k_icmp_ge C0 122 dX6_pass_94 (by decide) (fun _ => ?_) (fun zz => absurd (nI_le (Nat.le_refl i) (by omega)) zz)
    exact exit
  | succ d ih =>
    intro i hi
    refine k_iload C0 dX6_pass_88 0 rfl ?_
    refine k_aload_n C0 dX6_pass_90 2 rfl ?_
    refine r_getI C0 K0 4 (nI nm) dX6_pass_91 (tC 220 rfl rfl) (by decide) rfl (rg_4 al _) ((congrFun (r_yearN_ne mu 4 (by decide) i) 0).trans hnm) ?_
    refine k_icmp_ge C0 122 dX6_pass_94 (by decide) (fun zz => absurd zz (nI_ge (a := i) (b := nm) (by omega) (by omega))) (fun _ => ?_)
    refine k_aload_n C0 dX6_pass_97 2 rfl ?_
    refine r_getI C0 K0 0 (mu.1 0 0) dX6_pass_98 (tC 216 rfl rfl) (by decide) rfl (rg_0 al _) (congrFun (r_yearN_ne mu 0 (by decide) i) 0) ?_
    refine k_sipush C0 360 dX6_pass_101 (by decide) ?_
    refine k_irem C0 dX6_pass_104 (by decide) ?_
    refine k_if_ne C0 122 dX6_pass_105 (by decide) (fun zz => absurd hz zz) (fun _ => ?_)
    refine k_aload_n C0 dX6_pass_108 2 rfl ?_
    refine r_get C0 K0 6 dX6_pass_109 (tC 222 rfl rfl) (by decide) rfl rfl ?_
    refine k_iload C0 dX6_pass_112 0 rfl ?_
    refine k_iconst C0 0 dX6_pass_114 (by decide) ?_
    refine r_iast C0 K0 6 dX6_pass_115 (by decide) (show vp_in (nI i) 6 from vp_in_nI (by omega) (by decide)) ?_
    refine k_iinc C0 (nI (i + 1)) [(4, _), (2, _), (0, _), (1, _), (3, _)] dX6_pass_116 0 rfl (nI_1 i) (by decide) rfl ?_
    refine k_goto C0 88 dX6_pass_119 (by decide) ?_
    exact ih (i + 1) (by omega)
set_option maxRecDepth 100000 in
set_option maxHeartbeats 4000000 in
theorem lp_yearZ {p : Program} {l : Launch} {e : Env} {R : Room} {s_ : State} {m_ : MethodId} {args_ : Array Value} {below_ : List Frame} {meth_ : Method} {c_ : Code} {Q : State → Prop} {D : va_G} {Y : Nat → Nat} {A : Nat → Prop} {k n : Nat} {o : Nat} {al : Nat → Nat} (C0 : CallFix p m_ c_ cX6_pass 5 s_ args_ TT RX6) (K0 : PK D Y A s_) (mu : Rm) (nv dv kv : Int32) (nm : Nat) (hnm : mu.1 4 0 = nI nm) (h6 : nm ≤ 6) (exit : ∀ z : Int32, kG p l e R s_ m_ args_ below_ meth_ c_ Q A 5 (WR D Y A o al (r_dayC nm mu)) k n 122 [(4, .int z), (2, .int nv), (0, .ref o), (1, .int dv), (3, .int kv)] []) : kG p l e R s_ m_ args_ below_ meth_ c_ Q A 5 (WR D Y A o al mu) k n 88 [(4, .int (nI 0)), (2, .int nv), (0, .ref o), (1, .int dv), (3, .int kv)] [] := by
  by_cases hz : mu.1 0 0 - mu.1 0 0 / 360 * 360 = 0
  · have ex := exit (nI nm)
    unfold r_dayC at ex
    rw [if_pos hz] at ex
    exact lp_year C0 K0 mu nv dv kv nm hnm h6 hz ex nm 0 (by omega)
  · unfold r_dayC at exit
    rw [if_neg hz] at exit
    refine k_iload C0 dX6_pass_88 0 rfl ?_
    refine k_aload_n C0 dX6_pass_90 2 rfl ?_
    refine r_getI C0 K0 4 (nI nm) dX6_pass_91 (tC 220 rfl rfl) (by decide) rfl (rg_4 al _) hnm ?_
    refine k_icmp_ge C0 122 dX6_pass_94 (by decide) (fun h94 => ?_) (fun h94 => ?_)
    ·
      exact exit _
    ·
      refine k_aload_n C0 dX6_pass_97 2 rfl ?_
      refine r_getI C0 K0 0 (mu.1 0 0) dX6_pass_98 (tC 216 rfl rfl) (by decide) rfl (rg_0 al _) rfl ?_
      refine k_sipush C0 360 dX6_pass_101 (by decide) ?_
      refine k_irem C0 dX6_pass_104 (by decide) ?_
      refine k_if_ne C0 122 dX6_pass_105 (by decide) (fun _ => ?_) (fun zz => absurd zz hz)
      exact exit _
set_option maxRecDepth 100000 in
set_option maxHeartbeats 4000000 in
theorem lp_days {p : Program} {l : Launch} {e : Env} {R : Room} {s_ : State} {m_ : MethodId} {args_ : Array Value} {below_ : List Frame} {meth_ : Method} {c_ : Code} {Q : State → Prop} {D : va_G} {Y : Nat → Nat} {A : Nat → Prop} {k n : Nat} {o : Nat} {al : Nat → Nat} (C0 : CallFix p m_ c_ cX6_pass 5 s_ args_ TT RX6) (K0 : PK D Y A s_) (mu : Rm) (nm nu nd dd : Nat) (hnm : mu.1 4 0 = nI nm) (h6 : nm ≤ 6) (hnu : mu.1 15 0 = nI nu) (h40 : nu ≤ 40) (hth : mu.1 25 0 = 0) (hdd : mu.1 0 0 = nI dd) (h36 : dd + nd ≤ 3600) (safe : ∀ k, k < nd → ∀ i, i < nu → (r_plansN ((r_passN nm nu mu k).1, r_day0 nm (r_passN nm nu mu k).2) i).2.1 18 (nI i).toNatClampNeg = (r_plansN ((r_passN nm nu mu k).1, r_day0 nm (r_passN nm nu mu k).2) i).2.1 0 0 → r_payOK (r_plansN ((r_passN nm nu mu k).1, r_day0 nm (r_passN nm nu mu k).2) i).2 (nI i)) (hR : 7 ≤ R.frames ∧ 223 ≤ R.locals) (hRc : k ≤ R.cells ∧ n ≤ R.slots) (exit : kG p l e R s_ m_ args_ below_ meth_ c_ Q A 5 (WR D Y A o al ((r_passN nm nu mu nd).2)) k n 177 [(3, .int (nI nd)), (2, .int ((r_passN nm nu mu nd).1)), (0, .ref o), (1, .int (nI nd))] []) : ∀ (d i : Nat), i + d = nd → kG p l e R s_ m_ args_ below_ meth_ c_ Q A 5 (WR D Y A o al ((r_passN nm nu mu i).2)) k n 40 [(3, .int (nI i)), (2, .int ((r_passN nm nu mu i).1)), (0, .ref o), (1, .int (nI nd))] [] := by
  intro d
  induction d with
  | zero =>
    intro i hi
    have hb : i = nd := by omega
    subst hb
    refine k_iload_n C0 dX6_pass_40 0 rfl ?_
    refine k_iload_n C0 dX6_pass_41 3 rfl ?_
    refine k_icmp_ge C0 177 dX6_pass_42 (by decide) (fun _ => ?_) (fun zz => absurd (nI_le (Nat.le_refl i) (by omega)) zz)
    exact exit
  | succ d ih =>
    intro i hi
    refine k_iload_n C0 dX6_pass_40 0 rfl ?_
    refine k_iload_n C0 dX6_pass_41 3 rfl ?_
    refine k_icmp_ge C0 177 dX6_pass_42 (by decide) (fun zz => absurd zz (nI_ge (a := i) (b := nd) (by omega) (by omega))) (fun _ => ?_)
    refine k_aload_n C0 dX6_pass_45 2 rfl ?_
    refine r_getI C0 K0 25 0 dX6_pass_46 (tD 1 rfl rfl) (by decide) rfl (rg_25 al _) ((congrFun (r_passN_ne nm nu mu 25 (by decide) i) 0).trans hth) ?_
    refine k_if_ne C0 177 dX6_pass_49 (by decide) (fun zz => absurd (by decide) zz) (fun _ => ?_)
    refine k_aload_n C0 dX6_pass_52 2 rfl ?_
    refine k_dup C0 dX6_pass_53 rfl ?_
    refine r_getI C0 K0 0 (((r_passN nm nu mu i).2).1 0 0) dX6_pass_54 (tC 216 rfl rfl) (by decide) rfl (rg_0 al _) rfl ?_
    refine k_iconst C0 1 dX6_pass_57 (by decide) ?_
    refine k_iadd C0 dX6_pass_58 ?_
    refine r_putS C0 K0 0 dX6_pass_59 (tC 216 rfl rfl) (by decide) rfl rfl (by decide +kernel) (rs_0 al _ _) (by decide) ?_
    refine k_W (V' := WR D Y A o al (r_dayA (r_passN nm nu mu i).2)) (fun H h => h) ?_
    refine k_aload_n C0 dX6_pass_62 2 rfl ?_
    refine r_getI C0 K0 0 ((r_dayA (r_passN nm nu mu i).2).1 0 0) dX6_pass_63 (tC 216 rfl rfl) (by decide) rfl (rg_0 al _) rfl ?_
    refine k_bipush C0 30 dX6_pass_66 (by decide) ?_
    refine k_irem C0 dX6_pass_68 (by decide) ?_
    refine k_if_ne C0 85 dX6_pass_69 (by decide) (fun h69 => ?_) (fun h69 => ?_)
    ·
      first | refine k_W (V' := WR D Y A o al (r_dayB nm (r_dayA (r_passN nm nu mu i).2))) (fun H h => by unfold r_dayB; rw [if_pos h69]; exact h) ?_ | refine k_W (V' := WR D Y A o al (r_dayB nm (r_dayA (r_passN nm nu mu i).2))) (fun H h => by unfold r_dayB; rw [if_neg h69]; exact h) ?_
      refine k_iconst C0 0 dX6_pass_85 (by decide) ?_
      refine k_istore C0 [(4, _), (3, _), (2, _), (0, _), (1, _)] dX6_pass_86 (by decide) rfl ?_
      refine k_lv [0, 2, 3, 4, 1] rfl ?_
      refine lp_yearZ C0 K0 (r_dayB nm (r_dayA (r_passN nm nu mu i).2)) _ _ _ nm ((congrFun (r_dayB_ne nm _ 4 (by decide) (by decide) (by decide)) 0).trans ((congrFun (r_passN_ne nm nu mu 4 (by decide) i) 0).trans hnm)) h6 (fun z => ?_)
      refine k_iconst C0 0 dX6_pass_122 (by decide) ?_
      refine k_istore C0 [(4, _), (2, _), (0, _), (1, _), (3, _)] dX6_pass_123 (by decide) rfl ?_
      refine lp_plans C0 K0 ((r_passN nm nu mu i).1, r_day0 nm (r_passN nm nu mu i).2) _ _ nu ((congrFun (r_day0_ne nm (r_passN nm nu mu i).2 15 (by decide) (by decide) (by decide) (by decide) (by decide)) 0).trans ((congrFun (r_passN_ne nm nu mu 15 (by decide) i) 0).trans hnu)) h40 (safe i (by omega)) ⟨Nat.le_trans (Nat.le_of_ble_eq_true rfl) hR.1, Nat.le_trans (Nat.le_of_ble_eq_true rfl) hR.2⟩ hRc ?_ nu 0 (by omega)
      refine k_iinc C0 (nI (i + 1)) [(3, _), (4, _), (2, _), (0, _), (1, _)] dX6_pass_171 4 rfl (nI_1 i) (by decide) rfl ?_
      refine k_goto C0 40 dX6_pass_174 (by decide) ?_
      refine k_lv [0, 2, 3, 4] rfl ?_
      exact ih (i + 1) (by omega)
    ·
      obtain ⟨j, ej, hj⟩ := r_mon (d := dd + i + 1) (rI_at.trans ((congrArg (fun z : Int32 => z + 1) (r_passN_0 nm nu mu dd hdd i)).trans (nI_1 _))) (by omega) h69 (by omega)
      refine k_aload_n C0 dX6_pass_72 2 rfl ?_
      refine k_aload_n C0 dX6_pass_73 2 rfl ?_
      refine r_getI C0 K0 0 ((r_dayA (r_passN nm nu mu i).2).1 0 0) dX6_pass_74 (tC 216 rfl rfl) (by decide) rfl (rg_0 al _) rfl ?_
      refine k_bipush C0 30 dX6_pass_77 (by decide) ?_
      refine k_idiv C0 dX6_pass_79 (by decide) ?_
      refine k_iconst C0 1 dX6_pass_80 (by decide) ?_
      refine k_isub C0 dX6_pass_81 ?_
      refine k_callV C0 K0 dX6_pass_82 (ct_closes l D Y A o al (r_dayA (r_passN nm nu mu i).2) ((((r_dayA (r_passN nm nu mu i).2).1 0 0) / 30) - 1) nm j ((congrFun (r_passN_ne nm nu mu 4 (by decide) i) 0).trans hnm) h6 ej hj) gkX6_137 hyX6_closes (fun H hV => r_recv K0 hV) rfl (by exact Nat.le_of_ble_eq_true rfl) ⟨Nat.le_trans (Nat.le_of_ble_eq_true rfl) hR.1, Nat.le_trans (Nat.le_of_ble_eq_true rfl) hR.2⟩ hRc (fun E => kX_no E) (fun u => ?_)
      first | refine k_W (V' := WR D Y A o al (r_dayB nm (r_dayA (r_passN nm nu mu i).2))) (fun H h => by unfold r_dayB; rw [if_pos h69]; exact h) ?_ | refine k_W (V' := WR D Y A o al (r_dayB nm (r_dayA (r_passN nm nu mu i).2))) (fun H h => by unfold r_dayB; rw [if_neg h69]; exact h) ?_
      refine k_iconst C0 0 dX6_pass_85 (by decide) ?_
      refine k_istore C0 [(4, _), (3, _), (2, _), (0, _), (1, _)] dX6_pass_86 (by decide) rfl ?_
      refine k_lv [0, 2, 3, 4, 1] rfl ?_
      refine lp_yearZ C0 K0 (r_dayB nm (r_dayA (r_passN nm nu mu i).2)) _ _ _ nm ((congrFun (r_dayB_ne nm _ 4 (by decide) (by decide) (by decide)) 0).trans ((congrFun (r_passN_ne nm nu mu 4 (by decide) i) 0).trans hnm)) h6 (fun z => ?_)
      refine k_iconst C0 0 dX6_pass_122 (by decide) ?_
      refine k_istore C0 [(4, _), (2, _), (0, _), (1, _), (3, _)] dX6_pass_123 (by decide) rfl ?_
      refine lp_plans C0 K0 ((r_passN nm nu mu i).1, r_day0 nm (r_passN nm nu mu i).2) _ _ nu ((congrFun (r_day0_ne nm (r_passN nm nu mu i).2 15 (by decide) (by decide) (by decide) (by decide) (by decide)) 0).trans ((congrFun (r_passN_ne nm nu mu 15 (by decide) i) 0).trans hnu)) h40 (safe i (by omega)) ⟨Nat.le_trans (Nat.le_of_ble_eq_true rfl) hR.1, Nat.le_trans (Nat.le_of_ble_eq_true rfl) hR.2⟩ hRc ?_ nu 0 (by omega)
      refine k_iinc C0 (nI (i + 1)) [(3, _), (4, _), (2, _), (0, _), (1, _)] dX6_pass_171 4 rfl (nI_1 i) (by decide) rfl ?_
      refine k_goto C0 40 dX6_pass_174 (by decide) ?_
      refine k_lv [0, 2, 3, 4] rfl ?_
      exact ih (i + 1) (by omega)
set_option maxRecDepth 100000 in
set_option maxHeartbeats 4000000 in
theorem ct_pass_ok (l : Launch) (D : va_G) (Y : Nat → Nat) (A : Nat → Prop) (o : Nat) (al : Nat → Nat) (mu : Rm) (nm nu nd dd : Nat) (hnm : mu.1 4 0 = nI nm) (h6 : nm ≤ 6) (hnu : mu.1 15 0 = nI nu) (h40 : nu ≤ 40) (hdd : mu.1 0 0 = nI dd) (h1 : 1 ≤ nd) (h400 : nd ≤ 400) (h36 : dd + nd ≤ 3600) (safe : ∀ k, k < nd → ∀ i, i < nu → (r_plansN ((r_passN nm nu (rI mu 25 0 0) k).1, r_day0 nm (r_passN nm nu (rI mu 25 0 0) k).2) i).2.1 18 (nI i).toNatClampNeg = (r_plansN ((r_passN nm nu (rI mu 25 0 0) k).1, r_day0 nm (r_passN nm nu (rI mu 25 0 0) k).2) i).2.1 0 0 → r_payOK (r_plansN ((r_passN nm nu (rI mu 25 0 0) k).1, r_day0 nm (r_passN nm nu (rI mu 25 0 0) k).2) i).2 (nI i)) : CT l yX6_pass (Cond.code yX6_pass cX6_pass 5 (some .int)) 7 223 D Y A [.ref o, .int (nI nd)] (WR D Y A o al mu) (fun _ : Unit => some (.int ((r_passN nm nu (rI mu 25 0 0) nd).1))) (fun _ : Unit => WR D Y A o al ((r_passN nm nu (rI mu 25 0 0) nd).2)) noX 0 0 := by
  refine CT.of (by decide) (Nat.le_of_ble_eq_true rfl) ?_
  intro p_ e_ s_ m_ below_ meth_ c_ C0 K0 hr hlk htab hnm_
  refine k_aload_n C0 dX6_pass_0 0 rfl ?_
  refine k_iload_n C0 dX6_pass_1 1 rfl ?_
  refine k_iconst C0 1 dX6_pass_2 (by decide) ?_
  refine k_sipush C0 400 dX6_pass_3 (by decide) ?_
  refine k_callS C0 K0 dX6_pass_6 (ct_in1 l D Y A _ (nI nd) (1 : Int32) (400 : Int32) (nI_le (a := 1) (by omega) (by omega)) (nI_le (b := 400) (by omega) (by decide))) gkX6_69 hyX6_in rfl (by exact Nat.le_of_ble_eq_true rfl) ⟨Nat.le_of_ble_eq_true rfl, Nat.le_of_ble_eq_true rfl⟩ ⟨Nat.le_of_ble_eq_true rfl, Nat.le_of_ble_eq_true rfl⟩ (fun E => kX_no E) (fun u => ?_)
  refine k_if_ne C0 16 dX6_pass_9 (by decide) (fun _ => ?_) (fun zz => absurd zz (by decide))
  refine k_aload_n C0 dX6_pass_16 0 rfl ?_
  refine r_getI C0 K0 0 (mu.1 0 0) dX6_pass_17 (tC 216 rfl rfl) (by decide) rfl (rg_0 al _) rfl ?_
  refine k_iload_n C0 dX6_pass_20 1 rfl ?_
  refine k_iadd C0 dX6_pass_21 ?_
  refine k_sipush C0 3600 dX6_pass_22 (by decide) ?_
  refine k_icmp_le C0 32 dX6_pass_25 (by decide) (fun _ => ?_) (fun zz => absurd (by rw [hdd, nI_add]; exact nI_le (b := 3600) (by omega) (by decide)) zz)
  refine k_iconst C0 0 dX6_pass_32 (by decide) ?_
  refine r_putS C0 K0 25 dX6_pass_33 (tD 1 rfl rfl) (by decide) rfl rfl (by decide +kernel) (rs_25 al _ _) (by decide) ?_
  refine k_iconst C0 0 dX6_pass_36 (by decide) ?_
  refine k_istore_n C0 [(2, _), (0, _), (1, _)] dX6_pass_37 (by decide) rfl ?_
  refine k_iconst C0 0 dX6_pass_38 (by decide) ?_
  refine k_istore_n C0 [(3, _), (2, _), (0, _), (1, _)] dX6_pass_39 (by decide) rfl ?_
  refine lp_days C0 K0 (rI mu 25 0 0) nm nu nd dd hnm h6 hnu h40 rI_at hdd h36 safe ⟨Nat.le_of_ble_eq_true rfl, Nat.le_of_ble_eq_true rfl⟩ ⟨Nat.le_refl _, Nat.le_refl _⟩ ?_ nd 0 (by omega)
  refine k_iload_n C0 dX6_pass_177 1 rfl ?_
  exact k_iret C0 dX6_pass_178 hr hlk (Nat.le_of_ble_eq_true rfl) (Nat.le_of_ble_eq_true rfl) () rfl (fun H h => h)
set_option maxRecDepth 100000 in
set_option maxHeartbeats 4000000 in
theorem ct_pass_1 (l : Launch) (D : va_G) (Y : Nat → Nat) (A : Nat → Prop) (o : Nat) (al : Nat → Nat) (mu : Rm) (a : Int32) (a1 : ¬ (1 ≤ a ∧ a ≤ 400)) : CT l yX6_pass (Cond.code yX6_pass cX6_pass 5 (some .int)) 7 223 D Y A [.ref o, .int a] (WR D Y A o al mu) (fun _ : Unit => some (.int 0)) (fun _ : Unit => WR D Y A o al (rI mu 25 0 1)) noX 0 0 := by
  refine CT.of (by decide) (Nat.le_of_ble_eq_true rfl) ?_
  intro p_ e_ s_ m_ below_ meth_ c_ C0 K0 hr hlk htab hnm_
  refine k_aload_n C0 dX6_pass_0 0 rfl ?_
  refine k_iload_n C0 dX6_pass_1 1 rfl ?_
  refine k_iconst C0 1 dX6_pass_2 (by decide) ?_
  refine k_sipush C0 400 dX6_pass_3 (by decide) ?_
  refine k_callS C0 K0 dX6_pass_6 (ct_in0 l D Y A _ a (1 : Int32) (400 : Int32) a1) gkX6_69 hyX6_in rfl (by exact Nat.le_of_ble_eq_true rfl) ⟨Nat.le_of_ble_eq_true rfl, Nat.le_of_ble_eq_true rfl⟩ ⟨Nat.le_of_ble_eq_true rfl, Nat.le_of_ble_eq_true rfl⟩ (fun E => kX_no E) (fun u => ?_)
  refine k_if_ne C0 16 dX6_pass_9 (by decide) (fun zz => absurd (by decide) zz) (fun _ => ?_)
  refine k_iconst C0 1 dX6_pass_12 (by decide) ?_
  refine k_goto C0 33 dX6_pass_13 (by decide) ?_
  refine r_putS C0 K0 25 dX6_pass_33 (tD 1 rfl rfl) (by decide) rfl rfl (by decide +kernel) (rs_25 al _ _) (by decide) ?_
  refine k_iconst C0 0 dX6_pass_36 (by decide) ?_
  refine k_istore_n C0 [(2, _), (0, _), (1, _)] dX6_pass_37 (by decide) rfl ?_
  refine k_iconst C0 0 dX6_pass_38 (by decide) ?_
  refine k_istore_n C0 [(3, _), (2, _), (0, _), (1, _)] dX6_pass_39 (by decide) rfl ?_
  refine k_iload_n C0 dX6_pass_40 0 rfl ?_
  refine k_iload_n C0 dX6_pass_41 3 rfl ?_
  refine k_icmp_ge C0 177 dX6_pass_42 (by decide) (fun h42 => ?_) (fun h42 => ?_)
  ·
    refine k_iload_n C0 dX6_pass_177 1 rfl ?_
    exact k_iret C0 dX6_pass_178 hr hlk (Nat.le_of_ble_eq_true rfl) (Nat.le_of_ble_eq_true rfl) () rfl (fun H h => h)
  ·
    refine k_aload_n C0 dX6_pass_45 2 rfl ?_
    refine r_getI C0 K0 25 1 dX6_pass_46 (tD 1 rfl rfl) (by decide) rfl (rg_25 al _) rI_at ?_
    refine k_if_ne C0 177 dX6_pass_49 (by decide) (fun _ => ?_) (fun zz => absurd zz (by decide))
    refine k_iload_n C0 dX6_pass_177 1 rfl ?_
    exact k_iret C0 dX6_pass_178 hr hlk (Nat.le_of_ble_eq_true rfl) (Nat.le_of_ble_eq_true rfl) () rfl (fun H h => h)
set_option maxRecDepth 100000 in
set_option maxHeartbeats 4000000 in
theorem ct_pass_2 (l : Launch) (D : va_G) (Y : Nat → Nat) (A : Nat → Prop) (o : Nat) (al : Nat → Nat) (mu : Rm) (nd : Nat) (h1 : 1 ≤ nd) (h400 : nd ≤ 400) (hb : ¬ mu.1 0 0 + nI nd ≤ 3600) : CT l yX6_pass (Cond.code yX6_pass cX6_pass 5 (some .int)) 7 223 D Y A [.ref o, .int (nI nd)] (WR D Y A o al mu) (fun _ : Unit => some (.int 0)) (fun _ : Unit => WR D Y A o al (rI mu 25 0 2)) noX 0 0 := by
  refine CT.of (by decide) (Nat.le_of_ble_eq_true rfl) ?_
  intro p_ e_ s_ m_ below_ meth_ c_ C0 K0 hr hlk htab hnm_
  refine k_aload_n C0 dX6_pass_0 0 rfl ?_
  refine k_iload_n C0 dX6_pass_1 1 rfl ?_
  refine k_iconst C0 1 dX6_pass_2 (by decide) ?_
  refine k_sipush C0 400 dX6_pass_3 (by decide) ?_
  refine k_callS C0 K0 dX6_pass_6 (ct_in1 l D Y A _ (nI nd) (1 : Int32) (400 : Int32) (nI_le (a := 1) (by omega) (by omega)) (nI_le (b := 400) (by omega) (by decide))) gkX6_69 hyX6_in rfl (by exact Nat.le_of_ble_eq_true rfl) ⟨Nat.le_of_ble_eq_true rfl, Nat.le_of_ble_eq_true rfl⟩ ⟨Nat.le_of_ble_eq_true rfl, Nat.le_of_ble_eq_true rfl⟩ (fun E => kX_no E) (fun u => ?_)
  refine k_if_ne C0 16 dX6_pass_9 (by decide) (fun _ => ?_) (fun zz => absurd zz (by decide))
  refine k_aload_n C0 dX6_pass_16 0 rfl ?_
  refine r_getI C0 K0 0 (mu.1 0 0) dX6_pass_17 (tC 216 rfl rfl) (by decide) rfl (rg_0 al _) rfl ?_
  refine k_iload_n C0 dX6_pass_20 1 rfl ?_
  refine k_iadd C0 dX6_pass_21 ?_
  refine k_sipush C0 3600 dX6_pass_22 (by decide) ?_
  refine k_icmp_le C0 32 dX6_pass_25 (by decide) (fun zz => absurd zz hb) (fun _ => ?_)
  refine k_iconst C0 2 dX6_pass_28 (by decide) ?_
  refine k_goto C0 33 dX6_pass_29 (by decide) ?_
  refine r_putS C0 K0 25 dX6_pass_33 (tD 1 rfl rfl) (by decide) rfl rfl (by decide +kernel) (rs_25 al _ _) (by decide) ?_
  refine k_iconst C0 0 dX6_pass_36 (by decide) ?_
  refine k_istore_n C0 [(2, _), (0, _), (1, _)] dX6_pass_37 (by decide) rfl ?_
  refine k_iconst C0 0 dX6_pass_38 (by decide) ?_
  refine k_istore_n C0 [(3, _), (2, _), (0, _), (1, _)] dX6_pass_39 (by decide) rfl ?_
  refine k_iload_n C0 dX6_pass_40 0 rfl ?_
  refine k_iload_n C0 dX6_pass_41 3 rfl ?_
  refine k_icmp_ge C0 177 dX6_pass_42 (by decide) (fun h42 => ?_) (fun h42 => ?_)
  ·
    refine k_iload_n C0 dX6_pass_177 1 rfl ?_
    exact k_iret C0 dX6_pass_178 hr hlk (Nat.le_of_ble_eq_true rfl) (Nat.le_of_ble_eq_true rfl) () rfl (fun H h => h)
  ·
    refine k_aload_n C0 dX6_pass_45 2 rfl ?_
    refine r_getI C0 K0 25 2 dX6_pass_46 (tD 1 rfl rfl) (by decide) rfl (rg_25 al _) rI_at ?_
    refine k_if_ne C0 177 dX6_pass_49 (by decide) (fun _ => ?_) (fun zz => absurd zz (by decide))
    refine k_iload_n C0 dX6_pass_177 1 rfl ?_
    exact k_iret C0 dX6_pass_178 hr hlk (Nat.le_of_ble_eq_true rfl) (Nat.le_of_ble_eq_true rfl) () rfl (fun H h => h)
