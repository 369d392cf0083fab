/-! the law's loop; what the statement gives of the start -/
/-! THE CLAIM OUT OF ONE WALK OF THE LAW'S BODY. Your part is whole_start (and what it stands on); all else here is the same for every law, but numbers. -/
def R_law : String := "ShopPaymasterLaw"
def lw_P (b : Addr) (xs : List Int32) (args : Array Value) (s : State) : Prop := args = #[.ref b] ∧ s.IntsAt b xs ∧ xs.length ≤ 2560 ∧ (Jvm.Cond.and given_1 narrow_1).before args s = true
def lw_Q (_ : Array Value) (s : State) (o : Outcome) (t : State) : Prop := o = .returned (some (.int 1)) ∧ Framed s o t [] 601024 7293034
def lw_Z (below : List Frame) (a : Array Value) (s : State) : State → Prop := fun t => ∃ o, t.status = .running ∧ Ended t below o ∧ lw_Q a s o t
/-- the law's own end, with 1 on the stack, nothing written that was there before, its room as the claim has it -/
theorem lw_ret {p : Program} {l : Launch} {e : Env} {s : State} {m : MethodId} {below : List Frame} {meth : Method} {c : Code} {b : Nat} (hx : p.tables.exec = Jvm.exec) (hb : c.code = code) (hr : meth.sig.returnType = ret) (hlocks : meth.locks = false) {pc : Nat} {H : Heap} {ls : Array Slot} (hdg : decode code pc = .ok (.ireturn, 1)) : W p l e room_1 s m #[Value.ref b] below meth c H [] 601024 7293034 (lw_Z below #[Value.ref b] s) (F0 m pc ls [.int 1]) := by
  intro T hT X
  obtain ⟨fs, hret, hrun, hended, hW, hframe⟩ := X.leave (v := some (.int 1)) (hlocks := hlocks) (fun h => by rw [hr] at h; cases h)
  have hmeth' : T.vm.method? m = some meth := X.method'
  refine ⟨T.setFrames fs, ?_, .returned (some (.int 1)), hrun, hended, rfl, ⟨_, rfl⟩, hW, hframe⟩
  jvm_step X.here [X.here.top, hx, hb, hdg, hmeth', hr, ret, narrow_b1]
  (try refine ⟨rfl, ?_⟩); (try refine ⟨rfl, ?_⟩)
  first | (intro acts; rw [hret _ acts rfl rfl rfl]) | rw [hret _ _ rfl rfl rfl]
  exact Steps.refl _
/-- what holds at the law's entry: the machine, the code, the tables' words (any of lw_tbl by 'hts w (by decide +kernel)'), the script of L ints xs at the cell b, what the Statement gives of the start (any of its parts by flat_of_before) -/
def lw_At (p : Program) (s : State) (m : MethodId) (meth : Method) (c : Code) (b L : Nat) (xs : Nat → Int32) : Prop :=
  p.tables.exec = Jvm.exec ∧ c.code = code ∧ meth.sig.returnType = ret ∧ c.maxLocals = 7 ∧ s.vm.findClass R_law = some m.cls ∧ (∀ w ∈ lw_tbl, w.before #[Value.ref b] s = true) ∧ va_X b L xs s s.heap ∧ b < s.heap.size ∧ meth.locks = false ∧ (Jvm.Cond.and given_1 narrow_1).before #[Value.ref b] s = true

theorem law_exit {p : Program} {l : Launch} {e : Env} {s : State} {m : MethodId} {below : List Frame} {meth : Method} {c0 : Code} {A : Nat → Prop} {b : Nat} {V : Heap → Prop} {k n : Nat} {lv : List (Nat × Value)} (C0 : CallFix p m c0 cL_law 7 s #[Value.ref b] TT RL) (hr : meth.sig.returnType = ret) (hlk : meth.locks = false) (hA : ∀ q, A q → s.heap.size ≤ q) (hk : k ≤ 601024) (hn : n ≤ 7293034) : kG p l e room_1 s m #[Value.ref b] below meth c0 (lw_Z below #[Value.ref b] s) A 7 V k n 1558 lv [] := by
  refine k_iconst C0 1 dL_law_1558 (by decide) ?_
  intro H locs ls hV hS hl
  refine va_forget (fun q hq => hA _ (hS.2.2 q hq)) ?_
  exact W.widen hk hn (lw_ret C0.1 C0.2.1 hr hlk dL_law_1559)
theorem loop_out {L c : Nat} (hL : L ≤ 2560) (hc : c < 590) (h : ¬ nI L - nI 5 < nI (5 * c)) : 5 * c + 5 ≤ L := by
  refine Nat.not_lt.mp (fun z => h ?_)
  by_cases h5 : L < 5
  · exact Int32.lt_of_lt_of_le (pk_sneg (by decide) h5) (nI_pos' (by omega))
  · rw [pk_sub (by omega)]
    exact nI_lt (by omega) (by omega)
set_option maxRecDepth 100000 in
set_option maxHeartbeats 4000000 in
theorem law_loop {p : Program} {l : Launch} {e : Env} {s : State} {m : MethodId} {below : List Frame} {meth : Method} {c0 : Code} {A : Nat → Prop} {D : va_G} {Y : Nat → Nat} {b L : Nat} {xs : Nat → Int32} {o ao x0 : Nat} {ar : Nat → Nat} (C0 : CallFix p m c0 cL_law 7 s #[Value.ref b] TT RL) (K0 : PK D Y A s) (X0 : SX s A b L xs) (hlt : l.stackTraces = false) (hr : meth.sig.returnType = ret) (hlk : meth.locks = false) (hA : ∀ q, A q → s.heap.size ≤ q) : ∀ (f c : Nat) (sg : Sg) (al : Nat → Nat → Nat) (mu : Rm), L < 5 * (c + f) + 5 → 5 * c ≤ L → RI c sg mu → al 0 0 = x0 → kG p l e room_1 s m #[Value.ref b] below meth c0 (lw_Z below #[Value.ref b] s) A 7 (LWo D Y A sg al o ar mu ao lT) (kkC c sg) (kkS c sg) 23 [(4, .int (nI (5 * c))), (3, .ref ao), (2, .ref o), (1, .ref x0), (0, .ref b)] [] := by
  have hL := X0.2.2.2
  intro f
  induction f with
  | zero =>
    intro c sg al mu hf hc R hx
    subst hx
    have hroom := kk_room R (by omega)
    refine k_iload C0 dL_law_23 0 rfl ?_
    refine k_aload_n C0 dL_law_25 4 rfl ?_
    refine k_slen C0 X0 dL_law_26 ?_
    refine k_iconst C0 (nI 5) dL_law_27 (by decide) ?_
    refine k_isub C0 dL_law_28 ?_
    exact k_icmp_gt C0 1558 dL_law_29 (by decide) (fun h => law_exit C0 hr hlk hA hroom.1 hroom.2) (fun h => absurd (loop_out hL (by omega) h) (by omega))
  | succ f ih =>
    intro c sg al mu hf hc R hx
    subst hx
    have hroom := kk_room R (by omega)
    refine k_iload C0 dL_law_23 0 rfl ?_
    refine k_aload_n C0 dL_law_25 4 rfl ?_
    refine k_slen C0 X0 dL_law_26 ?_
    refine k_iconst C0 (nI 5) dL_law_27 (by decide) ?_
    refine k_isub C0 dL_law_28 ?_
    refine k_icmp_gt C0 1558 dL_law_29 (by decide) (fun h => law_exit C0 hr hlk hA hroom.1 hroom.2) (fun h => ?_)
    have h5 := loop_out hL (by omega) h
    have hq : 5 * c + 4 < L := by omega
    have hcc : c < 590 := by omega
    have gE : ∀ (sg' : Sg) (al' : Nat → Nat → Nat) (mu' : Rm), RI (c + 1) sg' mu' → al' 0 0 = al 0 0 → kG p l e room_1 s m #[Value.ref b] below meth c0 (lw_Z below #[Value.ref b] s) A 7 (LWo D Y A sg' al' o ar mu' ao lT) (kkC (c + 1) sg') (kkS (c + 1) sg') 1552 [(4, .int (nI (5 * c))), (3, .ref ao), (2, .ref o), (1, .ref (al 0 0)), (0, .ref b)] [] := fun sg' al' mu' R' hal => by
      refine k_iinc C0 (nI (5 * (c + 1))) [(4, _), (3, _), (2, _), (1, _), (0, _)] dL_law_1552 0 rfl (nI_add (5 * c) 5) (by decide) rfl ?_
      refine k_goto C0 23 dL_law_1555 (by decide) ?_
      exact ih (c + 1) sg' al' mu' (by omega) (by omega) R' hal
    refine k_aload_n C0 dL_law_32 4 rfl ?_
    refine k_iload C0 dL_law_33 0 rfl ?_
    refine k_sld C0 X0 (vp_in_nI (by omega) (by omega)) dL_law_35 ?_
    refine k_bipush C0 31 dL_law_36 (by decide) ?_
    refine k_iand C0 dL_law_38 ?_
    obtain ⟨t, ht, et⟩ := pk_andE (xs (nI (5 * c)).toNatClampNeg) (m := 31) 5 (by decide)
    rw [et]
    rcases (show t = 0 ∨ t = 1 ∨ t = 2 ∨ t = 3 ∨ t = 4 ∨ t = 5 ∨ t = 6 ∨ t = 7 ∨ t = 8 ∨ t = 9 ∨ t = 10 ∨ t = 11 ∨ t = 12 ∨ t = 13 ∨ t = 14 ∨ t = 15 ∨ t = 16 ∨ t = 17 ∨ t = 18 ∨ t = 19 ∨ t = 20 ∨ t = 21 ∨ t = 22 ∨ t = 23 ∨ t = 24 ∨ 25 ≤ t by omega) with rfl | rfl | rfl | rfl | rfl | rfl | rfl | rfl | rfl | rfl | rfl | rfl | rfl | rfl | rfl | rfl | rfl | rfl | rfl | rfl | rfl | rfl | rfl | rfl | rfl | hbig
    · exact k_tableIn C0 152 dL_law_39 (by decide +kernel) (by decide +kernel) (off := 113) (by decide +kernel) (by decide) (lc_0 C0 K0 X0 hlt R hcc hq gE)
    · exact k_tableIn C0 248 dL_law_39 (by decide +kernel) (by decide +kernel) (off := 209) (by decide +kernel) (by decide) (lc_1 C0 K0 X0 hlt R hcc hq gE)
    · exact k_tableIn C0 304 dL_law_39 (by decide +kernel) (by decide +kernel) (off := 265) (by decide +kernel) (by decide) (lc_2 C0 K0 X0 hlt R hcc hq gE)
    · exact k_tableIn C0 372 dL_law_39 (by decide +kernel) (by decide +kernel) (off := 333) (by decide +kernel) (by decide) (lc_3 C0 K0 X0 hlt R hcc hq gE)
    · exact k_tableIn C0 452 dL_law_39 (by decide +kernel) (by decide +kernel) (off := 413) (by decide +kernel) (by decide) (lc_4 C0 K0 X0 hlt R hcc hq gE)
    · exact k_tableIn C0 520 dL_law_39 (by decide +kernel) (by decide +kernel) (off := 481) (by decide +kernel) (by decide) (lc_5 C0 K0 X0 hlt R hcc hq gE)
    · exact k_tableIn C0 576 dL_law_39 (by decide +kernel) (by decide +kernel) (off := 537) (by decide +kernel) (by decide) (lc_6 C0 K0 X0 hlt R hcc hq gE)
    · exact k_tableIn C0 589 dL_law_39 (by decide +kernel) (by decide +kernel) (off := 550) (by decide +kernel) (by decide) (lc_7 C0 K0 X0 hlt R hcc hq gE)
    · exact k_tableIn C0 645 dL_law_39 (by decide +kernel) (by decide +kernel) (off := 606) (by decide +kernel) (by decide) (lc_8 C0 K0 X0 hlt R hcc hq gE)
    · exact k_tableIn C0 701 dL_law_39 (by decide +kernel) (by decide +kernel) (off := 662) (by decide +kernel) (by decide) (lc_9 C0 K0 X0 hlt R hcc hq gE)
    · exact k_tableIn C0 757 dL_law_39 (by decide +kernel) (by decide +kernel) (off := 718) (by decide +kernel) (by decide) (lc_10 C0 K0 X0 hlt R hcc hq gE)
    · exact k_tableIn C0 813 dL_law_39 (by decide +kernel) (by decide +kernel) (off := 774) (by decide +kernel) (by decide) (lc_11 C0 K0 X0 hlt R hcc hq gE)
    · exact k_tableIn C0 921 dL_law_39 (by decide +kernel) (by decide +kernel) (off := 882) (by decide +kernel) (by decide) (lc_12 C0 K0 X0 hlt R hcc hq gE)
    · exact k_tableIn C0 989 dL_law_39 (by decide +kernel) (by decide +kernel) (off := 950) (by decide +kernel) (by decide) (lc_13 C0 K0 X0 hlt R hcc hq gE)
    · exact k_tableIn C0 1053 dL_law_39 (by decide +kernel) (by decide +kernel) (off := 1014) (by decide +kernel) (by decide) (lc_14 C0 K0 X0 hlt R hcc hq gE)
    · exact k_tableIn C0 1109 dL_law_39 (by decide +kernel) (by decide +kernel) (off := 1070) (by decide +kernel) (by decide) (lc_15 C0 K0 X0 hlt R hcc hq gE)
    · exact k_tableIn C0 1165 dL_law_39 (by decide +kernel) (by decide +kernel) (off := 1126) (by decide +kernel) (by decide) (lc_16 C0 K0 X0 hlt R hcc hq gE)
    · exact k_tableIn C0 1221 dL_law_39 (by decide +kernel) (by decide +kernel) (off := 1182) (by decide +kernel) (by decide) (lc_17 C0 K0 X0 hlt R hcc hq gE)
    · exact k_tableIn C0 1289 dL_law_39 (by decide +kernel) (by decide +kernel) (off := 1250) (by decide +kernel) (by decide) (lc_18 C0 K0 X0 hlt R hcc hq gE)
    · exact k_tableIn C0 1345 dL_law_39 (by decide +kernel) (by decide +kernel) (off := 1306) (by decide +kernel) (by decide) (lc_19 C0 K0 X0 hlt R hcc hq gE)
    · exact k_tableIn C0 1401 dL_law_39 (by decide +kernel) (by decide +kernel) (off := 1362) (by decide +kernel) (by decide) (lc_20 C0 K0 X0 hlt R hcc hq gE)
    · exact k_tableIn C0 1457 dL_law_39 (by decide +kernel) (by decide +kernel) (off := 1418) (by decide +kernel) (by decide) (lc_21 C0 K0 X0 hlt R hcc hq gE)
    · exact k_tableIn C0 1470 dL_law_39 (by decide +kernel) (by decide +kernel) (off := 1431) (by decide +kernel) (by decide) (lc_22 C0 K0 X0 hlt R hcc hq gE)
    · exact k_tableIn C0 1483 dL_law_39 (by decide +kernel) (by decide +kernel) (off := 1444) (by decide +kernel) (by decide) (lc_23 C0 K0 X0 hlt R hcc hq gE)
    · exact k_tableIn C0 1539 dL_law_39 (by decide +kernel) (by decide +kernel) (off := 1500) (by decide +kernel) (by decide) (lc_24 C0 K0 X0 hlt R hcc hq gE)
    · obtain ⟨⟨h1, h2⟩, -, -⟩ := kk_up (mc := 0) (ms := 0) (sg := sg) (sg' := sg) (c := c) (mu' := mu) (ph_same rfl (by decide) (by decide)) ⟨R.1.suc, R.2⟩ hcc
      exact k_tableOut C0 1552 dL_law_39 (Or.inr (by rw [nI_toInt (by omega)]; omega)) (by decide) (k_wid h1 h2 (gE sg al mu ⟨R.1.suc, R.2⟩ rfl))
theorem lA {w : Cond} (i : Nat) (h : tables_1_1[i]? = some w) : w ∈ lw_tbl := List.mem_append_right _ (List.mem_append_left _ (List.mem_of_getElem? h))
theorem lB {w : Cond} (i : Nat) (h : tables_1_2[i]? = some w) : w ∈ lw_tbl := List.mem_append_right _ (List.mem_append_right _ (List.mem_append_left _ (List.mem_of_getElem? h)))
theorem lC {w : Cond} (i : Nat) (h : tables_1_3[i]? = some w) : w ∈ lw_tbl := List.mem_append_right _ (List.mem_append_right _ (List.mem_append_right _ (List.mem_append_left _ (List.mem_of_getElem? h))))
theorem lD {w : Cond} (i : Nat) (h : tables_1_4[i]? = some w) : w ∈ lw_tbl := List.mem_append_right _ (List.mem_append_right _ (List.mem_append_right _ (List.mem_append_right _ (List.mem_of_getElem? h))))
theorem str_R {args : Array Value} {s : State} {k : Nat} {tx : String} (h1 : (Cond.stringRef RX5 k tx).before args s = true) (h2 : (Cond.exactly (Term.string RX5 k) "java/lang/String").before args s = true) : ∃ a, vk_R RX5 k tx a s := by
  obtain ⟨a, c, cell, kk, ht, -⟩ := Cond.exactly_spec h2
  exact ⟨a, vk_R.of h1 ht⟩
theorem nar_in {args : Array Value} {s : State} (h : (Jvm.Cond.and given_1 narrow_1).before args s = true) {w : Cond} (hw : w ∈ flatC (Jvm.Cond.and given_1 narrow_1)) : w.before args s = true := flat_of_before _ h w hw
set_option maxRecDepth 100000 in
theorem ns_112 : Cond.exactly (Term.string RX5 112) "java/lang/String" ∈ flatC (Jvm.Cond.and given_1 narrow_1) := by decide +kernel
set_option maxRecDepth 100000 in
theorem ns_123 : Cond.exactly (Term.string RX5 123) "java/lang/String" ∈ flatC (Jvm.Cond.and given_1 narrow_1) := by decide +kernel
set_option maxRecDepth 100000 in
theorem ns_156 : Cond.exactly (Term.string RX5 156) "java/lang/String" ∈ flatC (Jvm.Cond.and given_1 narrow_1) := by decide +kernel
set_option maxRecDepth 100000 in
theorem ns_163 : Cond.exactly (Term.string RX5 163) "java/lang/String" ∈ flatC (Jvm.Cond.and given_1 narrow_1) := by decide +kernel
set_option maxRecDepth 100000 in
theorem ns_197 : Cond.exactly (Term.string RX5 197) "java/lang/String" ∈ flatC (Jvm.Cond.and given_1 narrow_1) := by decide +kernel
set_option maxRecDepth 100000 in
theorem ns_202 : Cond.exactly (Term.string RX5 202) "java/lang/String" ∈ flatC (Jvm.Cond.and given_1 narrow_1) := by decide +kernel
set_option maxRecDepth 100000 in
theorem ns_206 : Cond.exactly (Term.string RX5 206) "java/lang/String" ∈ flatC (Jvm.Cond.and given_1 narrow_1) := by decide +kernel
set_option maxRecDepth 100000 in
theorem ns_213 : Cond.exactly (Term.string RX5 213) "java/lang/String" ∈ flatC (Jvm.Cond.and given_1 narrow_1) := by decide +kernel
set_option maxRecDepth 100000 in
theorem ns_215 : Cond.exactly (Term.string RX5 215) "java/lang/String" ∈ flatC (Jvm.Cond.and given_1 narrow_1) := by decide +kernel
set_option maxRecDepth 100000 in
theorem ns_217 : Cond.exactly (Term.string RX5 217) "java/lang/String" ∈ flatC (Jvm.Cond.and given_1 narrow_1) := by decide +kernel
set_option maxRecDepth 100000 in
theorem ns_219 : Cond.exactly (Term.string RX5 219) "java/lang/String" ∈ flatC (Jvm.Cond.and given_1 narrow_1) := by decide +kernel
set_option maxRecDepth 100000 in
theorem ns_221 : Cond.exactly (Term.string RX5 221) "java/lang/String" ∈ flatC (Jvm.Cond.and given_1 narrow_1) := by decide +kernel
set_option maxRecDepth 100000 in
theorem ns_227 : Cond.exactly (Term.string RX5 227) "java/lang/String" ∈ flatC (Jvm.Cond.and given_1 narrow_1) := by decide +kernel
set_option maxRecDepth 100000 in
theorem nn_0 : Cond.not (.castable "java/lang/IllegalStateException" "java/lang/IllegalArgumentException") ∈ flatC (Jvm.Cond.and given_1 narrow_1) := by decide +kernel
set_option maxRecDepth 100000 in
theorem nn_1 : Cond.not (.castable "java/lang/IllegalStateException" "java/lang/IndexOutOfBoundsException") ∈ flatC (Jvm.Cond.and given_1 narrow_1) := by decide +kernel
set_option maxRecDepth 100000 in
theorem nn_2 : Cond.not (.castable "java/lang/IllegalArgumentException" "java/lang/IllegalStateException") ∈ flatC (Jvm.Cond.and given_1 narrow_1) := by decide +kernel
set_option maxRecDepth 100000 in
theorem nn_3 : Cond.not (.castable "java/lang/IndexOutOfBoundsException" "java/lang/IllegalArgumentException") ∈ flatC (Jvm.Cond.and given_1 narrow_1) := by decide +kernel
set_option maxRecDepth 100000 in
theorem nn_4 : Cond.not (.castable "java/lang/IndexOutOfBoundsException" "java/lang/IllegalStateException") ∈ flatC (Jvm.Cond.and given_1 narrow_1) := by decide +kernel
set_option maxRecDepth 100000 in
theorem nn_5 : Cond.not (.castable "java/lang/IllegalArgumentException" "java/lang/IndexOutOfBoundsException") ∈ flatC (Jvm.Cond.and given_1 narrow_1) := by decide +kernel
set_option maxRecDepth 100000 in
theorem nr_m : Cond.isRef (.mirror "[Ljava/lang/Object;") ∈ flatC (Jvm.Cond.and given_1 narrow_1) := by decide +kernel
set_option maxRecDepth 100000 in
theorem nr_u : Cond.isRef (.static "java/lang/Throwable" "UNASSIGNED_STACK" "[Ljava/lang/StackTraceElement;") ∈ flatC (Jvm.Cond.and given_1 narrow_1) := by decide +kernel
set_option maxRecDepth 100000 in
theorem nr_s : Cond.isRef (.static "java/lang/Throwable" "SUPPRESSED_SENTINEL" "Ljava/util/List;") ∈ flatC (Jvm.Cond.and given_1 narrow_1) := by decide +kernel
set_option maxRecDepth 100000 in
theorem nr_a : Cond.arrayOf (.static "java/util/ArrayList" "DEFAULTCAPACITY_EMPTY_ELEMENTDATA" "[Ljava/lang/Object;") (.object "java/lang/Object") ∈ flatC (Jvm.Cond.and given_1 narrow_1) := by decide +kernel
set_option maxRecDepth 100000 in
theorem nr_l : Cond.eq (.length (.static "java/util/ArrayList" "DEFAULTCAPACITY_EMPTY_ELEMENTDATA" "[Ljava/lang/Object;")) (.int 0) ∈ flatC (Jvm.Cond.and given_1 narrow_1) := by decide +kernel
set_option maxRecDepth 100000 in
set_option maxHeartbeats 4000000 in
theorem law_UK {s : State} {args : Array Value} (hts : ∀ w ∈ lw_tbl, w.before args s = true) (hgv : (Jvm.Cond.and given_1 narrow_1).before args s = true) : ∃ (D : va_G) (Y : Nat → Nat), UK D Y s ∧ SK (fun q => s.heap.size ≤ q) Y s s.heap := by
  have htt : ∀ w ∈ TT, w.before args s = true := fun w hw => hts w (TT_lw w hw)
  have hA : ∀ a : Nat, a < s.heap.size → ¬ (fun q => s.heap.size ≤ q) a := fun a h z => absurd h (Nat.not_lt.mpr z)
  obtain ⟨c0, i0, k0⟩ := u_known (C := RJx4a65c) (T := TJx4a65c) (N := 3) (n := 3) htt inJx4a65c (hts _ (lA 34 rfl))
  obtain ⟨c1, i1, k1⟩ := u_known (C := RX0) (T := TX0) (N := 4) (n := 4) htt inX0 (hts _ (lA 59 rfl))
  obtain ⟨c2, i2, k2⟩ := u_known (C := RX1) (T := TX1) (N := 5) (n := 5) htt inX1 (hts _ (lB 0 rfl))
  obtain ⟨c3, i3, k3⟩ := u_known (C := RX2) (T := TX2) (N := 3) (n := 3) htt inX2 (hts _ (lB 127 rfl))
  obtain ⟨c4, i4, k4⟩ := u_known (C := RX3) (T := TX3) (N := 9) (n := 9) htt inX3 (hts _ (lB 177 rfl))
  obtain ⟨c5, i5, k5⟩ := u_known (C := RX4) (T := TX4) (N := 7) (n := 7) htt inX4 (hts _ (lC 41 rfl))
  obtain ⟨c6, i6, k6⟩ := u_known (C := RX5) (T := TX5) (N := 8) (n := 8) htt inX5 (hts _ (lA 24 rfl))
  obtain ⟨c7, i7, k7⟩ := u_known (C := RX6) (T := TX6) (N := 26) (n := 26) htt inX6 (hts _ (lC 211 rfl))
  obtain ⟨y0, ka0, cp0, f1, f2, f3⟩ := Cond.arrayClass_spec (hts _ (lB 24 rfl))
  obtain ⟨y1, ka1, cp1, g1, g2, g3⟩ := Cond.arrayClass_spec (hts _ (lD 55 rfl))
  obtain ⟨cp2, y2, ka2, d1, -, d2, d3, d4⟩ := Cond.arrayOver_spec (hts _ (lA 32 rfl))
  obtain ⟨cp3, y3, ka3, e1, -, e2, e3, e4⟩ := Cond.arrayOver_spec (hts _ (lB 73 rfl))
  obtain ⟨y4, hy4, hT⟩ := va_Tof (N := 0) (f := fun _ => .null) (A := fun q => s.heap.size ≤ q) (by decide) (nar_in hgv nr_a) (va_eqt (nar_in hgv nr_l)) (fun j hj => absurd hj (Nat.not_lt_zero j)) hA
  obtain ⟨y5, hy5⟩ := va_Mi.of (nar_in hgv nr_m)
  refine ⟨(fun k => if k = 0 then c0 else if k = 1 then c1 else if k = 2 then c2 else if k = 3 then c3 else if k = 4 then c4 else if k = 5 then c5 else if k = 6 then c6 else c7, fun k => if k = 0 then i0 else if k = 1 then i1 else if k = 2 then i2 else if k = 3 then i3 else if k = 4 then i4 else if k = 5 then i5 else if k = 6 then i6 else i7), fun k => if k = 0 then y0 else if k = 1 then y1 else if k = 2 then y2 else if k = 3 then y3 else if k = 4 then y4 else y5, ⟨⟨fun k q hq => ?_, fun k q hq => ?_⟩, (List.forall_mem_cons.mpr ⟨(str_R (hts _ (lC 3 rfl)) (nar_in hgv ns_112)), (List.forall_mem_cons.mpr ⟨(str_R (hts _ (lC 4 rfl)) (nar_in hgv ns_123)), (List.forall_mem_cons.mpr ⟨(str_R (hts _ (lC 85 rfl)) (nar_in hgv ns_156)), (List.forall_mem_cons.mpr ⟨(str_R (hts _ (lC 86 rfl)) (nar_in hgv ns_163)), (List.forall_mem_cons.mpr ⟨(str_R (hts _ (lC 170 rfl)) (nar_in hgv ns_197)), (List.forall_mem_cons.mpr ⟨(str_R (hts _ (lA 180 rfl)) (nar_in hgv ns_202)), (List.forall_mem_cons.mpr ⟨(str_R (hts _ (lB 104 rfl)) (nar_in hgv ns_206)), (List.forall_mem_cons.mpr ⟨(str_R (hts _ (lB 155 rfl)) (nar_in hgv ns_213)), (List.forall_mem_cons.mpr ⟨(str_R (hts _ (lC 2 rfl)) (nar_in hgv ns_215)), (List.forall_mem_cons.mpr ⟨(str_R (hts _ (lC 84 rfl)) (nar_in hgv ns_217)), (List.forall_mem_cons.mpr ⟨(str_R (hts _ (lA 210 rfl)) (nar_in hgv ns_219)), (List.forall_mem_cons.mpr ⟨(str_R (hts _ (lA 232 rfl)) (nar_in hgv ns_221)), (List.forall_mem_cons.mpr ⟨(str_R (hts _ (lC 94 rfl)) (nar_in hgv ns_227)), (fun _ h => absurd h List.not_mem_nil)⟩)⟩)⟩)⟩)⟩)⟩)⟩)⟩)⟩)⟩)⟩)⟩)⟩), hy5, va_Dc.of (hts _ (lD 229 rfl)), (List.forall_mem_cons.mpr ⟨(va_Nc.of (nar_in hgv nn_0)), (List.forall_mem_cons.mpr ⟨(va_Nc.of (nar_in hgv nn_1)), (List.forall_mem_cons.mpr ⟨(va_Nc.of (nar_in hgv nn_2)), (List.forall_mem_cons.mpr ⟨(va_Nc.of (nar_in hgv nn_3)), (List.forall_mem_cons.mpr ⟨(va_Nc.of (nar_in hgv nn_4)), (List.forall_mem_cons.mpr ⟨(va_Nc.of (nar_in hgv nn_5)), (fun _ h => absurd h List.not_mem_nil)⟩)⟩)⟩)⟩)⟩)⟩), (List.forall_mem_cons.mpr ⟨(va_Nw.of rfl (hts _ (lA 141 rfl))), (List.forall_mem_cons.mpr ⟨(va_Nw.of rfl (hts _ (lA 225 rfl))), (List.forall_mem_cons.mpr ⟨(va_Nw.of rfl (hts _ (lB 97 rfl))), (List.forall_mem_cons.mpr ⟨(va_Nw.of rfl (hts _ (lD 220 rfl))), (List.forall_mem_cons.mpr ⟨(va_Nw.of rfl (hts _ (lD 222 rfl))), (List.forall_mem_cons.mpr ⟨(va_Nw.of rfl (hts _ (lD 223 rfl))), (List.forall_mem_cons.mpr ⟨(va_Nw.of rfl (hts _ (lD 224 rfl))), (fun _ h => absurd h List.not_mem_nil)⟩)⟩)⟩)⟩)⟩)⟩)⟩), ⟨va_Nw.of rfl (hts _ (lA 143 rfl)), va_Nw.of rfl (hts _ (lA 145 rfl)), va_Nw.of rfl (hts _ (lA 147 rfl))⟩, va_AO.of (hts _ (lB 73 rfl)), va_AO.of (hts _ (lA 32 rfl))⟩, ⟨vx_Zqof (hts _ (lA 166 rfl)) (hts _ (lA 7 rfl)) (nar_in hgv nr_u) hA, vx_Zqof (hts _ (lA 168 rfl)) (hts _ (lA 7 rfl)) (nar_in hgv nr_s) hA, va_Zref (hts _ (lA 46 rfl)) (hts _ (lA 4 rfl)) hy4 hA, hT⟩⟩
  · match k, hq with
    | 0, hq => cases hq; exact k0
    | 1, hq => cases hq; exact k1
    | 2, hq => cases hq; exact k2
    | 3, hq => cases hq; exact k3
    | 4, hq => cases hq; exact k4
    | 5, hq => cases hq; exact k5
    | 6, hq => cases hq; exact k6
    | 7, hq => cases hq; exact k7
    | k + 8, hq => simp at hq
  · match k, hq with
    | 0, hq => cases hq; exact ⟨fun n z => ⟨fun k h => (by cases h), ka0, f2, cp0, f3⟩, f1⟩
    | 1, hq => cases hq; exact ⟨fun n z => ⟨fun k h => (by cases h), ka1, g2, cp1, g3⟩, g1⟩
    | 2, hq => cases hq; exact ⟨fun n z => ⟨fun k h => (by cases h), ka2, d2, cp2, d3⟩, ka2, cp2, d2, d3, d1, d4⟩
    | 3, hq => cases hq; exact ⟨fun n z => ⟨fun k h => (by cases h), ka3, e2, cp3, e3⟩, ka3, cp3, e2, e3, e1, e4⟩
    | k + 4, hq => simp [kTy] at hq
