/-! a turn of the law, its loop; what the statement gives of the start -/
theorem gkL_65 : GoodIn TT (va_wsS RL 65 yL_cell (Cond.code yL_cell cL_cell 2 (some .int) :: TT)) := goodTS (tC 28 rfl rfl) (tC 29 rfl rfl) (tA 0 rfl rfl) (goodTT (tC 30 rfl rfl))
theorem hyL_cell : yL_cell.cls ≠ "java/lang/invoke/MethodHandle" ∧ yL_cell.cls ≠ "java/lang/invoke/VarHandle" ∧ (parseMethodDescriptor yL_cell.desc).map (fun d => d.parameters.length) = some 2 := by decide +kernel
theorem gkL_56 : GoodIn TT (va_wsS RL 56 yL_sums (Cond.code yL_sums cL_sums 5 (some .boolean) :: TT)) := goodTS (tC 111 rfl rfl) (tC 112 rfl rfl) (tA 0 rfl rfl) (goodTT (tC 113 rfl rfl))
theorem hyL_sums : yL_sums.cls ≠ "java/lang/invoke/MethodHandle" ∧ yL_sums.cls ≠ "java/lang/invoke/VarHandle" ∧ (parseMethodDescriptor yL_sums.desc).map (fun d => d.parameters.length) = some 2 := by decide +kernel
/-! THE CLAIM OUT OF ONE WALK OF THE LAW'S BODY. Your part is whole_start (and what it stands on); all else here is the same for every law, but numbers. -/
def R_law : String := "ShopPaymasterLaw"
def lw_P (b : Addr) (xs : List Int32) (args : Array Value) (s : State) : Prop := args = #[.ref b] ∧ s.IntsAt b xs ∧ xs.length ≤ 260 ∧ (Jvm.Cond.and given_1 narrow_1).before args s = true
def lw_Q (_ : Array Value) (s : State) (o : Outcome) (t : State) : Prop := o = .returned (some (.int 1)) ∧ Framed s o t [] 684780 7047283
def lw_Z (below : List Frame) (a : Array Value) (s : State) : State → Prop := fun t => ∃ o, t.status = .running ∧ Ended t below o ∧ lw_Q a s o t
/-- the law's own end, with 1 on the stack, nothing written that was there before, its room as the claim has it -/
theorem lw_ret {p : Program} {l : Launch} {e : Env} {s : State} {m : MethodId} {below : List Frame} {meth : Method} {c : Code} {b : Nat} (hx : p.tables.exec = Jvm.exec) (hb : c.code = code) (hr : meth.sig.returnType = ret) (hlocks : meth.locks = false) {pc : Nat} {H : Heap} {ls : Array Slot} (hdg : decode code pc = .ok (.ireturn, 1)) : W p l e room_1 s m #[Value.ref b] below meth c H [] 684780 7047283 (lw_Z below #[Value.ref b] s) (F0 m pc ls [.int 1]) := by
  intro T hT X
  obtain ⟨fs, hret, hrun, hended, hW, hframe⟩ := X.leave (v := some (.int 1)) (hlocks := hlocks) (fun h => by rw [hr] at h; cases h)
  have hmeth' : T.vm.method? m = some meth := X.method'
  refine ⟨T.setFrames fs, ?_, .returned (some (.int 1)), hrun, hended, rfl, ⟨_, rfl⟩, hW, hframe⟩
  jvm_step X.here [X.here.top, hx, hb, hdg, hmeth', hr, ret, narrow_b1]
  (try refine ⟨rfl, ?_⟩); (try refine ⟨rfl, ?_⟩)
  first | (intro acts; rw [hret _ acts rfl rfl rfl]) | rw [hret _ _ rfl rfl rfl]
  exact Steps.refl _
/-- what holds at the law's entry: the machine, the code, the tables' words (any of lw_tbl by 'hts w (by decide +kernel)'), the script of L ints xs at the cell b, what the Statement gives of the start (any of its parts by flat_of_before) -/
def lw_At (p : Program) (s : State) (m : MethodId) (meth : Method) (c : Code) (b L : Nat) (xs : Nat → Int32) : Prop :=
  p.tables.exec = Jvm.exec ∧ c.code = code ∧ meth.sig.returnType = ret ∧ c.maxLocals = 16 ∧ s.vm.findClass R_law = some m.cls ∧ (∀ w ∈ lw_tbl, w.before #[Value.ref b] s = true) ∧ va_X b L xs s s.heap ∧ b < s.heap.size ∧ meth.locks = false ∧ (Jvm.Cond.and given_1 narrow_1).before #[Value.ref b] s = true

set_option maxRecDepth 100000 in
set_option maxHeartbeats 4000000 in
theorem lc_turn {p : Program} {l : Launch} {e : Env} {s : State} {m : MethodId} {below : List Frame} {meth : Method} {c0 : Code} {Q : State → Prop} {A : Nat → Prop} {D : va_G} {Y : Nat → Nat} {b : Nat} {sg : Sg} {al : Nat → Nat → Nat} {c : Nat} {t : Int32} {nn : Nat} (C0 : CallFix p m c0 cL_law 16 s #[Value.ref b] TT RL) (K0 : PK D Y A s) (hlt : l.stackTraces = false) (P : PI c sg) (hc : c < 580) (gE : ∀ (sg' : Sg) (al' : Nat → Nat → Nat) (r0 : Nat) (x2 x3 x5 : Int32), PI (c + 2) sg' → r0 = al' 0 0 → x2 = nI (sN sg' 2) → x3 = nI (sN sg' 3) → x5 = nI (sN sg' 5) → kG p l e room_1 s m #[Value.ref b] below meth c0 Q A 16 (WX D Y A sg' al' []) (kkC (c + 2) sg') (kkS (c + 2) sg') 826 [(7, .int (nI nn)), (6, .int t), (5, .int 1), (4, .int x5), (3, .int x3), (2, .int x2), (1, .ref r0), (0, .ref (Y 6))] []) (hnn : nn < 1000) (hY : Y 7 ≤ 260) : kG p l e room_1 s m #[Value.ref b] below meth c0 Q A 16 (WX D Y A sg al []) (kkC c sg) (kkS c sg) 74 [(7, .int (nI nn)), (6, .int t), (5, .int 1), (4, .int (nI (sN sg 5))), (3, .int (nI (sN sg 3))), (2, .int (nI (sN sg 2))), (1, .ref (al 0 0)), (0, .ref (Y 6))] [] := by
  refine k_aload_n C0 dL_law_74 7 rfl ?_
  refine k_iconst C0 1 dL_law_75 (by decide) ?_
  refine k_iload C0 dL_law_76 0 rfl ?_
  refine k_iadd C0 dL_law_78 ?_
  rw [show (1 : Int32) + nI nn = nI (1 + nn) from nI_add 1 nn]
  refine k_callS C0 K0 dL_law_79 (ct_cell l D Y A (WX D Y A sg al []) (1 + nn) (by omega) (by omega)) gkL_65 hyL_cell rfl (by exact Nat.le_of_ble_eq_true rfl) ⟨Nat.le_of_ble_eq_true rfl, Nat.le_of_ble_eq_true rfl⟩ (kk_roomP P (by omega)) (fun E => kX_no E) (fun v => (k_wid (k2 := kkC c sg) (n2 := kkS c sg) (Nat.le_refl _) (Nat.le_refl _) ?_))
  refine k_istore C0 [(8, _), (7, _), (6, _), (5, _), (4, _), (3, _), (2, _), (1, _), (0, _)] dL_law_82 (by decide) rfl ?_
  refine k_iload C0 dL_law_84 0 rfl ?_
  refine k_iconst C0 3 dL_law_86 (by decide) ?_
  refine k_ishr C0 dL_law_87 ?_
  refine k_iconst C0 5 dL_law_88 (by decide) ?_
  refine k_callS C0 K0 dL_law_89 (ct_low l D Y A (WX D Y A sg al []) (v >>> (3 &&& 31)) 5 (by decide) (by decide)) gkL_69 hyL_low rfl (by exact Nat.le_of_ble_eq_true rfl) ⟨Nat.le_of_ble_eq_true rfl, Nat.le_of_ble_eq_true rfl⟩ (kk_roomP P (by omega)) (fun E => kX_no E) (fun j => k_ex (B := j < 5) (fun H h => h.1) (fun hj => k_W (V' := WX D Y A sg al []) (fun H h => h.2) (k_wid (k2 := kkC c sg) (n2 := kkS c sg) (Nat.le_refl _) (Nat.le_refl _) ?_)))
  refine k_istore C0 [(9, _), (8, _), (7, _), (6, _), (5, _), (4, _), (3, _), (2, _), (1, _), (0, _)] dL_law_92 (by decide) rfl ?_
  refine k_iload_n C0 dL_law_94 6 rfl ?_
  refine k_if_ne C0 102 dL_law_95 (by decide) (fun h95 => ?_) (fun h95 => ?_)
  ·
    refine k_iload C0 dL_law_102 1 rfl ?_
    refine k_bipush C0 6 dL_law_104 (by decide) ?_
    refine k_ishr C0 dL_law_106 ?_
    refine k_iload_n C0 dL_law_107 6 rfl ?_
    refine k_callS C0 K0 dL_law_108 (ct_low l D Y A (WX D Y A sg al []) (v >>> (6 &&& 31)) (sN sg 3) (Nat.pos_of_ne_zero (fun z => h95 (by rw [z]; rfl))) (by have := P.n3; omega)) gkL_69 hyL_low rfl (by exact Nat.le_of_ble_eq_true rfl) ⟨Nat.le_of_ble_eq_true rfl, Nat.le_of_ble_eq_true rfl⟩ (kk_roomP P (by omega)) (fun E => kX_no E) (fun pp => k_ex (B := pp < (sN sg 3)) (fun H h => h.1) (fun hpp => k_W (V' := WX D Y A sg al []) (fun H h => h.2) (k_wid (k2 := kkC c sg) (n2 := kkS c sg) (Nat.le_refl _) (Nat.le_refl _) ?_)))
    refine k_istore C0 [(10, _), (9, _), (8, _), (7, _), (6, _), (5, _), (4, _), (3, _), (2, _), (1, _), (0, _)] dL_law_111 (by decide) rfl ?_
    refine k_iload C0 dL_law_113 2 rfl ?_
    refine k_bipush C0 20 dL_law_115 (by decide) ?_
    refine k_ishr C0 dL_law_117 ?_
    refine k_bipush C0 16 dL_law_118 (by decide) ?_
    refine k_callS C0 K0 dL_law_120 (ct_low l D Y A (WX D Y A sg al []) (v >>> (20 &&& 31)) 16 (by decide) (by decide)) gkL_69 hyL_low rfl (by exact Nat.le_of_ble_eq_true rfl) ⟨Nat.le_of_ble_eq_true rfl, Nat.le_of_ble_eq_true rfl⟩ (kk_roomP P (by omega)) (fun E => kX_no E) (fun srt => k_ex (B := srt < 16) (fun H h => h.1) (fun hsrt => k_W (V' := WX D Y A sg al []) (fun H h => h.2) (k_wid (k2 := kkC c sg) (n2 := kkS c sg) (Nat.le_refl _) (Nat.le_refl _) ?_)))
    refine k_istore C0 [(11, _), (10, _), (9, _), (8, _), (7, _), (6, _), (5, _), (4, _), (3, _), (2, _), (1, _), (0, _)] dL_law_123 (by decide) rfl ?_
    exact lc_any C0 K0 hlt P hc gE v srt pp j hj (fun _ => hpp)
  ·
    refine k_iconst C0 0 dL_law_98 (by decide) ?_
    refine k_goto C0 111 dL_law_99 (by decide) ?_
    refine k_istore C0 [(10, _), (9, _), (8, _), (7, _), (6, _), (5, _), (4, _), (3, _), (2, _), (1, _), (0, _)] dL_law_111 (by decide) rfl ?_
    refine k_iload C0 dL_law_113 2 rfl ?_
    refine k_bipush C0 20 dL_law_115 (by decide) ?_
    refine k_ishr C0 dL_law_117 ?_
    refine k_bipush C0 16 dL_law_118 (by decide) ?_
    refine k_callS C0 K0 dL_law_120 (ct_low l D Y A (WX D Y A sg al []) (v >>> (20 &&& 31)) 16 (by decide) (by decide)) gkL_69 hyL_low rfl (by exact Nat.le_of_ble_eq_true rfl) ⟨Nat.le_of_ble_eq_true rfl, Nat.le_of_ble_eq_true rfl⟩ (kk_roomP P (by omega)) (fun E => kX_no E) (fun srt => k_ex (B := srt < 16) (fun H h => h.1) (fun hsrt => k_W (V' := WX D Y A sg al []) (fun H h => h.2) (k_wid (k2 := kkC c sg) (n2 := kkS c sg) (Nat.le_refl _) (Nat.le_refl _) ?_)))
    refine k_istore C0 [(11, _), (10, _), (9, _), (8, _), (7, _), (6, _), (5, _), (4, _), (3, _), (2, _), (1, _), (0, _)] dL_law_123 (by decide) rfl ?_
    exact lc_any C0 K0 hlt P hc gE v srt 0 j hj (fun z => absurd (nI_z (by have := P.n3; omega) h95) z)
set_option maxRecDepth 100000 in
set_option maxHeartbeats 4000000 in
theorem lc_tail {p : Program} {l : Launch} {e : Env} {s : State} {m : MethodId} {below : List Frame} {meth : Method} {c0 : Code} {Q : State → Prop} {A : Nat → Prop} {D : va_G} {Y : Nat → Nat} {b : Nat} {sg : Sg} {al : Nat → Nat → Nat} {c : Nat} {t : Int32} {nn : Nat} (C0 : CallFix p m c0 cL_law 16 s #[Value.ref b] TT RL) (K0 : PK D Y A s) (P : PI c sg) (hc : c < 590) (gH : kG p l e room_1 s m #[Value.ref b] below meth c0 Q A 16 (WX D Y A sg al []) (kkC c sg) (kkS c sg) 62 [(7, .int (nI (nn + 1))), (6, .int t), (5, .int 1), (4, .int (nI (sN sg 5))), (3, .int (nI (sN sg 3))), (2, .int (nI (sN sg 2))), (1, .ref (al 0 0)), (0, .ref (Y 6))] []) : kG p l e room_1 s m #[Value.ref b] below meth c0 Q A 16 (WX D Y A sg al []) (kkC c sg) (kkS c sg) 826 [(7, .int (nI nn)), (6, .int t), (5, .int 1), (4, .int (nI (sN sg 5))), (3, .int (nI (sN sg 3))), (2, .int (nI (sN sg 2))), (1, .ref (al 0 0)), (0, .ref (Y 6))] [] := by
  refine k_iload C0 dL_law_826 2 rfl ?_
  refine k_if_eq C0 843 dL_law_828 (by decide) (fun zz => absurd zz (by decide)) (fun _ => ?_)
  obtain ⟨dd, hdd, hd, hs⟩ := P.2
  refine k_aload_n C0 dL_law_831 6 rfl ?_
  refine k_iload_n C0 dL_law_832 5 rfl ?_
  refine k_callS C0 K0 dL_law_833 (ct_sums l D Y A sg al (P.lw 0 (by decide)) P.n2 dd hd hdd hs) gkL_56 hyL_sums rfl (by exact Nat.le_of_ble_eq_true rfl) ⟨Nat.le_of_ble_eq_true rfl, Nat.le_of_ble_eq_true rfl⟩ (kk_roomP P (by omega)) (fun E => kX_no E) (fun _ => (k_wid (k2 := kkC c sg) (n2 := kkS c sg) (Nat.le_refl _) (Nat.le_refl _) ?_))
  refine k_if_eq C0 843 dL_law_836 (by decide) (fun zz => absurd zz (by decide)) (fun _ => ?_)
  refine k_iconst C0 1 dL_law_839 (by decide) ?_
  refine k_goto C0 844 dL_law_840 (by decide) ?_
  refine k_istore C0 [(5, _), (7, _), (6, _), (4, _), (3, _), (2, _), (1, _), (0, _)] dL_law_844 (by decide) rfl ?_
  refine k_iinc C0 (nI (nn + 1)) [(7, _), (5, _), (6, _), (4, _), (3, _), (2, _), (1, _), (0, _)] dL_law_846 1 rfl (nI_1 _) (by decide) rfl ?_
  refine k_goto C0 62 dL_law_849 (by decide) ?_
  refine k_lv [0, 2, 1, 3, 4, 5, 6, 7] rfl ?_
  exact gH
theorem law_exit {p : Program} {l : Launch} {e : Env} {s : State} {m : MethodId} {below : List Frame} {meth : Method} {c0 : Code} {A : Nat → Prop} {b : Nat} {V : Heap → Prop} {k n : Nat} {lv : List (Nat × Value)} (C0 : CallFix p m c0 cL_law 16 s #[Value.ref b] TT RL) (hr : meth.sig.returnType = ret) (hlk : meth.locks = false) (hA : ∀ q, A q → s.heap.size ≤ q) (hk : k ≤ 684780) (hn : n ≤ 7047283) (i5 : Nat) (h5 : lv[i5]? = some (5, .int 1)) : kG p l e room_1 s m #[Value.ref b] below meth c0 (lw_Z below #[Value.ref b] s) A 16 V k n 852 lv [] := by
  refine k_iload C0 dL_law_852 i5 h5 ?_
  intro H locs ls hV hS hl
  refine va_forget (fun q hq => hA _ (hS.2.2 q hq)) ?_
  exact W.widen hk hn (lw_ret C0.1 C0.2.1 hr hlk dL_law_854)
set_option maxRecDepth 100000 in
set_option maxHeartbeats 4000000 in
theorem law_loop {p : Program} {l : Launch} {e : Env} {s : State} {m : MethodId} {below : List Frame} {meth : Method} {c0 : Code} {A : Nat → Prop} {D : va_G} {Y : Nat → Nat} {b : Nat} (C0 : CallFix p m c0 cL_law 16 s #[Value.ref b] TT RL) (K0 : PK D Y A s) (hlt : l.stackTraces = false) (hr : meth.sig.returnType = ret) (hlk : meth.locks = false) (hA : ∀ q, A q → s.heap.size ≤ q) (hY : Y 7 ≤ 260) {tt : Nat} (ht : tt ≤ 60) : ∀ (f nn : Nat) (sg : Sg) (al : Nat → Nat → Nat), nn + f = tt → PI (2 * nn) sg → kG p l e room_1 s m #[Value.ref b] below meth c0 (lw_Z below #[Value.ref b] s) A 16 (WX D Y A sg al []) (kkC (2 * nn) sg) (kkS (2 * nn) sg) 62 [(7, .int (nI nn)), (6, .int (nI tt)), (5, .int 1), (4, .int (nI (sN sg 5))), (3, .int (nI (sN sg 3))), (2, .int (nI (sN sg 2))), (1, .ref (al 0 0)), (0, .ref (Y 6))] [] := by
  intro f
  induction f with
  | zero =>
    intro nn sg al hf P
    have hroom := kk_roomP P (by omega)
    refine k_iload C0 dL_law_62 0 rfl ?_
    refine k_iload C0 dL_law_64 1 rfl ?_
    exact k_icmp_ge C0 852 dL_law_66 (by decide) (fun _ => law_exit C0 hr hlk hA hroom.1 hroom.2 2 rfl) (fun h => absurd (nI_le (by omega) (by omega)) h)
  | succ f ih =>
    intro nn sg al hf P
    have hroom := kk_roomP P (by omega)
    refine k_iload C0 dL_law_62 0 rfl ?_
    refine k_iload C0 dL_law_64 1 rfl ?_
    refine k_icmp_ge C0 852 dL_law_66 (by decide) (fun h => absurd h (nI_ge (by omega) (by omega))) (fun _ => ?_)
    refine k_iload C0 dL_law_69 2 rfl ?_
    refine k_if_eq C0 852 dL_law_71 (by decide) (fun h => absurd h (by decide)) (fun _ => ?_)
    refine lc_turn C0 K0 hlt P (by omega) (fun sg' al' r0 x2 x3 x5 P' h0 h2 h3 h5 => ?_) (by omega) hY
    subst h0 h2 h3 h5
    refine lc_tail C0 K0 P' (by omega) ?_
    have g := ih (nn + 1) sg' al' (by omega) P'
    exact g
theorem lA {w : Cond} (i : Nat) (h : tables_1_1[i]? = some w) : w ∈ lw_tbl := List.mem_append_right _ (List.mem_append_left _ (List.mem_of_getElem? h))
theorem lB {w : Cond} (i : Nat) (h : tables_1_2[i]? = some w) : w ∈ lw_tbl := List.mem_append_right _ (List.mem_append_right _ (List.mem_append_left _ (List.mem_of_getElem? h)))
theorem lC {w : Cond} (i : Nat) (h : tables_1_3[i]? = some w) : w ∈ lw_tbl := List.mem_append_right _ (List.mem_append_right _ (List.mem_append_right _ (List.mem_of_getElem? h)))
theorem str_R {args : Array Value} {s : State} {k : Nat} {tx : String} (h1 : (Cond.stringRef RX5 k tx).before args s = true) (h2 : (Cond.exactly (Term.string RX5 k) "java/lang/String").before args s = true) : ∃ a, vk_R RX5 k tx a s := by
  obtain ⟨a, c, cell, kk, ht, -⟩ := Cond.exactly_spec h2
  exact ⟨a, vk_R.of h1 ht⟩
theorem nar_in {args : Array Value} {s : State} (h : (Jvm.Cond.and given_1 narrow_1).before args s = true) {w : Cond} (hw : w ∈ flatC (Jvm.Cond.and given_1 narrow_1)) : w.before args s = true := flat_of_before _ h w hw
set_option maxRecDepth 100000 in
theorem ns_112 : Cond.exactly (Term.string RX5 112) "java/lang/String" ∈ flatC (Jvm.Cond.and given_1 narrow_1) := by decide +kernel
set_option maxRecDepth 100000 in
theorem ns_123 : Cond.exactly (Term.string RX5 123) "java/lang/String" ∈ flatC (Jvm.Cond.and given_1 narrow_1) := by decide +kernel
set_option maxRecDepth 100000 in
theorem ns_197 : Cond.exactly (Term.string RX5 197) "java/lang/String" ∈ flatC (Jvm.Cond.and given_1 narrow_1) := by decide +kernel
set_option maxRecDepth 100000 in
theorem ns_202 : Cond.exactly (Term.string RX5 202) "java/lang/String" ∈ flatC (Jvm.Cond.and given_1 narrow_1) := by decide +kernel
set_option maxRecDepth 100000 in
theorem ns_206 : Cond.exactly (Term.string RX5 206) "java/lang/String" ∈ flatC (Jvm.Cond.and given_1 narrow_1) := by decide +kernel
set_option maxRecDepth 100000 in
theorem ns_213 : Cond.exactly (Term.string RX5 213) "java/lang/String" ∈ flatC (Jvm.Cond.and given_1 narrow_1) := by decide +kernel
set_option maxRecDepth 100000 in
theorem ns_215 : Cond.exactly (Term.string RX5 215) "java/lang/String" ∈ flatC (Jvm.Cond.and given_1 narrow_1) := by decide +kernel
set_option maxRecDepth 100000 in
theorem ns_217 : Cond.exactly (Term.string RX5 217) "java/lang/String" ∈ flatC (Jvm.Cond.and given_1 narrow_1) := by decide +kernel
set_option maxRecDepth 100000 in
theorem ns_219 : Cond.exactly (Term.string RX5 219) "java/lang/String" ∈ flatC (Jvm.Cond.and given_1 narrow_1) := by decide +kernel
set_option maxRecDepth 100000 in
theorem ns_221 : Cond.exactly (Term.string RX5 221) "java/lang/String" ∈ flatC (Jvm.Cond.and given_1 narrow_1) := by decide +kernel
set_option maxRecDepth 100000 in
theorem ns_227 : Cond.exactly (Term.string RX5 227) "java/lang/String" ∈ flatC (Jvm.Cond.and given_1 narrow_1) := by decide +kernel
set_option maxRecDepth 100000 in
theorem nn_0 : Cond.not (.castable "java/lang/IllegalArgumentException" "java/lang/IllegalStateException") ∈ flatC (Jvm.Cond.and given_1 narrow_1) := by decide +kernel
set_option maxRecDepth 100000 in
theorem nn_1 : Cond.not (.castable "java/lang/IndexOutOfBoundsException" "java/lang/IllegalStateException") ∈ flatC (Jvm.Cond.and given_1 narrow_1) := by decide +kernel
set_option maxRecDepth 100000 in
theorem nr_m : Cond.isRef (.mirror "[Ljava/lang/Object;") ∈ flatC (Jvm.Cond.and given_1 narrow_1) := by decide +kernel
set_option maxRecDepth 100000 in
theorem nr_u : Cond.isRef (.static "java/lang/Throwable" "UNASSIGNED_STACK" "[Ljava/lang/StackTraceElement;") ∈ flatC (Jvm.Cond.and given_1 narrow_1) := by decide +kernel
set_option maxRecDepth 100000 in
theorem nr_s : Cond.isRef (.static "java/lang/Throwable" "SUPPRESSED_SENTINEL" "Ljava/util/List;") ∈ flatC (Jvm.Cond.and given_1 narrow_1) := by decide +kernel
set_option maxRecDepth 100000 in
theorem nr_a : Cond.arrayOf (.static "java/util/ArrayList" "DEFAULTCAPACITY_EMPTY_ELEMENTDATA" "[Ljava/lang/Object;") (.object "java/lang/Object") ∈ flatC (Jvm.Cond.and given_1 narrow_1) := by decide +kernel
set_option maxRecDepth 100000 in
theorem nr_l : Cond.eq (.length (.static "java/util/ArrayList" "DEFAULTCAPACITY_EMPTY_ELEMENTDATA" "[Ljava/lang/Object;")) (.int 0) ∈ flatC (Jvm.Cond.and given_1 narrow_1) := by decide +kernel
theorem scr_T {s : State} {b L : Nat} {xs : Nat → Int32} (hX : va_X b L xs s s.heap) (hb : b < s.heap.size) : va_T .int b L (fun j => .int (xs j)) (fun q => s.heap.size ≤ q) s s.heap := by
  obtain ⟨scr, h1, h2, h3, h4, h5⟩ := hX
  exact ⟨scr, h1, h2, h3, Nat.le_of_eq h4.symm, by rw [h4], h5, Nat.not_le.mpr hb⟩
set_option maxRecDepth 100000 in
set_option maxHeartbeats 4000000 in
theorem law_UK {s : State} {args : Array Value} {b L : Nat} {xs : Nat → Int32} (hts : ∀ w ∈ lw_tbl, w.before args s = true) (hgv : (Jvm.Cond.and given_1 narrow_1).before args s = true) (hX : va_X b L xs s s.heap) (hb : b < s.heap.size) : ∃ (D : va_G) (Y : Nat → Nat), Y 6 = b ∧ Y 7 = L ∧ UK D Y s ∧ SK (fun q => s.heap.size ≤ q) Y s s.heap := by
  have htt : ∀ w ∈ TT, w.before args s = true := fun w hw => hts w (TT_lw w hw)
  have hA : ∀ a : Nat, a < s.heap.size → ¬ (fun q => s.heap.size ≤ q) a := fun a h z => absurd h (Nat.not_lt.mpr z)
  obtain ⟨c0, i0, k0⟩ := u_known (C := RJx4a65c) (T := TJx4a65c) (N := 3) (n := 3) htt inJx4a65c (hts _ (lA 33 rfl))
  obtain ⟨c1, i1, k1⟩ := u_known (C := RX0) (T := TX0) (N := 4) (n := 4) htt inX0 (hts _ (lA 58 rfl))
  obtain ⟨c2, i2, k2⟩ := u_known (C := RX1) (T := TX1) (N := 5) (n := 5) htt inX1 (hts _ (lA 215 rfl))
  obtain ⟨c3, i3, k3⟩ := u_known (C := RX2) (T := TX2) (N := 3) (n := 3) htt inX2 (hts _ (lB 96 rfl))
  obtain ⟨c4, i4, k4⟩ := u_known (C := RX3) (T := TX3) (N := 9) (n := 9) htt inX3 (hts _ (lB 139 rfl))
  obtain ⟨c5, i5, k5⟩ := u_known (C := RX4) (T := TX4) (N := 7) (n := 7) htt inX4 (hts _ (lB 211 rfl))
  obtain ⟨c6, i6, k6⟩ := u_known (C := RX5) (T := TX5) (N := 8) (n := 8) htt inX5 (hts _ (lA 23 rfl))
  obtain ⟨y0, ka0, cp0, f1, f2, f3⟩ := Cond.arrayClass_spec (hts _ (lA 238 rfl))
  obtain ⟨cp2, y2, ka2, d1, -, d2, d3, d4⟩ := Cond.arrayOver_spec (hts _ (lA 31 rfl))
  obtain ⟨cp3, y3, ka3, e1, -, e2, e3, e4⟩ := Cond.arrayOver_spec (hts _ (lB 46 rfl))
  obtain ⟨y4, hy4, hT⟩ := va_Tof (N := 0) (f := fun _ => .null) (A := fun q => s.heap.size ≤ q) (by decide) (nar_in hgv nr_a) (va_eqt (nar_in hgv nr_l)) (fun j hj => absurd hj (Nat.not_lt_zero j)) hA
  obtain ⟨y5, hy5⟩ := va_Mi.of (nar_in hgv nr_m)
  refine ⟨(fun k => if k = 0 then c0 else if k = 1 then c1 else if k = 2 then c2 else if k = 3 then c3 else if k = 4 then c4 else if k = 5 then c5 else c6, fun k => if k = 0 then i0 else if k = 1 then i1 else if k = 2 then i2 else if k = 3 then i3 else if k = 4 then i4 else if k = 5 then i5 else i6), fun k => if k = 0 then y0 else if k = 1 then y0 else if k = 2 then y2 else if k = 3 then y3 else if k = 4 then y4 else if k = 5 then y5 else if k = 6 then b else L, rfl, rfl, ⟨⟨fun k q hq => ?_, fun k q hq => ?_⟩, (List.forall_mem_cons.mpr ⟨(str_R (hts _ (lC 40 rfl)) (nar_in hgv ns_112)), (List.forall_mem_cons.mpr ⟨(str_R (hts _ (lC 41 rfl)) (nar_in hgv ns_123)), (List.forall_mem_cons.mpr ⟨(str_R (hts _ (lC 49 rfl)) (nar_in hgv ns_197)), (List.forall_mem_cons.mpr ⟨(str_R (hts _ (lA 155 rfl)) (nar_in hgv ns_202)), (List.forall_mem_cons.mpr ⟨(str_R (hts _ (lB 73 rfl)) (nar_in hgv ns_206)), (List.forall_mem_cons.mpr ⟨(str_R (hts _ (lB 120 rfl)) (nar_in hgv ns_213)), (List.forall_mem_cons.mpr ⟨(str_R (hts _ (lB 205 rfl)) (nar_in hgv ns_215)), (List.forall_mem_cons.mpr ⟨(str_R (hts _ (lC 11 rfl)) (nar_in hgv ns_217)), (List.forall_mem_cons.mpr ⟨(str_R (hts _ (lA 185 rfl)) (nar_in hgv ns_219)), (List.forall_mem_cons.mpr ⟨(str_R (hts _ (lA 207 rfl)) (nar_in hgv ns_221)), (List.forall_mem_cons.mpr ⟨(str_R (hts _ (lC 109 rfl)) (nar_in hgv ns_227)), (fun _ h => absurd h List.not_mem_nil)⟩)⟩)⟩)⟩)⟩)⟩)⟩)⟩)⟩)⟩)⟩), hy5, va_Dc.of (hts _ (lC 167 rfl)), (List.forall_mem_cons.mpr ⟨(va_Nc.of (nar_in hgv nn_0)), (List.forall_mem_cons.mpr ⟨(va_Nc.of (nar_in hgv nn_1)), (fun _ h => absurd h List.not_mem_nil)⟩)⟩), (List.forall_mem_cons.mpr ⟨(va_Nw.of rfl (hts _ (lA 116 rfl))), (List.forall_mem_cons.mpr ⟨(va_Nw.of rfl (hts _ (lA 200 rfl))), (List.forall_mem_cons.mpr ⟨(va_Nw.of rfl (hts _ (lB 66 rfl))), (List.forall_mem_cons.mpr ⟨(va_Nw.of rfl (hts _ (lC 159 rfl))), (List.forall_mem_cons.mpr ⟨(va_Nw.of rfl (hts _ (lC 160 rfl))), (List.forall_mem_cons.mpr ⟨(va_Nw.of rfl (hts _ (lC 161 rfl))), (List.forall_mem_cons.mpr ⟨(va_Nw.of rfl (hts _ (lC 162 rfl))), (fun _ h => absurd h List.not_mem_nil)⟩)⟩)⟩)⟩)⟩)⟩)⟩), ⟨va_Nw.of rfl (hts _ (lA 118 rfl)), va_Nw.of rfl (hts _ (lA 120 rfl)), va_Nw.of rfl (hts _ (lA 122 rfl))⟩, va_AO.of (hts _ (lB 46 rfl)), va_AO.of (hts _ (lA 31 rfl))⟩, ⟨vx_Zqof (hts _ (lA 141 rfl)) (hts _ (lA 6 rfl)) (nar_in hgv nr_u) hA, vx_Zqof (hts _ (lA 143 rfl)) (hts _ (lA 6 rfl)) (nar_in hgv nr_s) hA, va_Zref (hts _ (lA 45 rfl)) (hts _ (lA 4 rfl)) hy4 hA, hT, xs, scr_T hX hb⟩⟩
  · match k, hq with
    | 0, hq => cases hq; exact k0
    | 1, hq => cases hq; exact k1
    | 2, hq => cases hq; exact k2
    | 3, hq => cases hq; exact k3
    | 4, hq => cases hq; exact k4
    | 5, hq => cases hq; exact k5
    | 6, hq => cases hq; exact k6
    | k + 7, hq => simp at hq
  · match k, hq with
    | 0, hq => cases hq; exact ⟨fun n z => ⟨fun k h => (by cases h), ka0, f2, cp0, f3⟩, f1⟩
    | 1, hq => cases hq; exact ⟨fun n z => ⟨fun k h => (by cases h), ka0, f2, cp0, f3⟩, f1⟩
    | 2, hq => cases hq; exact ⟨fun n z => ⟨fun k h => (by cases h), ka2, d2, cp2, d3⟩, ka2, cp2, d2, d3, d1, d4⟩
    | 3, hq => cases hq; exact ⟨fun n z => ⟨fun k h => (by cases h), ka3, e2, cp3, e3⟩, ka3, cp3, e2, e3, e1, e4⟩
    | k + 4, hq => simp [kTy] at hq
