/-! the law's small methods -/
section KSC
variable {p : Program} {l : Launch} {e : Env} {R : Room} {s : State} {m : MethodId} {args : Array Value} {below : List Frame} {meth : Method} {c : Code} {Q : State → Prop}
variable {A : Nat → Prop} {V : Heap → Prop} {k n nL pc : Nat} {lv : List (Nat × Value)} {st : List Value} {cc : ByteArray} {own : String} {D : va_G} {Y : Nat → Nat}
theorem k_tlen (C0 : CallFix p m c cc nL s args TT own) (K0 : PK D Y A s) (d : decode cc pc = .ok (.arraylength, 1)) (g : kG p l e R s m args below meth c Q A nL V k n (pc + 1) lv (.int (nI (Y 7)) :: st)) : kG p l e R s m args below meth c Q A nL V k n pc lv (.ref (Y 6) :: st) := fun H locs ls hV hS hl => by
  obtain ⟨xs, hx⟩ := K0.2.2.2.2.2.2
  exact va_tlen C0.1 C0.2.1 hx hS rfl d (g H locs ls hV hS hl)
theorem k_tld (C0 : CallFix p m c cc nL s args TT own) (K0 : PK D Y A s) {i : Int32} (hin : vp_in i (Y 7)) (d : decode cc pc = .ok (.iaload, 1)) (g : ∀ x : Int32, kG p l e R s m args below meth c Q A nL V k n (pc + 1) lv (.int x :: st)) : kG p l e R s m args below meth c Q A nL V k n pc lv (.int i :: .ref (Y 6) :: st) := fun H locs ls hV hS hl => by
  obtain ⟨xs, hx⟩ := K0.2.2.2.2.2.2
  exact va_ti C0.1 C0.2.1 hx hS hin rfl d (g (xs i.toNatClampNeg) H locs ls hV hS hl)
end KSC
theorem kk_roomP {c : Nat} {sg : Sg} (P : PI c sg) (hc : c < 600) : kkC c sg ≤ 684780 ∧ kkS c sg ≤ 7047283 := P.1.elim fun _ R => kk_room R hc
theorem kk_upP {c mc ms : Nat} {sg sg' : Sg} (h : phC sg + mc ≤ phC sg' + 20 ∧ phS sg + ms ≤ phS sg' + 200) (P : PI (c + 1) sg') (hc : c < 590) : (kkC c sg + mc ≤ kkC (c + 1) sg' ∧ kkS c sg + ms ≤ kkS (c + 1) sg') ∧ (kkC c sg + mc ≤ 684780 ∧ kkS c sg + ms ≤ 7047283) ∧ (kkC (c + 1) sg' ≤ 684780 ∧ kkS (c + 1) sg' ≤ 7047283) := P.1.elim fun _ R => kk_up h R hc
theorem kk_suc (c : Nat) (sg : Sg) : kkC c sg ≤ kkC (c + 1) sg ∧ kkS c sg ≤ kkS (c + 1) sg := by
  unfold kkC kkS
  omega
theorem ne_m3 {n : Nat} (h : n < 2 ^ 31) : ¬ nI n = -3 := fun z => absurd (by rw [z]; decide) (nI_pos h)
theorem nI_z {n : Nat} (h : n < 2 ^ 31) (e : nI n = 0) : n = 0 := (nI_eq (b := 0) h (by decide)).mp e
def zf (a : Int32) (f : Nat → Int32) : Nat → Int32
  | 0 => a
  | n + 1 => zf a f n + f n
theorem zf_zs (a : Int32) (f : Nat → Int32) : ∀ n, zf a f n = a + zs f n
  | 0 => (Int32.add_zero a).symm
  | n + 1 => by
    show zf a f n + f n = a + (zs f n + f n)
    rw [zf_zs a f n, Int32.add_assoc]
def za (sg : Sg) (d : Nat) (a : Int32) : Nat → Int32
  | 0 => a
  | i + 1 => zf (za sg d a i + (sg.1 2 i 2 + sg.1 2 i 3)) (sg.1 6 i) d
theorem za_zs (sg : Sg) (d : Nat) (a : Int32) : ∀ n, za sg d a n = a + zs (mkb sg d) n
  | 0 => (Int32.add_zero a).symm
  | n + 1 => by
    show zf (za sg d a n + (sg.1 2 n 2 + sg.1 2 n 3)) (sg.1 6 n) d = a + (zs (mkb sg d) n + (sg.1 2 n 2 + sg.1 2 n 3 + zs (sg.1 6 n) d))
    rw [zf_zs, za_zs sg d a n]
    ac_rfl
theorem sums_eq {sg : Sg} {d : Nat} (h : SM sg d) : za sg d (zf (sg.1 0 0 6) (fun j => sg.1 1 j 3) 5) (sN sg 2) = sg.1 0 0 7 := by
  rw [za_zs, zf_zs]
  exact h
theorem gkL_9 : GoodIn TT (wsV RL 9 yX5_refund.cls yX5_refund (Cond.code yX5_refund cX5_refund 3 (some .int) :: TT)) := goodTV (tC 36 rfl rfl) (tC 37 rfl rfl) (tC 38 rfl rfl) (tA 1 rfl rfl) (tC 39 rfl rfl)
theorem hyX5_refund : yX5_refund.cls ≠ "java/lang/invoke/MethodHandle" ∧ yX5_refund.cls ≠ "java/lang/invoke/VarHandle" ∧ (parseMethodDescriptor yX5_refund.desc).map (fun d => d.parameters.length) = some 1 := by decide +kernel
theorem gkL_17 : GoodIn TT (wsV RL 17 yX5_pass.cls yX5_pass (Cond.code yX5_pass cX5_pass 4 (some .int) :: TT)) := goodTV (tC 45 rfl rfl) (tC 46 rfl rfl) (tC 47 rfl rfl) (tA 1 rfl rfl) (tC 48 rfl rfl)
theorem hyX5_pass : yX5_pass.cls ≠ "java/lang/invoke/MethodHandle" ∧ yX5_pass.cls ≠ "java/lang/invoke/VarHandle" ∧ (parseMethodDescriptor yX5_pass.desc).map (fun d => d.parameters.length) = some 1 := by decide +kernel
theorem gkL_20 : GoodIn TT (wsV RL 20 yX5_cancel.cls yX5_cancel (Cond.code yX5_cancel cX5_cancel 3 (some .int) :: TT)) := goodTV (tC 98 rfl rfl) (tC 99 rfl rfl) (tC 100 rfl rfl) (tA 1 rfl rfl) (tC 101 rfl rfl)
theorem hyX5_cancel : yX5_cancel.cls ≠ "java/lang/invoke/MethodHandle" ∧ yX5_cancel.cls ≠ "java/lang/invoke/VarHandle" ∧ (parseMethodDescriptor yX5_cancel.desc).map (fun d => d.parameters.length) = some 1 := by decide +kernel
theorem gkL_43 : GoodIn TT (wsV RL 43 yX5_paid.cls yX5_paid (Cond.code yX5_paid cX5_paid 2 (some .int) :: TT)) := goodTV (tB 197 rfl rfl) (tB 198 rfl rfl) (tB 199 rfl rfl) (tA 1 rfl rfl) (tB 200 rfl rfl)
theorem hyX5_paid : yX5_paid.cls ≠ "java/lang/invoke/MethodHandle" ∧ yX5_paid.cls ≠ "java/lang/invoke/VarHandle" ∧ (parseMethodDescriptor yX5_paid.desc).map (fun d => d.parameters.length) = some 1 := by decide +kernel
theorem gkL_46 : GoodIn TT (wsV RL 46 yX5_tax.cls yX5_tax (Cond.code yX5_tax cX5_tax 2 (some .int) :: TT)) := goodTV (tC 138 rfl rfl) (tC 139 rfl rfl) (tC 140 rfl rfl) (tA 1 rfl rfl) (tC 141 rfl rfl)
theorem hyX5_tax : yX5_tax.cls ≠ "java/lang/invoke/MethodHandle" ∧ yX5_tax.cls ≠ "java/lang/invoke/VarHandle" ∧ (parseMethodDescriptor yX5_tax.desc).map (fun d => d.parameters.length) = some 1 := by decide +kernel
theorem gkL_49 : GoodIn TT (wsV RL 49 yX5_shopShare.cls yX5_shopShare (Cond.code yX5_shopShare cX5_shopShare 2 (some .int) :: TT)) := goodTV (tC 142 rfl rfl) (tC 143 rfl rfl) (tC 144 rfl rfl) (tA 1 rfl rfl) (tC 145 rfl rfl)
theorem hyX5_shopShare : yX5_shopShare.cls ≠ "java/lang/invoke/MethodHandle" ∧ yX5_shopShare.cls ≠ "java/lang/invoke/VarHandle" ∧ (parseMethodDescriptor yX5_shopShare.desc).map (fun d => d.parameters.length) = some 1 := by decide +kernel
theorem gkL_52 : GoodIn TT (wsV RL 52 yX5_makerPart.cls yX5_makerPart (Cond.code yX5_makerPart cX5_makerPart 2 (some .int) :: TT)) := goodTV (tC 146 rfl rfl) (tC 147 rfl rfl) (tC 148 rfl rfl) (tA 1 rfl rfl) (tC 149 rfl rfl)
theorem hyX5_makerPart : yX5_makerPart.cls ≠ "java/lang/invoke/MethodHandle" ∧ yX5_makerPart.cls ≠ "java/lang/invoke/VarHandle" ∧ (parseMethodDescriptor yX5_makerPart.desc).map (fun d => d.parameters.length) = some 1 := by decide +kernel
theorem gkL_27 : GoodIn TT (wsV RL 27 yX5_heldTax.cls yX5_heldTax (Cond.code yX5_heldTax cX5_heldTax 2 (some .int) :: TT)) := goodTV (tC 118 rfl rfl) (tC 119 rfl rfl) (tC 120 rfl rfl) (tA 1 rfl rfl) (tC 121 rfl rfl)
theorem hyX5_heldTax : yX5_heldTax.cls ≠ "java/lang/invoke/MethodHandle" ∧ yX5_heldTax.cls ≠ "java/lang/invoke/VarHandle" ∧ (parseMethodDescriptor yX5_heldTax.desc).map (fun d => d.parameters.length) = some 1 := by decide +kernel
theorem gkL_33 : GoodIn TT (wsV RL 33 yX5_day.cls yX5_day (Cond.code yX5_day cX5_day 1 (some .int) :: TT)) := goodTV (tC 20 rfl rfl) (tC 21 rfl rfl) (tC 22 rfl rfl) (tA 1 rfl rfl) (tC 23 rfl rfl)
theorem hyX5_day : yX5_day.cls ≠ "java/lang/invoke/MethodHandle" ∧ yX5_day.cls ≠ "java/lang/invoke/VarHandle" ∧ (parseMethodDescriptor yX5_day.desc).map (fun d => d.parameters.length) = some 0 := by decide +kernel
theorem gkL_36 : GoodIn TT (wsV RL 36 yX5_payout.cls yX5_payout (Cond.code yX5_payout cX5_payout 4 (some .int) :: TT)) := goodTV (tC 127 rfl rfl) (tC 128 rfl rfl) (tC 129 rfl rfl) (tA 1 rfl rfl) (tC 130 rfl rfl)
theorem hyX5_payout : yX5_payout.cls ≠ "java/lang/invoke/MethodHandle" ∧ yX5_payout.cls ≠ "java/lang/invoke/VarHandle" ∧ (parseMethodDescriptor yX5_payout.desc).map (fun d => d.parameters.length) = some 2 := by decide +kernel
theorem gkL_30 : GoodIn TT (wsV RL 30 yX5_balance.cls yX5_balance (Cond.code yX5_balance cX5_balance 2 (some .int) :: TT)) := goodTV (tC 122 rfl rfl) (tC 123 rfl rfl) (tC 124 rfl rfl) (tA 1 rfl rfl) (tC 125 rfl rfl)
theorem hyX5_balance : yX5_balance.cls ≠ "java/lang/invoke/MethodHandle" ∧ yX5_balance.cls ≠ "java/lang/invoke/VarHandle" ∧ (parseMethodDescriptor yX5_balance.desc).map (fun d => d.parameters.length) = some 1 := by decide +kernel
theorem gkL_23 : GoodIn TT (wsV RL 23 yX5_shop.cls yX5_shop (Cond.code yX5_shop cX5_shop 1 (some .int) :: TT)) := goodTV (tC 114 rfl rfl) (tC 115 rfl rfl) (tC 116 rfl rfl) (tA 1 rfl rfl) (tC 117 rfl rfl)
theorem hyX5_shop : yX5_shop.cls ≠ "java/lang/invoke/MethodHandle" ∧ yX5_shop.cls ≠ "java/lang/invoke/VarHandle" ∧ (parseMethodDescriptor yX5_shop.desc).map (fun d => d.parameters.length) = some 0 := by decide +kernel
theorem gkL_40 : GoodIn TT (wsV RL 40 yX5_takings.cls yX5_takings (Cond.code yX5_takings cX5_takings 1 (some .int) :: TT)) := goodTV (tC 16 rfl rfl) (tC 17 rfl rfl) (tC 18 rfl rfl) (tA 1 rfl rfl) (tC 19 rfl rfl)
theorem hyX5_takings : yX5_takings.cls ≠ "java/lang/invoke/MethodHandle" ∧ yX5_takings.cls ≠ "java/lang/invoke/VarHandle" ∧ (parseMethodDescriptor yX5_takings.desc).map (fun d => d.parameters.length) = some 0 := by decide +kernel
set_option maxRecDepth 100000 in
set_option maxHeartbeats 4000000 in
theorem ct_low (l : Launch) (D : va_G) (Y : Nat → Nat) (A : Nat → Prop) (V : Heap → Prop) (v : Int32) (k : Nat) (h0 : 0 < k) (hk : k < 2 ^ 31) : CT l yL_low (Cond.code yL_low cL_low 2 (some .int)) 0 0 D Y A [.int v, .int (nI k)] V (fun q : Nat => some (.int (nI q))) (fun (q : Nat) (H : Heap) => q < k ∧ V H) noX 0 0 := by
  refine CT.of (by decide) (Nat.le_of_ble_eq_true rfl) ?_
  intro p_ e_ s_ m_ below_ meth_ c_ C0 K0 hr hlk htab hnm_
  obtain ⟨q0, hq0, eq0⟩ := low_ex v h0 hk
  refine k_iload_n C0 dL_low_0 0 rfl ?_
  refine k_ldc C0 (v := 2147483647) dL_low_1 (tC 27 rfl rfl) ?_
  refine k_iand C0 dL_low_3 ?_
  refine k_iload_n C0 dL_low_4 1 rfl ?_
  refine k_irem C0 dL_low_5 (nI_ne0 h0 hk) ?_
  exact k_iret C0 dL_low_6 hr hlk (Nat.le_of_ble_eq_true rfl) (Nat.le_of_ble_eq_true rfl) q0 (by rw [eq0]) (fun H h => ⟨hq0, h⟩)
set_option maxRecDepth 100000 in
set_option maxHeartbeats 4000000 in
theorem ct_cell (l : Launch) (D : va_G) (Y : Nat → Nat) (A : Nat → Prop) (V : Heap → Prop) (k : Nat) (hk : k < 2 ^ 31) (hY : Y 7 < 2 ^ 31) : CT l yL_cell (Cond.code yL_cell cL_cell 2 (some .int)) 0 0 D Y A [.ref (Y 6), .int (nI k)] V (fun x : Int32 => some (.int x)) (fun _ : Int32 => V) noX 0 0 := by
  refine CT.of (by decide) (Nat.le_of_ble_eq_true rfl) ?_
  intro p_ e_ s_ m_ below_ meth_ c_ C0 K0 hr hlk htab hnm_
  refine k_iload_n C0 dL_cell_0 1 rfl ?_
  refine k_aload_n C0 dL_cell_1 0 rfl ?_
  refine k_tlen C0 K0 dL_cell_2 ?_
  refine k_icmp_ge C0 12 dL_cell_3 (by decide) (fun h3 => ?_) (fun h3 => ?_)
  ·
    refine k_ldc C0 (v := 40503) dL_cell_12 (tC 31 rfl rfl) ?_
    refine k_iload_n C0 dL_cell_14 1 rfl ?_
    refine k_imul C0 dL_cell_15 ?_
    refine k_sipush C0 977 dL_cell_16 (by decide) ?_
    refine k_iadd C0 dL_cell_19 ?_
    exact k_iret C0 dL_cell_20 hr hlk (Nat.le_of_ble_eq_true rfl) (Nat.le_of_ble_eq_true rfl) ((40503 * (nI k)) + 977) rfl (fun H h => h)
  ·
    refine k_aload_n C0 dL_cell_6 0 rfl ?_
    refine k_iload_n C0 dL_cell_7 1 rfl ?_
    refine k_tld C0 K0 (vp_in_nI ((nI_ltI (by omega) (by omega)).mp (Int32.not_le.mp h3)) (by omega)) dL_cell_8 (fun x1 => ?_)
    refine k_goto C0 20 dL_cell_9 (by decide) ?_
    exact k_iret C0 dL_cell_20 hr hlk (Nat.le_of_ble_eq_true rfl) (Nat.le_of_ble_eq_true rfl) x1 rfl (fun H h => h)
theorem cc_salesN (l : Launch) (D : va_G) (Y : Nat → Nat) (A : Nat → Prop) (sg : Sg) (al : Nat → Nat → Nat) (hw : lw sg 2) : CT l yX5_sales (Cond.code yX5_sales cX5_sales 1 (some .int)) 1 20 D Y A [.ref (al 0 0)] (WX D Y A sg al []) (fun _ : Unit => some (.int (nI (sN sg 4)))) (fun _ : Unit => WX D Y A sg al []) noX 0 0 := by
  rw [show sN sg 4 = sZ sg 2 from hw.1.symm]
  exact cc_sales l D Y A sg al []
set_option maxRecDepth 100000 in
set_option maxHeartbeats 4000000 in
theorem lo_refund (l : Launch) (D : va_G) (Y : Nat → Nat) (A : Nat → Prop) (sg : Sg) (al : Nat → Nat → Nat) {S : Type} {V1 : S → Heap → Prop} (a r : Int32) {F LOC mc ms : Nat} (hF : F ≤ 13) (hL : LOC ≤ 310) (hM : CT l yX5_refund (Cond.code yX5_refund cX5_refund 3 (some .int)) F LOC D Y A [.ref (al 0 0), .int a] (WX D Y A sg al []) (fun _ : S => some (.int r)) V1 noX mc ms) : CT l yL_refund (Cond.codeWith yL_refund cL_refund 3 (some .int) [(0, 5, 6, 15)]) 14 340 D Y A [.ref (al 0 0), .int a] (WX D Y A sg al []) (fun _ : S => some (.int r)) V1 noX mc ms := by
  refine CT.ofH (by decide) (Nat.le_of_ble_eq_true rfl) ?_
  intro p_ e_ s_ m_ below_ meth_ c_ C0 K0 hr hlk htab
  refine k_aload_n C0 dL_refund_0 0 rfl ?_
  refine k_iload_n C0 dL_refund_1 1 rfl ?_
  refine k_callV C0 K0 dL_refund_2 hM gkL_9 hyX5_refund (c_recv (sg := sg) (al := al) K0 0 0 rfl rfl rfl) rfl (by exact (Nat.le_of_ble_eq_true rfl)) ⟨Nat.succ_le_succ hF, show 8 + (3 + 11) + LOC ≤ 340 by omega⟩ ⟨Nat.le_of_eq (Nat.zero_add _), Nat.le_of_eq (Nat.zero_add _)⟩ (fun E => kX_no E) (fun u => ?_)
  exact k_iret C0 dL_refund_5 hr hlk (Nat.le_of_eq (Nat.zero_add _)) (Nat.le_of_eq (Nat.zero_add _)) u rfl (fun H h => h)
set_option maxRecDepth 100000 in
set_option maxHeartbeats 4000000 in
theorem lx_refund (l : Launch) (D : va_G) (Y : Nat → Nat) (A : Nat → Prop) (sg : Sg) (al : Nat → Nat → Nat) (a : Int32) {F LOC mc ms : Nat} (hF : F ≤ 13) (hL : LOC ≤ 310) (hM : CT l yX5_refund (Cond.code yX5_refund cX5_refund 3 (some .int)) F LOC D Y A [.ref (al 0 0), .int a] (WX D Y A sg al []) (fun _ : Unit => none) (fun (_ : Unit) (_ : Heap) => False) (xE "java/lang/IllegalStateException" (WX D Y A sg al [])) mc ms) : CT l yL_refund (Cond.codeWith yL_refund cL_refund 3 (some .int) [(0, 5, 6, 15)]) 14 340 D Y A [.ref (al 0 0), .int a] (WX D Y A sg al []) (fun _ : Unit => some (.int (-3))) (fun _ : Unit => WX D Y A sg al []) noX mc ms := by
  refine CT.ofH (by decide) (Nat.le_of_ble_eq_true rfl) ?_
  intro p_ e_ s_ m_ below_ meth_ c_ C0 K0 hr hlk htab
  refine k_aload_n C0 dL_refund_0 0 rfl ?_
  refine k_iload_n C0 dL_refund_1 1 rfl ?_
  refine k_callV C0 K0 dL_refund_2 hM gkL_9 hyX5_refund (c_recv (sg := sg) (al := al) K0 0 0 rfl rfl rfl) rfl (by exact (Nat.le_of_ble_eq_true rfl)) ⟨Nat.succ_le_succ hF, show 8 + (3 + 11) + LOC ≤ 340 by omega⟩ ⟨Nat.le_of_eq (Nat.zero_add _), Nat.le_of_eq (Nat.zero_add _)⟩ (fun E => kX_xE ?_ E) (fun _ => fun _ _ _ h => h.elim)
  refine k_catch C0 K0 [] ⟨0, 5, 6, 15⟩ [] htab (fun _ h => absurd h List.not_mem_nil) (by decide) (by decide) (tC 35 rfl rfl) (by decide) (fun q => ?_)
  refine k_astore_n C0 [(2, _), (0, _), (1, _)] dL_refund_6 (by decide) rfl ?_
  refine k_bipush C0 (-3) dL_refund_7 (by decide) ?_
  exact k_iret C0 dL_refund_9 hr hlk (Nat.le_of_eq (Nat.zero_add _)) (Nat.le_of_eq (Nat.zero_add _)) () rfl (fun H h => h)
set_option maxRecDepth 100000 in
set_option maxHeartbeats 4000000 in
theorem lo_pass (l : Launch) (D : va_G) (Y : Nat → Nat) (A : Nat → Prop) (sg : Sg) (al : Nat → Nat → Nat) {S : Type} {V1 : S → Heap → Prop} (a r : Int32) {F LOC mc ms : Nat} (hF : F ≤ 13) (hL : LOC ≤ 310) (hM : CT l yX5_pass (Cond.code yX5_pass cX5_pass 4 (some .int)) F LOC D Y A [.ref (al 0 0), .int a] (WX D Y A sg al []) (fun _ : S => some (.int r)) V1 noX mc ms) : CT l yL_pass (Cond.codeWith yL_pass cL_pass 3 (some .int) [(0, 5, 6, 15)]) 14 340 D Y A [.ref (al 0 0), .int a] (WX D Y A sg al []) (fun _ : S => some (.int r)) V1 noX mc ms := by
  refine CT.ofH (by decide) (Nat.le_of_ble_eq_true rfl) ?_
  intro p_ e_ s_ m_ below_ meth_ c_ C0 K0 hr hlk htab
  refine k_aload_n C0 dL_pass_0 0 rfl ?_
  refine k_iload_n C0 dL_pass_1 1 rfl ?_
  refine k_callV C0 K0 dL_pass_2 hM gkL_17 hyX5_pass (c_recv (sg := sg) (al := al) K0 0 0 rfl rfl rfl) rfl (by exact (Nat.le_of_ble_eq_true rfl)) ⟨Nat.succ_le_succ hF, show 8 + (4 + 11) + LOC ≤ 340 by omega⟩ ⟨Nat.le_of_eq (Nat.zero_add _), Nat.le_of_eq (Nat.zero_add _)⟩ (fun E => kX_no E) (fun u => ?_)
  exact k_iret C0 dL_pass_5 hr hlk (Nat.le_of_eq (Nat.zero_add _)) (Nat.le_of_eq (Nat.zero_add _)) u rfl (fun H h => h)
set_option maxRecDepth 100000 in
set_option maxHeartbeats 4000000 in
theorem lx_pass (l : Launch) (D : va_G) (Y : Nat → Nat) (A : Nat → Prop) (sg : Sg) (al : Nat → Nat → Nat) (a : Int32) {F LOC mc ms : Nat} (hF : F ≤ 13) (hL : LOC ≤ 310) (hM : CT l yX5_pass (Cond.code yX5_pass cX5_pass 4 (some .int)) F LOC D Y A [.ref (al 0 0), .int a] (WX D Y A sg al []) (fun _ : Unit => none) (fun (_ : Unit) (_ : Heap) => False) (xE "java/lang/IllegalStateException" (WX D Y A sg al [])) mc ms) : CT l yL_pass (Cond.codeWith yL_pass cL_pass 3 (some .int) [(0, 5, 6, 15)]) 14 340 D Y A [.ref (al 0 0), .int a] (WX D Y A sg al []) (fun _ : Unit => some (.int (-3))) (fun _ : Unit => WX D Y A sg al []) noX mc ms := by
  refine CT.ofH (by decide) (Nat.le_of_ble_eq_true rfl) ?_
  intro p_ e_ s_ m_ below_ meth_ c_ C0 K0 hr hlk htab
  refine k_aload_n C0 dL_pass_0 0 rfl ?_
  refine k_iload_n C0 dL_pass_1 1 rfl ?_
  refine k_callV C0 K0 dL_pass_2 hM gkL_17 hyX5_pass (c_recv (sg := sg) (al := al) K0 0 0 rfl rfl rfl) rfl (by exact (Nat.le_of_ble_eq_true rfl)) ⟨Nat.succ_le_succ hF, show 8 + (4 + 11) + LOC ≤ 340 by omega⟩ ⟨Nat.le_of_eq (Nat.zero_add _), Nat.le_of_eq (Nat.zero_add _)⟩ (fun E => kX_xE ?_ E) (fun _ => fun _ _ _ h => h.elim)
  refine k_catch C0 K0 [] ⟨0, 5, 6, 15⟩ [] htab (fun _ h => absurd h List.not_mem_nil) (by decide) (by decide) (tC 35 rfl rfl) (by decide) (fun q => ?_)
  refine k_astore_n C0 [(2, _), (0, _), (1, _)] dL_pass_6 (by decide) rfl ?_
  refine k_bipush C0 (-3) dL_pass_7 (by decide) ?_
  exact k_iret C0 dL_pass_9 hr hlk (Nat.le_of_eq (Nat.zero_add _)) (Nat.le_of_eq (Nat.zero_add _)) () rfl (fun H h => h)
set_option maxRecDepth 100000 in
set_option maxHeartbeats 4000000 in
theorem lo_cancel (l : Launch) (D : va_G) (Y : Nat → Nat) (A : Nat → Prop) (sg : Sg) (al : Nat → Nat → Nat) {S : Type} {V1 : S → Heap → Prop} (a r : Int32) {F LOC mc ms : Nat} (hF : F ≤ 13) (hL : LOC ≤ 310) (hM : CT l yX5_cancel (Cond.code yX5_cancel cX5_cancel 3 (some .int)) F LOC D Y A [.ref (al 0 0), .int a] (WX D Y A sg al []) (fun _ : S => some (.int r)) V1 noX mc ms) : CT l yL_cancel (Cond.codeWith yL_cancel cL_cancel 3 (some .int) [(0, 5, 6, 15)]) 14 340 D Y A [.ref (al 0 0), .int a] (WX D Y A sg al []) (fun _ : S => some (.int r)) V1 noX mc ms := by
  refine CT.ofH (by decide) (Nat.le_of_ble_eq_true rfl) ?_
  intro p_ e_ s_ m_ below_ meth_ c_ C0 K0 hr hlk htab
  refine k_aload_n C0 dL_cancel_0 0 rfl ?_
  refine k_iload_n C0 dL_cancel_1 1 rfl ?_
  refine k_callV C0 K0 dL_cancel_2 hM gkL_20 hyX5_cancel (c_recv (sg := sg) (al := al) K0 0 0 rfl rfl rfl) rfl (by exact (Nat.le_of_ble_eq_true rfl)) ⟨Nat.succ_le_succ hF, show 8 + (3 + 11) + LOC ≤ 340 by omega⟩ ⟨Nat.le_of_eq (Nat.zero_add _), Nat.le_of_eq (Nat.zero_add _)⟩ (fun E => kX_no E) (fun u => ?_)
  exact k_iret C0 dL_cancel_5 hr hlk (Nat.le_of_eq (Nat.zero_add _)) (Nat.le_of_eq (Nat.zero_add _)) u rfl (fun H h => h)
set_option maxRecDepth 100000 in
set_option maxHeartbeats 4000000 in
theorem lx_cancel (l : Launch) (D : va_G) (Y : Nat → Nat) (A : Nat → Prop) (sg : Sg) (al : Nat → Nat → Nat) (a : Int32) {F LOC mc ms : Nat} (hF : F ≤ 13) (hL : LOC ≤ 310) (hM : CT l yX5_cancel (Cond.code yX5_cancel cX5_cancel 3 (some .int)) F LOC D Y A [.ref (al 0 0), .int a] (WX D Y A sg al []) (fun _ : Unit => none) (fun (_ : Unit) (_ : Heap) => False) (xE "java/lang/IllegalStateException" (WX D Y A sg al [])) mc ms) : CT l yL_cancel (Cond.codeWith yL_cancel cL_cancel 3 (some .int) [(0, 5, 6, 15)]) 14 340 D Y A [.ref (al 0 0), .int a] (WX D Y A sg al []) (fun _ : Unit => some (.int (-3))) (fun _ : Unit => WX D Y A sg al []) noX mc ms := by
  refine CT.ofH (by decide) (Nat.le_of_ble_eq_true rfl) ?_
  intro p_ e_ s_ m_ below_ meth_ c_ C0 K0 hr hlk htab
  refine k_aload_n C0 dL_cancel_0 0 rfl ?_
  refine k_iload_n C0 dL_cancel_1 1 rfl ?_
  refine k_callV C0 K0 dL_cancel_2 hM gkL_20 hyX5_cancel (c_recv (sg := sg) (al := al) K0 0 0 rfl rfl rfl) rfl (by exact (Nat.le_of_ble_eq_true rfl)) ⟨Nat.succ_le_succ hF, show 8 + (3 + 11) + LOC ≤ 340 by omega⟩ ⟨Nat.le_of_eq (Nat.zero_add _), Nat.le_of_eq (Nat.zero_add _)⟩ (fun E => kX_xE ?_ E) (fun _ => fun _ _ _ h => h.elim)
  refine k_catch C0 K0 [] ⟨0, 5, 6, 15⟩ [] htab (fun _ h => absurd h List.not_mem_nil) (by decide) (by decide) (tC 35 rfl rfl) (by decide) (fun q => ?_)
  refine k_astore_n C0 [(2, _), (0, _), (1, _)] dL_cancel_6 (by decide) rfl ?_
  refine k_bipush C0 (-3) dL_cancel_7 (by decide) ?_
  exact k_iret C0 dL_cancel_9 hr hlk (Nat.le_of_eq (Nat.zero_add _)) (Nat.le_of_eq (Nat.zero_add _)) () rfl (fun H h => h)
set_option maxRecDepth 100000 in
set_option maxHeartbeats 4000000 in
theorem ct_sale (l : Launch) (D : va_G) (Y : Nat → Nat) (A : Nat → Prop) (sg : Sg) (al : Nat → Nat → Nat) (hw : lw sg 2) (i : Nat) (hi : i < sN sg 4) (a b t : Nat) (ha : a < 2 ^ 17) (hb : b < 2 ^ 15) (ht : t < 2 ^ 15) (e3 : sg.1 4 i 3 = nI a) (e4 : sg.1 4 i 4 = nI b) (e5 : sg.1 4 i 5 = nI t) (hle : nI t ≤ (nI a - nI b) * 30 / 100) (h6 : sg.1 4 i 6 = nI a - nI t ∨ sg.1 4 i 6 = nI a - nI t - nI b) : CT l yL_sale (Cond.code yL_sale cL_sale 6 (some .boolean)) 5 106 D Y A [.ref (al 0 0), .int (nI i)] (WX D Y A sg al []) (fun _ : Unit => some (.int 1)) (fun _ : Unit => WX D Y A sg al []) noX 0 0 := by
  refine CT.of (by decide) (Nat.le_of_ble_eq_true rfl) ?_
  intro p_ e_ s_ m_ below_ meth_ c_ C0 K0 hr hlk htab hnm_
  refine k_aload_n C0 dL_sale_0 0 rfl ?_
  refine k_iload_n C0 dL_sale_1 1 rfl ?_
  refine k_callV C0 K0 dL_sale_2 (cc_paid l D Y A sg al [] hw i hi) gkL_43 hyX5_paid (c_recv (sg := sg) (al := al) K0 0 0 rfl rfl rfl) rfl (by exact Nat.le_of_ble_eq_true rfl) ⟨Nat.le_of_ble_eq_true rfl, Nat.le_of_ble_eq_true rfl⟩ ⟨Nat.le_of_ble_eq_true rfl, Nat.le_of_ble_eq_true rfl⟩ (fun E => kX_no E) (fun _ => ?_)
  rw [e3]
  refine k_istore_n C0 [(2, _), (0, _), (1, _)] dL_sale_5 (by decide) rfl ?_
  refine k_aload_n C0 dL_sale_6 1 rfl ?_
  refine k_iload_n C0 dL_sale_7 2 rfl ?_
  refine k_callV C0 K0 dL_sale_8 (cc_tax l D Y A sg al [] hw i hi) gkL_46 hyX5_tax (c_recv (sg := sg) (al := al) K0 0 0 rfl rfl rfl) rfl (by exact Nat.le_of_ble_eq_true rfl) ⟨Nat.le_of_ble_eq_true rfl, Nat.le_of_ble_eq_true rfl⟩ ⟨Nat.le_of_ble_eq_true rfl, Nat.le_of_ble_eq_true rfl⟩ (fun E => kX_no E) (fun _ => ?_)
  rw [e4]
  refine k_istore_n C0 [(3, _), (2, _), (0, _), (1, _)] dL_sale_11 (by decide) rfl ?_
  refine k_aload_n C0 dL_sale_12 2 rfl ?_
  refine k_iload_n C0 dL_sale_13 3 rfl ?_
  refine k_callV C0 K0 dL_sale_14 (cc_shopShare l D Y A sg al [] hw i hi) gkL_49 hyX5_shopShare (c_recv (sg := sg) (al := al) K0 0 0 rfl rfl rfl) rfl (by exact Nat.le_of_ble_eq_true rfl) ⟨Nat.le_of_ble_eq_true rfl, Nat.le_of_ble_eq_true rfl⟩ ⟨Nat.le_of_ble_eq_true rfl, Nat.le_of_ble_eq_true rfl⟩ (fun E => kX_no E) (fun _ => ?_)
  rw [e5]
  refine k_istore C0 [(4, _), (3, _), (2, _), (0, _), (1, _)] dL_sale_17 (by decide) rfl ?_
  refine k_aload_n C0 dL_sale_19 3 rfl ?_
  refine k_iload_n C0 dL_sale_20 4 rfl ?_
  refine k_callV C0 K0 dL_sale_21 (cc_makerPart l D Y A sg al [] hw i hi) gkL_52 hyX5_makerPart (c_recv (sg := sg) (al := al) K0 0 0 rfl rfl rfl) rfl (by exact Nat.le_of_ble_eq_true rfl) ⟨Nat.le_of_ble_eq_true rfl, Nat.le_of_ble_eq_true rfl⟩ ⟨Nat.le_of_ble_eq_true rfl, Nat.le_of_ble_eq_true rfl⟩ (fun E => kX_no E) (fun _ => ?_)
  refine k_istore C0 [(5, _), (4, _), (3, _), (2, _), (0, _), (1, _)] dL_sale_24 (by decide) rfl ?_
  refine k_iload_n C0 dL_sale_26 3 rfl ?_
  refine k_if_lt C0 77 dL_sale_27 (by decide) (fun zz => absurd zz (nI_pos (by omega))) (fun _ => ?_)
  refine k_iload_n C0 dL_sale_30 2 rfl ?_
  refine k_if_lt C0 77 dL_sale_31 (by decide) (fun zz => absurd zz (nI_pos (by omega))) (fun _ => ?_)
  refine k_iload C0 dL_sale_34 1 rfl ?_
  refine k_if_lt C0 77 dL_sale_36 (by decide) (fun zz => absurd zz (nI_pos (by omega))) (fun _ => ?_)
  refine k_iload C0 dL_sale_39 1 rfl ?_
  refine k_iload_n C0 dL_sale_41 3 rfl ?_
  refine k_iload_n C0 dL_sale_42 2 rfl ?_
  refine k_isub C0 dL_sale_43 ?_
  refine k_bipush C0 30 dL_sale_44 (by decide) ?_
  refine k_imul C0 dL_sale_46 ?_
  refine k_bipush C0 100 dL_sale_47 (by decide) ?_
  refine k_idiv C0 dL_sale_49 (by decide) ?_
  refine k_icmp_gt C0 77 dL_sale_50 (by decide) (fun zz => absurd zz (Int32.not_lt.mpr hle)) (fun _ => ?_)
  refine k_iload C0 dL_sale_53 0 rfl ?_
  refine k_iload_n C0 dL_sale_55 3 rfl ?_
  refine k_iload C0 dL_sale_56 1 rfl ?_
  refine k_isub C0 dL_sale_58 ?_
  refine k_icmp_eq C0 73 dL_sale_59 (by decide) (fun h59 => ?_) (fun h59 => ?_)
  ·
    refine k_iconst C0 1 dL_sale_73 (by decide) ?_
    refine k_goto C0 78 dL_sale_74 (by decide) ?_
    exact k_zret C0 dL_sale_78 hr rfl hlk (Nat.le_of_ble_eq_true rfl) (Nat.le_of_ble_eq_true rfl) () rfl (fun H h => h)
  ·
    refine k_iload C0 dL_sale_62 0 rfl ?_
    refine k_iload_n C0 dL_sale_64 3 rfl ?_
    refine k_iload C0 dL_sale_65 1 rfl ?_
    refine k_isub C0 dL_sale_67 ?_
    refine k_iload_n C0 dL_sale_68 2 rfl ?_
    refine k_isub C0 dL_sale_69 ?_
    refine k_icmp_ne C0 77 dL_sale_70 (by decide) (fun zz => absurd (h6.resolve_left h59) zz) (fun _ => ?_)
    refine k_iconst C0 1 dL_sale_73 (by decide) ?_
    refine k_goto C0 78 dL_sale_74 (by decide) ?_
    exact k_zret C0 dL_sale_78 hr rfl hlk (Nat.le_of_ble_eq_true rfl) (Nat.le_of_ble_eq_true rfl) () rfl (fun H h => h)
set_option maxRecDepth 100000 in
set_option maxHeartbeats 4000000 in
theorem lp_land {p : Program} {l : Launch} {e : Env} {R : Room} {s_ : State} {m_ : MethodId} {args_ : Array Value} {below_ : List Frame} {meth_ : Method} {c_ : Code} {Q : State → Prop} {D : va_G} {Y : Nat → Nat} {A : Nat → Prop} {k n : Nat} {sg : Sg} {al : Nat → Nat → Nat} (C0 : CallFix p m_ c_ cL_sums 5 s_ args_ TT RL) (K0 : PK D Y A s_) (hRf : 5 ≤ R.frames ∧ 108 ≤ R.locals) (hk : k ≤ R.cells ∧ n ≤ R.slots)  (exit : kG p l e R s_ m_ args_ below_ meth_ c_ Q A 5 (WX D Y A sg al []) k n 26 [(3, .int (nI 5)), (2, .int (zf (sg.1 0 0 6) (fun j => sg.1 1 j 3) 5)), (0, .ref (al 0 0)), (1, .int (nI (sN sg 2)))] []) : ∀ (r i : Nat), i + r = 5 → kG p l e R s_ m_ args_ below_ meth_ c_ Q A 5 (WX D Y A sg al []) k n 7 [(3, .int (nI i)), (2, .int (zf (sg.1 0 0 6) (fun j => sg.1 1 j 3) i)), (0, .ref (al 0 0)), (1, .int (nI (sN sg 2)))] [] := by
  intro r
  induction r with
  | zero =>
    intro i hb
    have hb : i = 5 := hb
    subst hb
    refine k_iload_n C0 dL_sums_7 0 rfl ?_
    refine k_iconst C0 5 dL_sums_8 (by decide) ?_
    refine k_icmp_ge C0 26 dL_sums_9 (by decide) (fun _ => ?_) (fun zz => absurd (nI_le (Nat.le_refl 5) (by decide)) zz)
    exact exit
  | succ r ih =>
    intro i hb
    refine k_iload_n C0 dL_sums_7 0 rfl ?_
    refine k_iconst C0 5 dL_sums_8 (by decide) ?_
    refine k_icmp_ge C0 26 dL_sums_9 (by decide) (fun zz => absurd zz (nI_ge (a := i) (b := 5) (by omega) (by decide))) (fun _ => ?_)
    refine k_iload_n C0 dL_sums_12 1 rfl ?_
    refine k_aload_n C0 dL_sums_13 2 rfl ?_
    refine k_iload_n C0 dL_sums_14 0 rfl ?_
    refine k_callV C0 K0 dL_sums_15 (cc_heldTax l D Y A sg al [] i (by omega)) gkL_27 hyX5_heldTax (c_recv (sg := sg) (al := al) K0 0 0 rfl rfl rfl) rfl (by exact Nat.le_of_ble_eq_true rfl) ⟨Nat.le_trans (show _ ≤ 5 from (Nat.le_of_ble_eq_true rfl)) hRf.1, Nat.le_trans (show _ ≤ 108 from (Nat.le_of_ble_eq_true rfl)) hRf.2⟩ ⟨hk.1, hk.2⟩ (fun E => kX_no E) (fun _ => k_wid (k2 := k) (n2 := n) (Nat.le_refl _) (Nat.le_refl _) ?_)
    refine k_iadd C0 dL_sums_18 ?_
    refine k_istore_n C0 [(2, _), (3, _), (0, _), (1, _)] dL_sums_19 (by decide) rfl ?_
    refine k_iinc C0 (nI (i + 1)) [(3, _), (2, _), (0, _), (1, _)] dL_sums_20 1 rfl (nI_1 i) (by decide) rfl ?_
    refine k_goto C0 7 dL_sums_23 (by decide) ?_
    exact ih (i + 1) (by omega)
set_option maxRecDepth 100000 in
set_option maxHeartbeats 4000000 in
theorem lp_mon {p : Program} {l : Launch} {e : Env} {R : Room} {s_ : State} {m_ : MethodId} {args_ : Array Value} {below_ : List Frame} {meth_ : Method} {c_ : Code} {Q : State → Prop} {D : va_G} {Y : Nat → Nat} {A : Nat → Prop} {k n : Nat} {sg : Sg} {al : Nat → Nat → Nat} (C0 : CallFix p m_ c_ cL_sums 5 s_ args_ TT RL) (K0 : PK D Y A s_) (hRf : 5 ≤ R.frames ∧ 108 ≤ R.locals) (hk : k ≤ R.cells ∧ n ≤ R.slots) (hw : lw sg 0) (i : Nat) (hi : i < sN sg 2) (dd : Nat) (hd : sg.1 0 0 5 = nI dd) (hdd : dd ≤ 3600) (a : Int32) (exit : kG p l e R s_ m_ args_ below_ meth_ c_ Q A 5 (WX D Y A sg al []) k n 72 [(4, .int (nI (dd / 30))), (2, .int (zf a (sg.1 6 i) (dd / 30))), (3, .int (nI i)), (0, .ref (al 0 0)), (1, .int (nI (sN sg 2)))] []) : ∀ (r m : Nat), m + r = dd / 30 → kG p l e R s_ m_ args_ below_ meth_ c_ Q A 5 (WX D Y A sg al []) k n 44 [(4, .int (nI m)), (2, .int (zf a (sg.1 6 i) m)), (3, .int (nI i)), (0, .ref (al 0 0)), (1, .int (nI (sN sg 2)))] [] := by
  intro r
  induction r with
  | zero =>
    intro m hb
    have hb : m = dd / 30 := hb
    subst hb
    have h30 : sg.1 0 0 5 / 30 = nI (dd / 30) := r_div (c := 30) hd (by omega) (by decide) (by decide)
    refine k_iload C0 dL_sums_44 0 rfl ?_
    refine k_aload_n C0 dL_sums_46 3 rfl ?_
    refine k_callV C0 K0 dL_sums_47 (cc_day l D Y A sg al []) gkL_33 hyX5_day (c_recv (sg := sg) (al := al) K0 0 0 rfl rfl rfl) rfl (by exact Nat.le_of_ble_eq_true rfl) ⟨Nat.le_trans (show _ ≤ 5 from (Nat.le_of_ble_eq_true rfl)) hRf.1, Nat.le_trans (show _ ≤ 108 from (Nat.le_of_ble_eq_true rfl)) hRf.2⟩ ⟨hk.1, hk.2⟩ (fun E => kX_no E) (fun _ => k_wid (k2 := k) (n2 := n) (Nat.le_refl _) (Nat.le_refl _) ?_)
    refine k_bipush C0 30 dL_sums_50 (by decide) ?_
    refine k_idiv C0 dL_sums_52 (by decide) ?_
    refine k_icmp_ge C0 72 dL_sums_53 (by decide) (fun _ => ?_) (fun zz => absurd (by rw [h30]; exact nI_le (Nat.le_refl _) (by omega)) zz)
    exact exit
  | succ r ih =>
    intro m hb
    have h30 : sg.1 0 0 5 / 30 = nI (dd / 30) := r_div (c := 30) hd (by omega) (by decide) (by decide)
    have h2 : nI m ≤ sg.1 0 0 5 / 30 - 1 := by
      rw [h30, show dd / 30 = (m + r) + 1 by omega, nI_pred]
      exact nI_le (by omega) (by omega)
    refine k_iload C0 dL_sums_44 0 rfl ?_
    refine k_aload_n C0 dL_sums_46 3 rfl ?_
    refine k_callV C0 K0 dL_sums_47 (cc_day l D Y A sg al []) gkL_33 hyX5_day (c_recv (sg := sg) (al := al) K0 0 0 rfl rfl rfl) rfl (by exact Nat.le_of_ble_eq_true rfl) ⟨Nat.le_trans (show _ ≤ 5 from (Nat.le_of_ble_eq_true rfl)) hRf.1, Nat.le_trans (show _ ≤ 108 from (Nat.le_of_ble_eq_true rfl)) hRf.2⟩ ⟨hk.1, hk.2⟩ (fun E => kX_no E) (fun _ => k_wid (k2 := k) (n2 := n) (Nat.le_refl _) (Nat.le_refl _) ?_)
    refine k_bipush C0 30 dL_sums_50 (by decide) ?_
    refine k_idiv C0 dL_sums_52 (by decide) ?_
    refine k_icmp_ge C0 72 dL_sums_53 (by decide) (fun zz => absurd zz (by rw [h30]; exact nI_ge (by omega) (by omega))) (fun _ => ?_)
    refine k_iload_n C0 dL_sums_56 1 rfl ?_
    refine k_aload_n C0 dL_sums_57 3 rfl ?_
    refine k_iload_n C0 dL_sums_58 2 rfl ?_
    refine k_iload C0 dL_sums_59 0 rfl ?_
    refine k_callV C0 K0 dL_sums_61 (cc_payout l D Y A sg al [] hw i m hi (by omega) h2) gkL_36 hyX5_payout (c_recv (sg := sg) (al := al) K0 0 0 rfl rfl rfl) rfl (by exact Nat.le_of_ble_eq_true rfl) ⟨Nat.le_trans (show _ ≤ 5 from (Nat.le_of_ble_eq_true rfl)) hRf.1, Nat.le_trans (show _ ≤ 108 from (Nat.le_of_ble_eq_true rfl)) hRf.2⟩ ⟨hk.1, hk.2⟩ (fun E => kX_no E) (fun _ => k_wid (k2 := k) (n2 := n) (Nat.le_refl _) (Nat.le_refl _) ?_)
    rw [show (nI m).toNatClampNeg = m from nI_clamp (by omega)]
    refine k_iadd C0 dL_sums_64 ?_
    refine k_istore_n C0 [(2, _), (4, _), (3, _), (0, _), (1, _)] dL_sums_65 (by decide) rfl ?_
    refine k_iinc C0 (nI (m + 1)) [(4, _), (2, _), (3, _), (0, _), (1, _)] dL_sums_66 1 rfl (nI_1 m) (by decide) rfl ?_
    refine k_goto C0 44 dL_sums_69 (by decide) ?_
    exact ih (m + 1) (by omega)
set_option maxRecDepth 100000 in
set_option maxHeartbeats 4000000 in
theorem lp_mak {p : Program} {l : Launch} {e : Env} {R : Room} {s_ : State} {m_ : MethodId} {args_ : Array Value} {below_ : List Frame} {meth_ : Method} {c_ : Code} {Q : State → Prop} {D : va_G} {Y : Nat → Nat} {A : Nat → Prop} {k n : Nat} {sg : Sg} {al : Nat → Nat → Nat} (C0 : CallFix p m_ c_ cL_sums 5 s_ args_ TT RL) (K0 : PK D Y A s_) (hRf : 5 ≤ R.frames ∧ 108 ≤ R.locals) (hk : k ≤ R.cells ∧ n ≤ R.slots) (hw : lw sg 0) (dd : Nat) (hd : sg.1 0 0 5 = nI dd) (hdd : dd ≤ 3600) (h6 : sN sg 2 ≤ 6) (a : Int32) (exit : kG p l e R s_ m_ args_ below_ meth_ c_ Q A 5 (WX D Y A sg al []) k n 78 [(3, .int (nI (sN sg 2))), (2, .int (za sg (dd / 30) a (sN sg 2))), (0, .ref (al 0 0)), (1, .int (nI (sN sg 2)))] []) : ∀ (r i : Nat), i + r = sN sg 2 → kG p l e R s_ m_ args_ below_ meth_ c_ Q A 5 (WX D Y A sg al []) k n 28 [(3, .int (nI i)), (2, .int (za sg (dd / 30) a i)), (0, .ref (al 0 0)), (1, .int (nI (sN sg 2)))] [] := by
  intro r
  induction r with
  | zero =>
    intro i hb
    have hb : i = sN sg 2 := hb
    subst hb
    refine k_iload_n C0 dL_sums_28 0 rfl ?_
    refine k_iload_n C0 dL_sums_29 3 rfl ?_
    refine k_icmp_ge C0 78 dL_sums_30 (by decide) (fun _ => ?_) (fun zz => absurd (nI_le (Nat.le_refl _) (by omega)) zz)
    exact exit
  | succ r ih =>
    intro i hb
    refine k_iload_n C0 dL_sums_28 0 rfl ?_
    refine k_iload_n C0 dL_sums_29 3 rfl ?_
    refine k_icmp_ge C0 78 dL_sums_30 (by decide) (fun zz => absurd zz (nI_ge (by omega) (by omega))) (fun _ => ?_)
    refine k_iload_n C0 dL_sums_33 1 rfl ?_
    refine k_aload_n C0 dL_sums_34 2 rfl ?_
    refine k_iload_n C0 dL_sums_35 0 rfl ?_
    refine k_callV C0 K0 dL_sums_36 (cc_balance l D Y A sg al [] hw i (by omega)) gkL_30 hyX5_balance (c_recv (sg := sg) (al := al) K0 0 0 rfl rfl rfl) rfl (by exact Nat.le_of_ble_eq_true rfl) ⟨Nat.le_trans (show _ ≤ 5 from (Nat.le_of_ble_eq_true rfl)) hRf.1, Nat.le_trans (show _ ≤ 108 from (Nat.le_of_ble_eq_true rfl)) hRf.2⟩ ⟨hk.1, hk.2⟩ (fun E => kX_no E) (fun _ => k_wid (k2 := k) (n2 := n) (Nat.le_refl _) (Nat.le_refl _) ?_)
    refine k_iadd C0 dL_sums_39 ?_
    refine k_istore_n C0 [(2, _), (3, _), (0, _), (1, _)] dL_sums_40 (by decide) rfl ?_
    refine k_iconst C0 0 dL_sums_41 (by decide) ?_
    refine k_istore C0 [(4, _), (2, _), (3, _), (0, _), (1, _)] dL_sums_42 (by decide) rfl ?_
    refine lp_mon C0 K0 hRf hk hw i (by omega) dd hd hdd (za sg (dd / 30) a i + (sg.1 2 i 2 + sg.1 2 i 3)) ?_ (dd / 30) 0 (Nat.zero_add _)
    refine k_iinc C0 (nI (i + 1)) [(3, _), (4, _), (2, _), (0, _), (1, _)] dL_sums_72 2 rfl (nI_1 i) (by decide) rfl ?_
    refine k_goto C0 28 dL_sums_75 (by decide) ?_
    refine k_lv [0, 2, 3, 4] rfl ?_
    exact ih (i + 1) (by omega)
set_option maxRecDepth 100000 in
set_option maxHeartbeats 4000000 in
theorem ct_sums (l : Launch) (D : va_G) (Y : Nat → Nat) (A : Nat → Prop) (sg : Sg) (al : Nat → Nat → Nat) (hw : lw sg 0) (h6 : sN sg 2 ≤ 6) (dd : Nat) (hd : sg.1 0 0 5 = nI dd) (hdd : dd ≤ 3600) (hs : SM sg (dd / 30)) : CT l yL_sums (Cond.code yL_sums cL_sums 5 (some .boolean)) 5 108 D Y A [.ref (al 0 0), .int (nI (sN sg 2))] (WX D Y A sg al []) (fun _ : Unit => some (.int 1)) (fun _ : Unit => WX D Y A sg al []) noX 0 0 := by
  refine CT.of (by decide) (Nat.le_of_ble_eq_true rfl) ?_
  intro p_ e_ s_ m_ below_ meth_ c_ C0 K0 hr hlk htab hnm_
  refine k_aload_n C0 dL_sums_0 0 rfl ?_
  refine k_callV C0 K0 dL_sums_1 (cc_shop l D Y A sg al []) gkL_23 hyX5_shop (c_recv (sg := sg) (al := al) K0 0 0 rfl rfl rfl) rfl (by exact Nat.le_of_ble_eq_true rfl) ⟨Nat.le_of_ble_eq_true rfl, Nat.le_of_ble_eq_true rfl⟩ ⟨Nat.le_of_ble_eq_true rfl, Nat.le_of_ble_eq_true rfl⟩ (fun E => kX_no E) (fun _ => ?_)
  refine k_istore_n C0 [(2, _), (0, _), (1, _)] dL_sums_4 (by decide) rfl ?_
  refine k_iconst C0 0 dL_sums_5 (by decide) ?_
  refine k_istore_n C0 [(3, _), (2, _), (0, _), (1, _)] dL_sums_6 (by decide) rfl ?_
  refine lp_land C0 K0 ⟨(Nat.le_of_ble_eq_true rfl), (Nat.le_of_ble_eq_true rfl)⟩ ⟨(Nat.le_of_ble_eq_true rfl), (Nat.le_of_ble_eq_true rfl)⟩ ?_ 5 0 rfl
  refine k_iconst C0 0 dL_sums_26 (by decide) ?_
  refine k_istore_n C0 [(3, _), (2, _), (0, _), (1, _)] dL_sums_27 (by decide) rfl ?_
  refine lp_mak C0 K0 ⟨(Nat.le_of_ble_eq_true rfl), (Nat.le_of_ble_eq_true rfl)⟩ ⟨(Nat.le_of_ble_eq_true rfl), (Nat.le_of_ble_eq_true rfl)⟩ hw dd hd hdd h6 (zf (sg.1 0 0 6) (fun j => sg.1 1 j 3) 5) ?_ (sN sg 2) 0 (Nat.zero_add _)
  refine k_iload_n C0 dL_sums_78 1 rfl ?_
  refine k_aload_n C0 dL_sums_79 2 rfl ?_
  refine k_callV C0 K0 dL_sums_80 (cc_takings l D Y A sg al []) gkL_40 hyX5_takings (c_recv (sg := sg) (al := al) K0 0 0 rfl rfl rfl) rfl (by exact Nat.le_of_ble_eq_true rfl) ⟨Nat.le_of_ble_eq_true rfl, Nat.le_of_ble_eq_true rfl⟩ ⟨Nat.le_of_ble_eq_true rfl, Nat.le_of_ble_eq_true rfl⟩ (fun E => kX_no E) (fun _ => ?_)
  refine k_icmp_ne C0 90 dL_sums_83 (by decide) (fun zz => absurd (sums_eq hs) zz) (fun _ => ?_)
  refine k_iconst C0 1 dL_sums_86 (by decide) ?_
  refine k_goto C0 91 dL_sums_87 (by decide) ?_
  exact k_zret C0 dL_sums_91 hr rfl hlk (Nat.le_of_ble_eq_true rfl) (Nat.le_of_ble_eq_true rfl) () rfl (fun H h => h)
