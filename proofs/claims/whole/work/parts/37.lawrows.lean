/-! the law's rows -/
def bz (x : Int32) : Int32 := if x = 0 then 0 else 1
theorem bz_cs (x : Int32) : bz x = 0 ∨ bz x = 1 := by
  unfold bz
  by_cases h : x = 0
  · exact Or.inl (if_pos h)
  · exact Or.inr (if_neg h)
theorem lg_self (x : Int64) : lg_cmp x x = 0 := (lg_cmp_eq x x).mpr rfl
noncomputable def kkC (c : Nat) (sg : Sg) : Nat := 40 + 20 * c + phC sg
noncomputable def kkS (c : Nat) (sg : Sg) : Nat := 6640 + 200 * c + phS sg
theorem kk_room {c : Nat} {sg : Sg} {mu : Rm} (R : RI c sg mu) (hc : c < 600) : kkC c sg ≤ 601024 ∧ kkS c sg ≤ 7293034 := by
  have h4 := R.lt hc
  have b0 := (R.lw 0 (by decide)).2.2.2.2
  have b1 := (R.lw 1 (by decide)).2.2.2.2
  have b2 := (R.lw 2 (by decide)).2.2.2.2
  have b3 := (R.lw 3 (by decide)).2.2.2.2
  unfold kkC kkS
  rw [phC_at, phS_at]
  generalize sC sg 0 = x0 at *
  generalize sC sg 1 = x1 at *
  generalize sC sg 2 = x2 at *
  generalize sC sg 3 = x3 at *
  generalize sN sg 4 = x4 at *
  omega
theorem kk_up {c mc ms : Nat} {sg sg' : Sg} {mu' : Rm} (h : phC sg + mc ≤ phC sg' + 20 ∧ phS sg + ms ≤ phS sg' + 200) (R : RI (c + 1) sg' mu') (hc : c < 590) : (kkC c sg + mc ≤ kkC (c + 1) sg' ∧ kkS c sg + ms ≤ kkS (c + 1) sg') ∧ (kkC c sg + mc ≤ 601024 ∧ kkS c sg + ms ≤ 7293034) ∧ (kkC (c + 1) sg' ≤ 601024 ∧ kkS (c + 1) sg' ≤ 7293034) := by
  have hr := kk_room R (by omega)
  unfold kkC kkS at hr ⊢
  generalize phC sg = x0 at *
  generalize phC sg' = x1 at *
  generalize phS sg = x2 at *
  generalize phS sg' = x3 at *
  omega
theorem gkL_94 : GoodIn TT (wsV RL 94 yX6_thrown.cls yX6_thrown (Cond.code yX6_thrown cX6_thrown 1 (some .int) :: TT)) := goodTV (tD 56 rfl rfl) (tD 57 rfl rfl) (tD 58 rfl rfl) (tA 6 rfl rfl) (tD 59 rfl rfl)
theorem hyX6_thrown : yX6_thrown.cls ≠ "java/lang/invoke/MethodHandle" ∧ yX6_thrown.cls ≠ "java/lang/invoke/VarHandle" ∧ (parseMethodDescriptor yX6_thrown.desc).map (fun d => d.parameters.length) = some 0 := by decide +kernel
section KL
variable {p : Program} {l : Launch} {e : Env} {R : Room} {s : State} {m : MethodId} {args : Array Value} {below : List Frame} {meth : Method} {c : Code} {Q : State → Prop}
variable {A : Nat → Prop} {V : Heap → Prop} {k n nL pc : Nat} {lv : List (Nat × Value)} {st rest : List Value} {cc : ByteArray} {own : String} {D : va_G} {Y : Nat → Nat}
variable {b L q : Nat} {xs : Nat → Int32}
/-- the script -/
def SX (s : State) (A : Nat → Prop) (b L : Nat) (xs : Nat → Int32) : Prop := va_X b L xs s s.heap ∧ b < s.heap.size ∧ ¬ A b ∧ L ≤ 2560
theorem k_sld (C0 : CallFix p m c cc nL s args TT own) (X0 : SX s A b L xs) {i : Int32} (hin : vp_in i L) (d : decode cc pc = .ok (.iaload, 1)) (g : kG p l e R s m args below meth c Q A nL V k n (pc + 1) lv (.int (xs i.toNatClampNeg) :: st)) : kG p l e R s m args below meth c Q A nL V k n pc lv (.int i :: .ref b :: st) := fun H locs ls hV hS hl =>
  va_sld C0.1 C0.2.1 X0.1 X0.2.1 X0.2.2.1 hS hin d (g H locs ls hV hS hl)
theorem k_slen (C0 : CallFix p m c cc nL s args TT own) (X0 : SX s A b L xs) (d : decode cc pc = .ok (.arraylength, 1)) (g : kG p l e R s m args below meth c Q A nL V k n (pc + 1) lv (.int (nI L) :: st)) : kG p l e R s m args below meth c Q A nL V k n pc lv (.ref b :: st) := fun H locs ls hV hS hl =>
  va_slen C0.1 C0.2.1 X0.1 X0.2.1 X0.2.2.1 hS d (g H locs ls hV hS hl)
/-- script[i + j] -/
theorem k_arg (C0 : CallFix p m c cc nL s args TT own) (X0 : SX s A b L xs) {jz : Int} (j i0 i4 : Nat) (d0 : decode cc pc = .ok (.aload_n 0, 1)) (d1 : decode cc (pc + 1) = .ok (.iload 4, 2)) (d2 : decode cc (pc + 3) = .ok (.iconst jz, 1)) (d3 : decode cc (pc + 4) = .ok (.iadd, 1)) (d4 : decode cc (pc + 5) = .ok (.iaload, 1)) (hj : Int32.ofInt jz = nI j) (h0 : lv[i0]? = some (0, .ref b)) (h4 : lv[i4]? = some (4, .int (nI q))) (hq : q + j < L)
    (g : kG p l e R s m args below meth c Q A nL V k n (pc + 6) lv (.int (xs (q + j)) :: st)) : kG p l e R s m args below meth c Q A nL V k n pc lv st := by
  have hL := X0.2.2.2
  refine k_aload_n C0 d0 i0 h0 ?_
  refine k_iload C0 d1 i4 h4 ?_
  refine k_iconst C0 (nI j) d2 hj ?_
  refine k_iadd C0 d3 ?_
  rw [nI_add]
  refine k_sld C0 X0 (vp_in_nI hq (by omega)) d4 ?_
  rw [nI_clamp (by omega)]
  exact g
/-- x != 0 -/
theorem k_bool (C0 : CallFix p m c cc nL s args TT own) {x : Int32} (d0 : decode cc pc = .ok (.ifCond .eq 7, 3)) (d1 : decode cc (pc + 3) = .ok (.iconst 1, 1)) (d2 : decode cc (pc + 4) = .ok (.goto 4, 3)) (d3 : decode cc (pc + 7) = .ok (.iconst 0, 1)) (g : kG p l e R s m args below meth c Q A nL V k n (pc + 8) lv (.int (bz x) :: st)) : kG p l e R s m args below meth c Q A nL V k n pc lv (.int x :: st) := by
  refine k_if_eq C0 (pc + 7) d0 (by omega) (fun h => ?_) (fun h => ?_)
  · refine k_iconst C0 0 d3 (by decide) ?_
    rw [show bz x = 0 from if_pos h] at g
    exact g
  · refine k_iconst C0 1 d1 (by decide) ?_
    refine k_goto C0 (pc + 8) d2 (by omega) ?_
    rw [show bz x = 1 from if_neg h] at g
    exact g
theorem k_tableIn (C0 : CallFix p m c cc nL s args TT own) {dflt lo hi : Int} {offs : Array Int} {len : Nat} {x : Int32} {off : Int} (tgt : Nat) (d : decode cc pc = .ok (.tableswitch dflt lo hi offs, len)) (h1 : ¬ x.toInt < lo) (h2 : ¬ hi < x.toInt) (ho : offs[(x.toInt - lo).toNat]? = some off) (ht : (pc : Int) + off = (tgt : Int)) (g : kG p l e R s m args below meth c Q A nL V k n tgt lv st) : kG p l e R s m args below meth c Q A nL V k n pc lv (.int x :: st) := fun H locs ls hV hS hl => lv_tableIn C0.1 C0.2.1 d h1 h2 ho ht (g H locs ls hV hS hl)
theorem k_tableOut (C0 : CallFix p m c cc nL s args TT own) {dflt lo hi : Int} {offs : Array Int} {len : Nat} {x : Int32} (tgt : Nat) (d : decode cc pc = .ok (.tableswitch dflt lo hi offs, len)) (h : x.toInt < lo ∨ hi < x.toInt) (ht : (pc : Int) + dflt = (tgt : Int)) (g : kG p l e R s m args below meth c Q A nL V k n tgt lv st) : kG p l e R s m args below meth c Q A nL V k n pc lv (.int x :: st) := fun H locs ls hV hS hl => lv_tableOut C0.1 C0.2.1 d h ht (g H locs ls hV hS hl)
section KT
variable {sg : Sg} {al : Nat → Nat → Nat} {o ao : Nat} {ar : Nat → Nat} {mu : Rm} {k0 r b0 : Int32} {P : Int64 → Prop}
/-- what the reference says that it threw, beside what the class threw -/
theorem k_thrown (C0 : CallFix p m c cc nL s args TT RL) (K0 : PK D Y A s) (T E i2 i5 : Nat) {of : Int} (hfr : 1 ≤ R.frames) (hlo : 20 ≤ R.locals) (hk : k ≤ R.cells) (hn : n ≤ R.slots)
    (d0 : decode cc pc = .ok (.aload_n 2, 1)) (d1 : decode cc (pc + 1) = .ok (.invokevirtual 94, 3)) (d4 : decode cc (pc + 4) = .ok (.iload 5, 2)) (d6 : decode cc (pc + 6) = .ok (.if_icmp .eq of, 3)) (ht : ((pc + 6 : Nat) : Int) + of = (T : Int)) (h2 : lv[i2]? = some (2, .ref o)) (h5 : lv[i5]? = some (5, .int k0)) (h25 : mu.1 25 0 = k0)
    (g : kG p l e R s m args below meth c Q A nL (LWo D Y A sg al o ar mu ao P) k n T lv []) : kG p l e R s m args below meth c Q A nL (LWo D Y A sg al o ar mu ao P) k n pc lv [] := by
  refine k_aload_n C0 d0 i2 h2 ?_
  refine k_callV (as := []) C0 K0 d1 (CT.rf (al := al) (sg := sg) (ao := ao) (P := P) fun B => ct_thrown l D Y B o ar mu) gkL_94 hyX6_thrown (lw_recR K0) rfl (by exact Nat.le_of_ble_eq_true rfl) ⟨hfr, hlo⟩ ⟨hk, hn⟩ (fun E => kX_no E) (fun _ => ?_)
  refine k_iload C0 d4 i5 h5 ?_
  exact k_icmp_eq C0 T d6 ht (fun _ => g) (fun z => absurd h25 z)
/-- and the answers -/
theorem k_tail (C0 : CallFix p m c cc nL s args TT RL) (K0 : PK D Y A s) (E i2 i3 i5 i6 : Nat) {of : Int} (hfr : 1 ≤ R.frames) (hlo : 20 ≤ R.locals) (hk : k ≤ R.cells) (hn : n ≤ R.slots)
    (d0 : decode cc pc = .ok (.aload_n 2, 1)) (d1 : decode cc (pc + 1) = .ok (.invokevirtual 94, 3)) (d4 : decode cc (pc + 4) = .ok (.iload 5, 2)) (d6 : decode cc (pc + 6) = .ok (.if_icmp .eq 5, 3)) (d11 : decode cc (pc + 11) = .ok (.iload 5, 2)) (d13 : decode cc (pc + 13) = .ok (.ifCond .ne 15, 3)) (d16 : decode cc (pc + 16) = .ok (.aload_n 3, 1)) (d17 : decode cc (pc + 17) = .ok (.iconst 0, 1)) (d18 : decode cc (pc + 18) = .ok (.laload, 1)) (d19 : decode cc (pc + 19) = .ok (.iload 6, 2)) (d21 : decode cc (pc + 21) = .ok (.i2l, 1)) (d22 : decode cc (pc + 22) = .ok (.lcmp, 1)) (d23 : decode cc (pc + 23) = .ok (.ifCond .eq 5, 3)) (d28 : decode cc (pc + 28) = .ok (.goto of, 3)) (ht : ((pc + 28 : Nat) : Int) + of = (E : Int))
    (h2 : lv[i2]? = some (2, .ref o)) (h3 : lv[i3]? = some (3, .ref ao)) (h5 : lv[i5]? = some (5, .int k0)) (h6 : lv[i6]? = some (6, .int b0)) (h25 : mu.1 25 0 = k0) (hb : k0 = 0 → b0 = r)
    (g : kG p l e R s m args below meth c Q A nL (LWo D Y A sg al o ar mu ao lT) k n E lv []) : kG p l e R s m args below meth c Q A nL (LWo D Y A sg al o ar mu ao (lP k0 r)) k n pc lv [] := by
  have hg : kG p l e R s m args below meth c Q A nL (LWo D Y A sg al o ar mu ao (lP k0 r)) k n (pc + 28) lv [] := k_goto C0 E d28 ht (k_W (fun H h => h.mono (fun _ _ => trivial)) g)
  refine k_thrown C0 K0 (pc + 11) E i2 i5 hfr hlo hk hn d0 d1 d4 d6 (by omega) h2 h5 h25 ?_
  refine k_iload C0 d11 i5 h5 ?_
  refine k_if_ne C0 (pc + 28) d13 (by omega) (fun _ => hg) (fun hz => ?_)
  refine k_aload_n C0 d16 i3 h3 ?_
  refine k_iconst C0 0 d17 (by decide) ?_
  refine k_laldO C0 K0 d18 (fun v hv => ?_)
  refine k_iload C0 d19 i6 h6 ?_
  refine k_i2l C0 d21 ?_
  refine k_lcmp C0 d22 ?_
  rw [show v = r.toInt64 from hv hz, hb hz, lg_self]
  exact k_if_eq C0 (pc + 28) d23 (by omega) (fun _ => hg) (fun z => absurd rfl z)
end KT
end KL
