/-! the law's start; the claim -/
theorem hyLX5_init : yX5_init.cls ≠ "java/lang/invoke/MethodHandle" ∧ yX5_init.cls ≠ "java/lang/invoke/VarHandle" ∧ (parseMethodDescriptor yX5_init.desc).map (fun d => d.parameters.length) = some 0 := by decide +kernel

set_option maxRecDepth 100000 in
set_option maxHeartbeats 4000000 in
theorem law_start8 {p : Program} {l : Launch} {e : Env} {s : State} {m : MethodId} {below : List Frame} {meth : Method} {c0 : Code} {A : Nat → Prop} {D : va_G} {Y : Nat → Nat} {b : Nat} (C0 : CallFix p m c0 cL_law 16 s #[Value.ref b] TT RL) (K0 : PK D Y A s) (hlt : l.stackTraces = false) (hr : meth.sig.returnType = ret) (hlk : meth.locks = false) (hA : ∀ q, A q → s.heap.size ≤ q) (hY : Y 7 ≤ 260) {al : Nat → Nat → Nat} : kG p l e room_1 s m #[Value.ref b] below meth c0 (lw_Z below #[Value.ref b] s) A 16 (WX D Y A sg0 al []) (kkC 0 sg0) (kkS 0 sg0) 8 [(1, .ref (al 0 0)), (0, .ref (Y 6))] [] := by
  refine k_iconst C0 0 dL_law_8 (by decide) ?_
  refine k_istore_n C0 [(2, _), (1, _), (0, _)] dL_law_9 (by decide) rfl ?_
  refine k_iconst C0 0 dL_law_10 (by decide) ?_
  refine k_istore_n C0 [(3, _), (2, _), (1, _), (0, _)] dL_law_11 (by decide) rfl ?_
  refine k_iconst C0 0 dL_law_12 (by decide) ?_
  refine k_istore C0 [(4, _), (3, _), (2, _), (1, _), (0, _)] dL_law_13 (by decide) rfl ?_
  refine k_aload_n C0 dL_law_15 3 rfl ?_
  refine k_iconst C0 0 dL_law_16 (by decide) ?_
  refine k_callS C0 K0 dL_law_17 (ct_sums l D Y A sg0 al (pi_init.lw 0 (by decide)) (Nat.zero_le 6) 0 rfl (by decide) SM_0) gkL_56 hyL_sums rfl (by exact Nat.le_of_ble_eq_true rfl) ⟨Nat.le_of_ble_eq_true rfl, Nat.le_of_ble_eq_true rfl⟩ (kk_roomP pi_init (by omega)) (fun E => kX_no E) (fun _ => (k_wid (k2 := kkC 0 sg0) (n2 := kkS 0 sg0) (Nat.le_refl _) (Nat.le_refl _) ?_))
  refine k_if_eq C0 41 dL_law_20 (by decide) (fun zz => absurd zz (by decide)) (fun _ => ?_)
  refine k_aload_n C0 dL_law_23 3 rfl ?_
  refine k_callV C0 K0 dL_law_24 (cc_salesN l D Y A sg0 al (pi_init.lw 2 (by decide))) gkL_62 hyX5_sales (c_recv (sg := sg0) (al := al) K0 0 0 rfl rfl rfl) rfl (by exact Nat.le_of_ble_eq_true rfl) ⟨Nat.le_of_ble_eq_true rfl, Nat.le_of_ble_eq_true rfl⟩ (kk_roomP pi_init (by omega)) (fun E => kX_no E) (fun _ => (k_wid (k2 := kkC 0 sg0) (n2 := kkS 0 sg0) (Nat.le_refl _) (Nat.le_refl _) ?_))
  refine k_if_ne C0 41 dL_law_27 (by decide) (fun zz => absurd rfl zz) (fun _ => ?_)
  refine k_aload_n C0 dL_law_30 3 rfl ?_
  refine k_callV C0 K0 dL_law_31 (cc_day l D Y A sg0 al []) gkL_33 hyX5_day (c_recv (sg := sg0) (al := al) K0 0 0 rfl rfl rfl) rfl (by exact Nat.le_of_ble_eq_true rfl) ⟨Nat.le_of_ble_eq_true rfl, Nat.le_of_ble_eq_true rfl⟩ (kk_roomP pi_init (by omega)) (fun E => kX_no E) (fun _ => (k_wid (k2 := kkC 0 sg0) (n2 := kkS 0 sg0) (Nat.le_refl _) (Nat.le_refl _) ?_))
  refine k_if_ne C0 41 dL_law_34 (by decide) (fun zz => absurd rfl zz) (fun _ => ?_)
  refine k_iconst C0 1 dL_law_37 (by decide) ?_
  refine k_goto C0 42 dL_law_38 (by decide) ?_
  refine k_istore C0 [(5, _), (4, _), (3, _), (2, _), (1, _), (0, _)] dL_law_42 (by decide) rfl ?_
  refine k_bipush C0 6 dL_law_44 (by decide) ?_
  refine k_aload_n C0 dL_law_46 5 rfl ?_
  refine k_iconst C0 0 dL_law_47 (by decide) ?_
  refine k_callS C0 K0 dL_law_48 (ct_cell l D Y A (WX D Y A sg0 al []) 0 (by decide) (by omega)) gkL_65 hyL_cell rfl (by exact Nat.le_of_ble_eq_true rfl) ⟨Nat.le_of_ble_eq_true rfl, Nat.le_of_ble_eq_true rfl⟩ (kk_roomP pi_init (by omega)) (fun E => kX_no E) (fun v => (k_wid (k2 := kkC 0 sg0) (n2 := kkS 0 sg0) (Nat.le_refl _) (Nat.le_refl _) ?_))
  refine k_bipush C0 55 dL_law_51 (by decide) ?_
  refine k_callS C0 K0 dL_law_53 (ct_low l D Y A (WX D Y A sg0 al []) v 55 (by decide) (by decide)) gkL_69 hyL_low rfl (by exact Nat.le_of_ble_eq_true rfl) ⟨Nat.le_of_ble_eq_true rfl, Nat.le_of_ble_eq_true rfl⟩ (kk_roomP pi_init (by omega)) (fun E => kX_no E) (fun q => k_ex (B := q < 55) (fun H h => h.1) (fun hq => k_W (V' := WX D Y A sg0 al []) (fun H h => h.2) (k_wid (k2 := kkC 0 sg0) (n2 := kkS 0 sg0) (Nat.le_refl _) (Nat.le_refl _) ?_)))
  refine k_iadd C0 dL_law_56 ?_
  rw [show (6 : Int32) + nI q = nI (6 + q) from nI_add 6 q]
  refine k_istore C0 [(6, _), (5, _), (4, _), (3, _), (2, _), (1, _), (0, _)] dL_law_57 (by decide) rfl ?_
  refine k_iconst C0 0 dL_law_59 (by decide) ?_
  refine k_istore C0 [(7, _), (6, _), (5, _), (4, _), (3, _), (2, _), (1, _), (0, _)] dL_law_60 (by decide) rfl ?_
  refine k_lv [0, 1, 2, 3, 4, 5, 6, 7] rfl ?_
  exact law_loop C0 K0 hlt hr hlk hA hY (tt := 6 + q) (by omega) (6 + q) 0 sg0 al (Nat.zero_add _) pi_init
set_option maxRecDepth 100000 in
set_option maxHeartbeats 4000000 in
theorem law_start {p : Program} {l : Launch} {e : Env} {s : State} {m : MethodId} {below : List Frame} {meth : Method} {c0 : Code} {A : Nat → Prop} {D : va_G} {Y : Nat → Nat} {b : Nat} (C0 : CallFix p m c0 cL_law 16 s #[Value.ref b] TT RL) (K0 : PK D Y A s) (hlt : l.stackTraces = false) (hr : meth.sig.returnType = ret) (hlk : meth.locks = false) (hA : ∀ q, A q → s.heap.size ≤ q) (hY : Y 7 ≤ 260) : kG p l e room_1 s m #[Value.ref b] below meth c0 (lw_Z below #[Value.ref b] s) A 16 (WL D A []) 0 0 0 [(0, .ref (Y 6))] [] := by
  refine w_new (ci := 6) C0 K0 [.null, .null, .null, .null, .null, .int 0, .int 0, .int 0] inX5 rfl tyX5 tyX5_ok (tA 22 rfl rfl) (tA 23 rfl rfl) (tA 1 rfl rfl) (fun j hj => by rcases (show j = 0 ∨ j = 1 ∨ j = 2 ∨ j = 3 ∨ j = 4 ∨ j = 5 ∨ j = 6 ∨ j = 7 by omega) with rfl | rfl | rfl | rfl | rfl | rfl | rfl | rfl <;> rfl) (Nat.le_of_ble_eq_true rfl) (Nat.le_of_ble_eq_true rfl) dL_law_0 (fun q => ?_)
  refine k_dup C0 dL_law_3 rfl ?_
  refine k_callI (as := []) C0 K0 dL_law_4 (cc_init l D Y A q) (tA 26 rfl rfl) (tA 1 rfl rfl) (tA 24 rfl rfl) (tA 25 rfl rfl) rfl hyLX5_init rfl (by exact (Nat.le_of_ble_eq_true rfl)) ⟨(Nat.le_of_ble_eq_true rfl), (Nat.le_of_ble_eq_true rfl)⟩ ⟨(Nat.le_of_ble_eq_true rfl), (Nat.le_of_ble_eq_true rfl)⟩ (fun E => kX_no E) (fun al => ?_)
  refine k_ex (fun H h => h.1) (fun hal => ?_)
  refine k_W (V' := WX D Y A sg0 al []) (fun H h => h.2) ?_
  subst hal
  refine k_astore_n C0 [(1, _), (0, _)] dL_law_7 (by decide) rfl ?_
  refine k_wid (k2 := kkC 0 sg0) (n2 := kkS 0 sg0) (Nat.le_trans (show _ ≤ 40 from (Nat.le_of_ble_eq_true rfl)) (Nat.le_add_right 40 _)) (Nat.le_trans (show _ ≤ 6640 from (Nat.le_of_ble_eq_true rfl)) (Nat.le_add_right 6640 _)) ?_
  exact law_start8 C0 K0 hlt hr hlk hA hY
theorem whole_start {p : Program} {e : Env} {s : State} {m : MethodId} {below : List Frame} {meth : Method} {c : Code} (l : Launch) (hflags : l.flags = flags0) {b L : Nat} {xs : Nat → Int32} (hL : L ≤ 260) (C0 : lw_At p s m meth c b L xs) : W p l e room_1 s m #[Value.ref b] below meth c s.heap [] 0 0 (lw_Z below #[Value.ref b] s) (entryFrame m ([Value.ref b] : List Value).toArray 16) := by
  obtain ⟨hx, hb, hr, hml, hown, hts, hX, hbl, hlocks, hgv⟩ := C0
  have hlt : l.stackTraces = false := by
    unfold Launch.stackTraces
    rw [hflags]
    decide +kernel
  obtain ⟨D, Y, h6, h7, hU, hSK⟩ := law_UK hts hgv hX hbl
  rw [lg_entry_eq]
  have hY : Y 7 ≤ 260 := by rw [h7]; exact hL
  have g := law_start (p := p) (l := l) (e := e) (s := s) (m := m) (below := below) (meth := meth) (c0 := c) (b := b) (A := fun q => s.heap.size ≤ q) (D := D) (Y := Y) ⟨hx, hb, hml, hown, fun w hw => hts w (TT_lw w hw)⟩ ⟨hU, fun q h => h, hSK⟩ hlt hr hlocks (fun q h => h) hY
  rw [h6] at g
  exact g s.heap [] _ ⟨fun k q h => by simp at h, fun i j p q h => by simp at h, fun k q h => by simp at h⟩ va_S.rf (lv_entry ([.ref b]) (Nat.le_of_ble_eq_true rfl))

set_option maxHeartbeats 4000000 in
theorem lw_walk (l : Launch) (hflags : l.flags = flags0) (b : Addr) (xs : List Int32) : MetFree l x (headSpec (Jvm.Cond.code x code maxLocals ret :: tables_1) room_1) (lw_P b xs) (fun _ _ _ _ _ => True) lw_Q := by
  refine MetFree.of_bodyS (code := code) (maxLocals := maxLocals) (ret := ret) (by decide) ?_ ?_
  · intro args s m h hn
    obtain ⟨meth, c, h1, h2, h3, h4, h5, h6, -, -⟩ := Cond.code_spec hn (atoms_spec (ws := Jvm.Cond.code x code maxLocals ret :: tables_1) h _ List.mem_cons_self)
    exact ⟨meth, c, h1, h2, h3, h4, h5, h6⟩
  · intro p e s m args below meth c s₁ B hml0 hP _
    obtain ⟨rfl, hx, hbd, hgv⟩ := hP
    obtain ⟨scr, harrAt, hlist, hof, hsmall⟩ := hx
    obtain ⟨hcb, hkn, -, -⟩ := State.arrayAt?_spec harrAt
    have hown : s.vm.findClass R_law = some m.cls := findClass_of_methodNamed B.named
    have hts0 : ∀ c ∈ (Jvm.Cond.code x code maxLocals ret :: tables_1), c.before #[Value.ref b] s = true := atoms_spec (ws := Jvm.Cond.code x code maxLocals ret :: tables_1) B.pre
    have hts : ∀ w ∈ lw_tbl, w.before #[Value.ref b] s = true := k2_hts_sels lw_privs (fun w hw => hts0 w (List.mem_cons_of_mem _ hw)) lw_privs_ok
    have hml : c.maxLocals = 16 := B.maxLocals_eq (hts0 _ List.mem_cons_self)
    have X₀ : Stand p l e room_1 s m #[Value.ref b] below meth c s₁ [] 0 0 := Stand.of_body B
    have hh0 : s₁.heap = s.heap := by rw [B.state]; rfl
    have hsz : scr.slots.size = xs.length := by rw [← Array.length_toList, hlist, List.length_map]
    have hval : ∀ j : Nat, j < xs.length → scr.slots[j]? = some (.int (xs.getD j 0)) := fun j hj => by
      rw [← Array.getElem?_toList, hlist]
      simp [hj]
    have hbl : b < s.heap.size := (Array.getElem?_eq_some_iff.mp hcb).1
    have hX : va_X b xs.length (fun j => xs.getD j 0) s s.heap := ⟨scr, hcb, hof, hkn, hsz, hval⟩
    have K : W p l e room_1 s m #[Value.ref b] below meth c s₁.heap [] 0 0 (lw_Z below #[Value.ref b] s) (entryFrame m ([Value.ref b] : List Value).toArray 16) := by
      rw [hh0]
      exact whole_start l hflags hbd ⟨B.exec, B.bytes, B.returns, hml, hown, hts, hX, hbl, B.notSynchronized, hgv⟩
    obtain ⟨t, a1, o, b1, b2, b3⟩ := K s₁ rfl X₀
    exact ⟨t, o, a1, b1, b2, b3⟩
theorem lw_pre_spec {args : Array Value} {s : State} (h : (Jvm.Cond.and given_1 narrow_1).before args s = true) (hr : rest_1_c.before args s = true) : ∃ (b : Addr) (xs : List Int32), lw_P b xs args s := by
  have hs := flat_of_before _ h
  have hq := flat_of_before _ hr
  have hc : (Cond.count 1).before args s = true := hs _ (by decide +kernel)
  have harr : (Cond.arrayOf (.arg 0) .int).before args s = true := hs _ (by decide +kernel)
  have hle : (Cond.le (.length (.arg 0)) (.int 260)).before args s = true := hs _ (by decide +kernel)
  have hlen : (Cond.isInt (.length (.arg 0))).before args s = true := hq _ (by decide +kernel)
  have hall : (Cond.all (.arg 0) (.isInt (.elem (.arg 0) (.index 0)))).before args s = true := hq _ (by decide +kernel)
  obtain ⟨b, xs, hb, hx⟩ := State.ints_of_pre rfl harr hlen hall
  have hsm : xs.length < 2 ^ 31 := hx.choose_spec.2.2.2
  have hev : (Term.length (.arg 0)).eval args s none [] s = some (.int xs.length.toInt32) := hx.length_eval hb
  have hv := Cond.le_ints hev (show (Term.int 260).eval args s none [] s = some (.int 260) from rfl)
  have hd : xs.length.toInt32 ≤ 260 := by
    simpa [Cond.before, Cond.holds, hv] using hle
  have hN : xs.length ≤ 260 := (Int32.ofNat_le_ofNat hsm (by decide)).mp (show Int32.ofNat xs.length ≤ Int32.ofNat 260 from hd)
  exact ⟨b, xs, Cond.one_arg hc (show args[0]? = some (.ref b) from hb), hx, hN, h⟩
theorem lw_comes (l : Launch) (hflags : l.flags = flags0) : Comes l x (Jvm.Cond.code x code maxLocals ret :: tables_1) room_1 (fun tb e args s => Calls_1 tb e args s ∧ rest_1 tb e args s ∧ Pre_1 tb e args s)
    (fun _ _ args s o t => lw_Q args s o t) := by
  intro p e ha hc hk s m args below hf hfit hheap happ hpre
  obtain ⟨b, xs, hP⟩ := lw_pre_spec hpre.2.2 hpre.2.1
  obtain ⟨k, o, h1, h2, h3, hQ⟩ := lw_walk l hflags b xs p e ha hc hk s m args below hf ((Spec.applies_iff_loose hf).mp happ).1 hP trivial
  exact ⟨k, o, h1, h2, h3, hQ⟩
theorem lw_frame {s t : State} {o : Outcome} {args : Array Value} (h : Framed s o t [] 684780 7047283) :
    Framed s o t (fieldLocs frame_1_writes args s ++ arrayLocs frame_1_arrays args s ++ staticLocs frame_1_statics s) 684780 7047283 := h
theorem lw_limb (L : Cond) (hL : ∀ (args : Array Value) (s t : State), L.after args s (.returned (some (.int 1))) t = true) :
    ArmFor flags0 classFile x code maxLocals ret World_1 tables_1 room_1 Calls_1 rest_1 Pre_1
      (fun tb e a s o t => postC L tb e a s o t ∧ Framed s o t (fieldLocs frame_1_writes a s ++ arrayLocs frame_1_arrays a s ++ staticLocs frame_1_statics s) 684780 7047283) := by
  intro l hflags _ _ p e ha hc hk s m args below hf hfit hheap happ hpre
  obtain ⟨k, o, h1, h2, h3, rfl, hF⟩ := lw_comes l hflags p e ha hc hk s m args below hf hfit hheap happ hpre
  exact ⟨k, _, h1, h2, h3, hL args s _, lw_frame hF⟩
theorem i_vc : Claimed_1_1 ∧ Claimed_1_2 := ⟨lw_limb limb_1_1 (fun args s t => by simp [limb_1_1, Cond.after, Cond.holds, Cond.value]), lw_limb limb_1_2 (fun args s t => Cond.after_iff.mpr (by
  first | (rw [show limb_1_2 = Cond.eq .result (.int 1) from rfl, Cond.eq_ints (x := 1) (y := 1) rfl rfl]; simp; done) | (simp [limb_1_2, Cond.value, Term.eval]; done)))⟩

