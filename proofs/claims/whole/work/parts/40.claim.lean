/-! the law's start; the claim -/
theorem hyLX5_init : yX5_init.cls ≠ "java/lang/invoke/MethodHandle" ∧ yX5_init.cls ≠ "java/lang/invoke/VarHandle" ∧ (parseMethodDescriptor yX5_init.desc).map (fun d => d.parameters.length) = some 0 := by decide +kernel
theorem hyLX6_init : yX6_init.cls ≠ "java/lang/invoke/MethodHandle" ∧ yX6_init.cls ≠ "java/lang/invoke/VarHandle" ∧ (parseMethodDescriptor yX6_init.desc).map (fun d => d.parameters.length) = some 0 := by decide +kernel
theorem wl_one {D : va_G} {B : Nat → Prop} {q : Nat} {e0 : va_E} {H : Heap} (h : va_at D vwCl (q, e0) H) (hB : B q) : WL D B [(q, e0)] H := by
  refine ⟨at_P h, fun i j x y hx hy _ => ?_, fun k x hx => ?_⟩
  · have hi := (List.getElem?_eq_some_iff.mp hx).1
    have hj := (List.getElem?_eq_some_iff.mp hy).1
    simp at hi hj
    omega
  · match k, hx with
    | 0, hx => cases hx; exact hB
    | k + 1, hx => simp at hx
theorem start_R {D : va_G} {Y : Nat → Nat} {A : Nat → Prop} {sg : Sg} {al : Nat → Nat → Nat} {o : Nat} {ar : Nat → Nat} {mu : Rm} {e0 : va_E} {H H' : Heap} (h : WX D Y A sg al [(o, e0)] H) (hA : ∀ q : Nat, H.size ≤ q → A q) (oq : ∀ q : Nat, q < H.size → ¬ q = o → H'[q]? = H[q]?) (h' : WR D Y (fun q => q = o ∨ H.size ≤ q) o ar mu H') : WX D Y A sg al [] H' ∧ WR D Y A o ar mu H' ∧ ∀ q, ownC sg al q → ¬ ownR o ar q := by
  have hX0 : WX D Y A sg al [] H := ⟨h.1, h.2.1, h.2.2.1, fun j x hx => by simp at hx, fun i j x y hx => by simp at hx⟩
  obtain ⟨g1, g2, g3⟩ := h.2.2.2.1 0 _ rfl
  have ho : ∀ q, ownC sg al q → ¬ q = o := fun q hq z => by
    obtain ⟨k, i, hl, rfl⟩ := hq
    exact g3 k i hl z
  refine ⟨hX0.stay (fun k i hl => oq _ (h.1 k i hl).1.ltH (ho _ ⟨k, i, hl, rfl⟩)), h'.re (fun q hq => ?_), fun q hq hr => ?_⟩
  · rcases (h'.own q hq).2 with rfl | z
    · exact g2
    · exact hA q z
  · rcases (h'.own q hr).2 with z | z
    · exact ho q hq z
    · exact absurd (hX0.own q hq).1 (Nat.not_lt.mpr z)
theorem start_O {D : va_G} {Y : Nat → Nat} {A : Nat → Prop} {sg : Sg} {al : Nat → Nat → Nat} {o : Nat} {ar : Nat → Nat} {mu : Rm} {v : Nat → Int64} {H H' : Heap} (h : WX D Y A sg al [] H ∧ WR D Y A o ar mu H ∧ ∀ q, ownC sg al q → ¬ ownR o ar q) (h1 : va_at D vwCl (H.size, .inl (Y 1, 1, .inr (.inl v))) H') (oq : ∀ q : Nat, q < H.size → H'[q]? = H[q]?) (hA : A H.size) : LWo D Y A sg al o ar mu H.size lT H' := by
  obtain ⟨hx, hr, hd⟩ := h
  exact ⟨(hx.stay (fun k i hl => oq _ (hx.1 k i hl).1.ltH)).self, (hr.stay (fun q hq => oq q (hr.own q hq).1)).re (fun q hq => hq), ⟨v, trivial, h1⟩, ⟨fun q hq => (hx.own q hq).2, fun q hq => (hr.own q hq).2, hA⟩, hd, fun z => absurd (hx.own _ z).1 (Nat.lt_irrefl _), fun z => absurd (hr.own _ z).1 (Nat.lt_irrefl _)⟩
set_option maxRecDepth 100000 in
set_option maxHeartbeats 4000000 in
theorem law_start {p : Program} {l : Launch} {e : Env} {s : State} {m : MethodId} {below : List Frame} {meth : Method} {c0 : Code} {A : Nat → Prop} {D : va_G} {Y : Nat → Nat} {b L : Nat} {xs : Nat → Int32} (C0 : CallFix p m c0 cL_law 7 s #[Value.ref b] TT RL) (K0 : PK D Y A s) (X0 : SX s A b L xs) (hlt : l.stackTraces = false) (hr : meth.sig.returnType = ret) (hlk : meth.locks = false) (hA : ∀ q, A q → s.heap.size ≤ q) (hA2 : ∀ q, s.heap.size ≤ q → A q) : kG p l e room_1 s m #[Value.ref b] below meth c0 (lw_Z below #[Value.ref b] s) A 7 (WL D A []) 0 0 0 [(0, .ref b)] [] := by
  refine w_new (ci := 6) C0 K0 [.null, .null, .null, .null, .null, .int 0, .int 0, .int 0] inX5 rfl tyX5 tyX5_ok (tA 23 rfl rfl) (tA 24 rfl rfl) (tA 1 rfl rfl) (fun j hj => by rcases (show j = 0 ∨ j = 1 ∨ j = 2 ∨ j = 3 ∨ j = 4 ∨ j = 5 ∨ j = 6 ∨ j = 7 by omega) with rfl | rfl | rfl | rfl | rfl | rfl | rfl | rfl <;> rfl) (Nat.le_of_ble_eq_true rfl) (Nat.le_of_ble_eq_true rfl) dL_law_0 (fun q => ?_)
  refine k_dup C0 dL_law_3 rfl ?_
  refine k_callI (as := []) C0 K0 dL_law_4 (cc_init l D Y A q) (tA 27 rfl rfl) (tA 1 rfl rfl) (tA 25 rfl rfl) (tA 26 rfl rfl) rfl hyLX5_init rfl (by exact (Nat.le_of_ble_eq_true rfl)) ⟨(Nat.le_of_ble_eq_true rfl), (Nat.le_of_ble_eq_true rfl)⟩ ⟨(Nat.le_of_ble_eq_true rfl), (Nat.le_of_ble_eq_true rfl)⟩ (fun E => kX_no E) (fun al => ?_)
  refine k_ex (fun H h => h.1) (fun hal => ?_)
  refine k_W (fun H h => h.2) ?_
  refine k_astore_n C0 [(1, _), (0, _)] dL_law_7 (by decide) rfl ?_
  refine x_new (ci := 7) C0 K0 [.int 0, .null, .null, .null, .int 0, .null, .null, .null, .null, .null, .int 0, .null, .null, .int 0, .null, .int 0, .null, .null, .null, .null, .null, .null, .null, .int 0, .int 0, .int 0] inX6 rfl tyX6 tyX6_ok (tC 210 rfl rfl) (tC 211 rfl rfl) (tA 6 rfl rfl) (fun j hj => by rcases (show j = 0 ∨ j = 1 ∨ j = 2 ∨ j = 3 ∨ j = 4 ∨ j = 5 ∨ j = 6 ∨ j = 7 ∨ j = 8 ∨ j = 9 ∨ j = 10 ∨ j = 11 ∨ j = 12 ∨ j = 13 ∨ j = 14 ∨ j = 15 ∨ j = 16 ∨ j = 17 ∨ j = 18 ∨ j = 19 ∨ j = 20 ∨ j = 21 ∨ j = 22 ∨ j = 23 ∨ j = 24 ∨ j = 25 by omega) with rfl | rfl | rfl | rfl | rfl | rfl | rfl | rfl | rfl | rfl | rfl | rfl | rfl | rfl | rfl | rfl | rfl | rfl | rfl | rfl | rfl | rfl | rfl | rfl | rfl | rfl <;> rfl) (Nat.le_of_ble_eq_true rfl) (Nat.le_of_ble_eq_true rfl) dL_law_8 (fun o => ?_)
  refine k_dup C0 dL_law_11 rfl ?_
  refine k_callI (as := []) C0 K0 dL_law_12 (CT.frm (fun x => x = o) (rv := fun _ : Nat → Nat => none) (V := WX D Y A sg0 al [(o, .inr (7, [.int 0, .null, .null, .null, .int 0, .null, .null, .null, .null, .null, .int 0, .null, .null, .int 0, .null, .int 0, .null, .null, .null, .null, .null, .null, .null, .int 0, .int 0, .int 0]))]) (V' := fun ar H => WX D Y A sg0 al [] H ∧ WR D Y A o ar rz H ∧ ∀ q, ownC sg0 al q → ¬ ownR o ar q) (VX := noX) (fun ar => ar) (fun B => ct_init l D Y B o) (fun _ => rfl) (fun H h q hq => hq ▸ (h.2.2.2.1 0 _ rfl).2.1) (fun H h => wl_one (h.2.2.2.1 0 _ rfl).1 (Or.inl rfl)) (fun H H' ar h hA _ oq h' => start_R h hA oq h') (fun H H' E _ _ _ _ h => h)) (tC 214 rfl rfl) (tA 6 rfl rfl) (tC 212 rfl rfl) (tC 213 rfl rfl) rfl hyLX6_init rfl (by exact (Nat.le_of_ble_eq_true rfl)) ⟨(Nat.le_of_ble_eq_true rfl), (Nat.le_of_ble_eq_true rfl)⟩ ⟨(Nat.le_of_ble_eq_true rfl), (Nat.le_of_ble_eq_true rfl)⟩ (fun E => kX_no E) (fun ar => ?_)
  refine k_astore_n C0 [(2, _), (1, _), (0, _)] dL_law_15 (by decide) rfl ?_
  refine k_iconst C0 1 dL_law_16 (by decide) ?_
  refine k_newal (V' := fun ao H => LWo D Y A sg0 al o ar rz ao lT H) C0 K0 1 (tD 55 rfl rfl) (by decide) (by decide) (by decide) (Nat.le_of_ble_eq_true rfl) (Nat.le_of_ble_eq_true rfl) dL_law_17 (fun H H' h _ h1 oq hA => start_O h h1 oq hA) (fun ao => ?_)
  refine k_astore_n C0 [(3, _), (2, _), (1, _), (0, _)] dL_law_19 (by decide) rfl ?_
  refine k_iconst C0 (nI (5 * 0)) dL_law_20 (by decide) ?_
  refine k_istore C0 [(4, _), (3, _), (2, _), (1, _), (0, _)] dL_law_21 (by decide) rfl ?_
  refine k_wid (k2 := kkC 0 sg0) (n2 := kkS 0 sg0) (Nat.le_trans (show _ ≤ 40 from (Nat.le_of_ble_eq_true rfl)) (Nat.le_add_right 40 _)) (Nat.le_trans (show _ ≤ 6640 from (Nat.le_of_ble_eq_true rfl)) (Nat.le_add_right 6640 _)) ?_
  exact law_loop C0 K0 X0 hlt hr hlk hA 512 0 sg0 al rz (by have := X0.2.2.2; omega) (by omega) sim_init hal
theorem whole_start {p : Program} {e : Env} {s : State} {m : MethodId} {below : List Frame} {meth : Method} {c : Code} (l : Launch) (hflags : l.flags = flags0) {b L : Nat} {xs : Nat → Int32} (hL : L ≤ 2560) (C0 : lw_At p s m meth c b L xs) : W p l e room_1 s m #[Value.ref b] below meth c s.heap [] 0 0 (lw_Z below #[Value.ref b] s) (entryFrame m ([Value.ref b] : List Value).toArray 7) := by
  obtain ⟨hx, hb, hr, hml, hown, hts, hX, hbl, hlocks, hgv⟩ := C0
  have hlt : l.stackTraces = false := by
    unfold Launch.stackTraces
    rw [hflags]
    decide +kernel
  obtain ⟨D, Y, hU, hSK⟩ := law_UK hts hgv
  rw [lg_entry_eq]
  exact law_start (A := fun q => s.heap.size ≤ q) (D := D) (Y := Y) (xs := xs) ⟨hx, hb, hml, hown, fun w hw => hts w (TT_lw w hw)⟩ ⟨hU, fun q h => h, hSK⟩ ⟨hX, hbl, Nat.not_le.mpr hbl, hL⟩ hlt hr hlocks (fun q h => h) (fun q h => h) s.heap [] _ ⟨fun k q h => by simp at h, fun i j p q h => by simp at h, fun k q h => by simp at h⟩ va_S.rf (lv_entry ([.ref b]) (Nat.le_of_ble_eq_true rfl))

set_option maxHeartbeats 4000000 in
theorem lw_walk (l : Launch) (hflags : l.flags = flags0) (b : Addr) (xs : List Int32) : MetFree l x (headSpec (Jvm.Cond.code x code maxLocals ret :: tables_1) room_1) (lw_P b xs) (fun _ _ _ _ _ => True) lw_Q := by
  refine MetFree.of_bodyS (code := code) (maxLocals := maxLocals) (ret := ret) (by decide) ?_ ?_
  · intro args s m h hn
    obtain ⟨meth, c, h1, h2, h3, h4, h5, h6, -, -⟩ := Cond.code_spec hn (atoms_spec (ws := Jvm.Cond.code x code maxLocals ret :: tables_1) h _ List.mem_cons_self)
    exact ⟨meth, c, h1, h2, h3, h4, h5, h6⟩
  · intro p e s m args below meth c s₁ B hml0 hP _
    obtain ⟨rfl, hx, hbd, hgv⟩ := hP
    obtain ⟨scr, harrAt, hlist, hof, hsmall⟩ := hx
    obtain ⟨hcb, hkn, -, -⟩ := State.arrayAt?_spec harrAt
    have hown : s.vm.findClass R_law = some m.cls := findClass_of_methodNamed B.named
    have hts0 : ∀ c ∈ (Jvm.Cond.code x code maxLocals ret :: tables_1), c.before #[Value.ref b] s = true := atoms_spec (ws := Jvm.Cond.code x code maxLocals ret :: tables_1) B.pre
    have hts : ∀ w ∈ lw_tbl, w.before #[Value.ref b] s = true := k2_hts_sels lw_privs (fun w hw => hts0 w (List.mem_cons_of_mem _ hw)) lw_privs_ok
    have hml : c.maxLocals = 7 := B.maxLocals_eq (hts0 _ List.mem_cons_self)
    have X₀ : Stand p l e room_1 s m #[Value.ref b] below meth c s₁ [] 0 0 := Stand.of_body B
    have hh0 : s₁.heap = s.heap := by rw [B.state]; rfl
    have hsz : scr.slots.size = xs.length := by rw [← Array.length_toList, hlist, List.length_map]
    have hval : ∀ j : Nat, j < xs.length → scr.slots[j]? = some (.int (xs.getD j 0)) := fun j hj => by
      rw [← Array.getElem?_toList, hlist]
      simp [hj]
    have hbl : b < s.heap.size := (Array.getElem?_eq_some_iff.mp hcb).1
    have hX : va_X b xs.length (fun j => xs.getD j 0) s s.heap := ⟨scr, hcb, hof, hkn, hsz, hval⟩
    have K : W p l e room_1 s m #[Value.ref b] below meth c s₁.heap [] 0 0 (lw_Z below #[Value.ref b] s) (entryFrame m ([Value.ref b] : List Value).toArray 7) := by
      rw [hh0]
      exact whole_start l hflags hbd ⟨B.exec, B.bytes, B.returns, hml, hown, hts, hX, hbl, B.notSynchronized, hgv⟩
    obtain ⟨t, a1, o, b1, b2, b3⟩ := K s₁ rfl X₀
    exact ⟨t, o, a1, b1, b2, b3⟩
theorem lw_pre_spec {args : Array Value} {s : State} (h : (Jvm.Cond.and given_1 narrow_1).before args s = true) (hr : rest_1_c.before args s = true) : ∃ (b : Addr) (xs : List Int32), lw_P b xs args s := by
  have hs := flat_of_before _ h
  have hq := flat_of_before _ hr
  have hc : (Cond.count 1).before args s = true := hs _ (by decide +kernel)
  have harr : (Cond.arrayOf (.arg 0) .int).before args s = true := hs _ (by decide +kernel)
  have hle : (Cond.le (.length (.arg 0)) (.int 2560)).before args s = true := hs _ (by decide +kernel)
  have hlen : (Cond.isInt (.length (.arg 0))).before args s = true := hq _ (by decide +kernel)
  have hall : (Cond.all (.arg 0) (.isInt (.elem (.arg 0) (.index 0)))).before args s = true := hq _ (by decide +kernel)
  obtain ⟨b, xs, hb, hx⟩ := State.ints_of_pre rfl harr hlen hall
  have hsm : xs.length < 2 ^ 31 := hx.choose_spec.2.2.2
  have hev : (Term.length (.arg 0)).eval args s none [] s = some (.int xs.length.toInt32) := hx.length_eval hb
  have hv := Cond.le_ints hev (show (Term.int 2560).eval args s none [] s = some (.int 2560) from rfl)
  have hd : xs.length.toInt32 ≤ 2560 := by
    simpa [Cond.before, Cond.holds, hv] using hle
  have hN : xs.length ≤ 2560 := (Int32.ofNat_le_ofNat hsm (by decide)).mp (show Int32.ofNat xs.length ≤ Int32.ofNat 2560 from hd)
  exact ⟨b, xs, Cond.one_arg hc (show args[0]? = some (.ref b) from hb), hx, hN, h⟩
theorem lw_comes (l : Launch) (hflags : l.flags = flags0) : Comes l x (Jvm.Cond.code x code maxLocals ret :: tables_1) room_1 (fun tb e args s => Calls_1 tb e args s ∧ rest_1 tb e args s ∧ Pre_1 tb e args s)
    (fun _ _ args s o t => lw_Q args s o t) := by
  intro p e ha hc hk s m args below hf hfit hheap happ hpre
  obtain ⟨b, xs, hP⟩ := lw_pre_spec hpre.2.2 hpre.2.1
  obtain ⟨k, o, h1, h2, h3, hQ⟩ := lw_walk l hflags b xs p e ha hc hk s m args below hf ((Spec.applies_iff_loose hf).mp happ).1 hP trivial
  exact ⟨k, o, h1, h2, h3, hQ⟩
theorem lw_frame {s t : State} {o : Outcome} {args : Array Value} (h : Framed s o t [] 601024 7293034) :
    Framed s o t (fieldLocs frame_1_writes args s ++ arrayLocs frame_1_arrays args s ++ staticLocs frame_1_statics s) 601024 7293034 := h
theorem lw_limb (L : Cond) (hL : ∀ (args : Array Value) (s t : State), L.after args s (.returned (some (.int 1))) t = true) :
    ArmFor flags0 classFile x code maxLocals ret World_1 tables_1 room_1 Calls_1 rest_1 Pre_1
      (fun tb e a s o t => postC L tb e a s o t ∧ Framed s o t (fieldLocs frame_1_writes a s ++ arrayLocs frame_1_arrays a s ++ staticLocs frame_1_statics s) 601024 7293034) := by
  intro l hflags _ _ p e ha hc hk s m args below hf hfit hheap happ hpre
  obtain ⟨k, o, h1, h2, h3, rfl, hF⟩ := lw_comes l hflags p e ha hc hk s m args below hf hfit hheap happ hpre
  exact ⟨k, _, h1, h2, h3, hL args s _, lw_frame hF⟩
theorem i_vc : Claimed_1_1 ∧ Claimed_1_2 := ⟨lw_limb limb_1_1 (fun args s t => by simp [limb_1_1, Cond.after, Cond.holds, Cond.value]), lw_limb limb_1_2 (fun args s t => Cond.after_iff.mpr (by
  first | (rw [show limb_1_2 = Cond.eq .result (.int 1) from rfl, Cond.eq_ints (x := 1) (y := 1) rfl rfl]; simp; done) | (simp [limb_1_2, Cond.value, Term.eval]; done)))⟩

