section
-- ===== PART A: goes FIRST, ahead of the names: the tables' words, and 'selects' of the private methods out of them =====
/-- a private method of a class that the tables say can be made, by its rows of tables_1 -/
def lw_okq (q : MethodName × Nat) : Prop := (q.1.cls ≠ "java/lang/invoke/MethodHandle" ∧ q.1.cls ≠ "java/lang/invoke/VarHandle") ∧ Cond.instantiable q.1.cls q.2 ∈ tables_1 ∧ Cond.privateMethod q.1 ∈ tables_1 ∧ Cond.instanceMethod q.1 ∈ tables_1
theorem lw_p0 : lw_okq (⟨"ShopPaymaster", "landAt", "(I)LShopPaymaster$Land;"⟩, 8) := ⟨⟨by decide +kernel, by decide +kernel⟩, List.mem_of_getElem? (i := 24) (by decide +kernel), List.mem_of_getElem? (i := 136) (by decide +kernel), List.mem_of_getElem? (i := 137) (by decide +kernel)⟩
theorem lw_p1 : lw_okq (⟨"java/lang/Throwable", "fillInStackTrace", "(I)Ljava/lang/Throwable;"⟩, 6) := ⟨⟨by decide +kernel, by decide +kernel⟩, List.mem_of_getElem? (i := 178) (by decide +kernel), List.mem_of_getElem? (i := 176) (by decide +kernel), List.mem_of_getElem? (i := 177) (by decide +kernel)⟩
theorem lw_p2 : lw_okq (⟨"java/util/ArrayList", "add", "(Ljava/lang/Object;[Ljava/lang/Object;I)V"⟩, 3) := ⟨⟨by decide +kernel, by decide +kernel⟩, List.mem_of_getElem? (i := 34) (by decide +kernel), List.mem_of_getElem? (i := 270) (by decide +kernel), List.mem_of_getElem? (i := 271) (by decide +kernel)⟩
theorem lw_p3 : lw_okq (⟨"java/util/ArrayList", "grow", "()[Ljava/lang/Object;"⟩, 3) := ⟨⟨by decide +kernel, by decide +kernel⟩, List.mem_of_getElem? (i := 34) (by decide +kernel), List.mem_of_getElem? (i := 274) (by decide +kernel), List.mem_of_getElem? (i := 275) (by decide +kernel)⟩
theorem lw_p4 : lw_okq (⟨"java/util/ArrayList", "grow", "(I)[Ljava/lang/Object;"⟩, 3) := ⟨⟨by decide +kernel, by decide +kernel⟩, List.mem_of_getElem? (i := 34) (by decide +kernel), List.mem_of_getElem? (i := 278) (by decide +kernel), List.mem_of_getElem? (i := 279) (by decide +kernel)⟩
theorem lw_p5 : lw_okq (⟨"ShopPaymaster", "makerAt", "(I)LShopPaymaster$Maker;"⟩, 8) := ⟨⟨by decide +kernel, by decide +kernel⟩, List.mem_of_getElem? (i := 24) (by decide +kernel), List.mem_of_getElem? (i := 332) (by decide +kernel), List.mem_of_getElem? (i := 333) (by decide +kernel)⟩
theorem lw_p6 : lw_okq (⟨"ShopPaymaster", "productAt", "(I)LShopPaymaster$Product;"⟩, 8) := ⟨⟨by decide +kernel, by decide +kernel⟩, List.mem_of_getElem? (i := 24) (by decide +kernel), List.mem_of_getElem? (i := 392) (by decide +kernel), List.mem_of_getElem? (i := 393) (by decide +kernel)⟩
theorem lw_p7 : lw_okq (⟨"ShopPaymaster", "sell", "(LShopPaymaster$Product;LShopPaymaster$Land;IZ)I"⟩, 8) := ⟨⟨by decide +kernel, by decide +kernel⟩, List.mem_of_getElem? (i := 24) (by decide +kernel), List.mem_of_getElem? (i := 413) (by decide +kernel), List.mem_of_getElem? (i := 414) (by decide +kernel)⟩
theorem lw_p8 : lw_okq (⟨"ShopPaymaster", "currentMonth", "()I"⟩, 8) := ⟨⟨by decide +kernel, by decide +kernel⟩, List.mem_of_getElem? (i := 24) (by decide +kernel), List.mem_of_getElem? (i := 419) (by decide +kernel), List.mem_of_getElem? (i := 420) (by decide +kernel)⟩
theorem lw_p9 : lw_okq (⟨"ShopPaymaster", "book", "(LShopPaymaster$Sale;I)V"⟩, 8) := ⟨⟨by decide +kernel, by decide +kernel⟩, List.mem_of_getElem? (i := 24) (by decide +kernel), List.mem_of_getElem? (i := 468) (by decide +kernel), List.mem_of_getElem? (i := 469) (by decide +kernel)⟩
theorem lw_p10 : lw_okq (⟨"ShopPaymaster", "saleAt", "(I)LShopPaymaster$Sale;"⟩, 8) := ⟨⟨by decide +kernel, by decide +kernel⟩, List.mem_of_getElem? (i := 24) (by decide +kernel), List.mem_of_getElem? (i := 479) (by decide +kernel), List.mem_of_getElem? (i := 480) (by decide +kernel)⟩
theorem lw_p11 : lw_okq (⟨"ShopPaymaster", "subscriptionAt", "(I)LShopPaymaster$Subscription;"⟩, 8) := ⟨⟨by decide +kernel, by decide +kernel⟩, List.mem_of_getElem? (i := 24) (by decide +kernel), List.mem_of_getElem? (i := 561) (by decide +kernel), List.mem_of_getElem? (i := 562) (by decide +kernel)⟩
theorem lw_p12 : lw_okq (⟨"ShopPaymaster", "beginNextDay", "()I"⟩, 8) := ⟨⟨by decide +kernel, by decide +kernel⟩, List.mem_of_getElem? (i := 24) (by decide +kernel), List.mem_of_getElem? (i := 652) (by decide +kernel), List.mem_of_getElem? (i := 653) (by decide +kernel)⟩
theorem lw_p13 : lw_okq (⟨"ShopPaymaster", "closeMonth", "(I)V"⟩, 8) := ⟨⟨by decide +kernel, by decide +kernel⟩, List.mem_of_getElem? (i := 24) (by decide +kernel), List.mem_of_getElem? (i := 656) (by decide +kernel), List.mem_of_getElem? (i := 657) (by decide +kernel)⟩
theorem lw_p14 : lw_okq (⟨"ShopPaymaster", "beginYear", "()V"⟩, 8) := ⟨⟨by decide +kernel, by decide +kernel⟩, List.mem_of_getElem? (i := 24) (by decide +kernel), List.mem_of_getElem? (i := 665) (by decide +kernel), List.mem_of_getElem? (i := 666) (by decide +kernel)⟩
theorem lw_p15 : lw_okq (⟨"ShopPaymaster", "collectPayments", "()I"⟩, 8) := ⟨⟨by decide +kernel, by decide +kernel⟩, List.mem_of_getElem? (i := 24) (by decide +kernel), List.mem_of_getElem? (i := 669) (by decide +kernel), List.mem_of_getElem? (i := 670) (by decide +kernel)⟩
def lw_privs_1 : List (MethodName × Nat) := [(⟨"ShopPaymaster", "landAt", "(I)LShopPaymaster$Land;"⟩, 8), (⟨"java/lang/Throwable", "fillInStackTrace", "(I)Ljava/lang/Throwable;"⟩, 6), (⟨"java/util/ArrayList", "add", "(Ljava/lang/Object;[Ljava/lang/Object;I)V"⟩, 3), (⟨"java/util/ArrayList", "grow", "()[Ljava/lang/Object;"⟩, 3), (⟨"java/util/ArrayList", "grow", "(I)[Ljava/lang/Object;"⟩, 3), (⟨"ShopPaymaster", "makerAt", "(I)LShopPaymaster$Maker;"⟩, 8), (⟨"ShopPaymaster", "productAt", "(I)LShopPaymaster$Product;"⟩, 8), (⟨"ShopPaymaster", "sell", "(LShopPaymaster$Product;LShopPaymaster$Land;IZ)I"⟩, 8), (⟨"ShopPaymaster", "currentMonth", "()I"⟩, 8), (⟨"ShopPaymaster", "book", "(LShopPaymaster$Sale;I)V"⟩, 8), (⟨"ShopPaymaster", "saleAt", "(I)LShopPaymaster$Sale;"⟩, 8), (⟨"ShopPaymaster", "subscriptionAt", "(I)LShopPaymaster$Subscription;"⟩, 8), (⟨"ShopPaymaster", "beginNextDay", "()I"⟩, 8), (⟨"ShopPaymaster", "closeMonth", "(I)V"⟩, 8), (⟨"ShopPaymaster", "beginYear", "()V"⟩, 8), (⟨"ShopPaymaster", "collectPayments", "()I"⟩, 8)]
theorem lw_r1 : ∀ q ∈ lw_privs_1, lw_okq q := List.forall_mem_cons.mpr ⟨lw_p0, List.forall_mem_cons.mpr ⟨lw_p1, List.forall_mem_cons.mpr ⟨lw_p2, List.forall_mem_cons.mpr ⟨lw_p3, List.forall_mem_cons.mpr ⟨lw_p4, List.forall_mem_cons.mpr ⟨lw_p5, List.forall_mem_cons.mpr ⟨lw_p6, List.forall_mem_cons.mpr ⟨lw_p7, List.forall_mem_cons.mpr ⟨lw_p8, List.forall_mem_cons.mpr ⟨lw_p9, List.forall_mem_cons.mpr ⟨lw_p10, List.forall_mem_cons.mpr ⟨lw_p11, List.forall_mem_cons.mpr ⟨lw_p12, List.forall_mem_cons.mpr ⟨lw_p13, List.forall_mem_cons.mpr ⟨lw_p14, List.forall_mem_cons.mpr ⟨lw_p15, fun _ h => absurd h List.not_mem_nil⟩⟩⟩⟩⟩⟩⟩⟩⟩⟩⟩⟩⟩⟩⟩⟩
theorem lw_p16 : lw_okq (⟨"ShopPaymaster", "tryPayment", "(LShopPaymaster$Subscription;)Z"⟩, 8) := ⟨⟨by decide +kernel, by decide +kernel⟩, List.mem_of_getElem? (i := 24) (by decide +kernel), List.mem_of_getElem? (i := 673) (by decide +kernel), List.mem_of_getElem? (i := 674) (by decide +kernel)⟩
theorem lw_p17 : lw_okq (⟨"ShopPaymasterModel", "sells", "(IIIZ)I"⟩, 26) := ⟨⟨by decide +kernel, by decide +kernel⟩, List.mem_of_getElem? (i := 691) (by decide +kernel), List.mem_of_getElem? (i := 806) (by decide +kernel), List.mem_of_getElem? (i := 807) (by decide +kernel)⟩
theorem lw_p18 : lw_okq (⟨"ShopPaymasterModel", "counts", "(JI)V"⟩, 26) := ⟨⟨by decide +kernel, by decide +kernel⟩, List.mem_of_getElem? (i := 691) (by decide +kernel), List.mem_of_getElem? (i := 810) (by decide +kernel), List.mem_of_getElem? (i := 811) (by decide +kernel)⟩
theorem lw_p19 : lw_okq (⟨"ShopPaymasterModel", "isSale", "(I)Z"⟩, 26) := ⟨⟨by decide +kernel, by decide +kernel⟩, List.mem_of_getElem? (i := 691) (by decide +kernel), List.mem_of_getElem? (i := 833) (by decide +kernel), List.mem_of_getElem? (i := 834) (by decide +kernel)⟩
theorem lw_p20 : lw_okq (⟨"ShopPaymasterModel", "fails", "(I)I"⟩, 26) := ⟨⟨by decide +kernel, by decide +kernel⟩, List.mem_of_getElem? (i := 691) (by decide +kernel), List.mem_of_getElem? (i := 837) (by decide +kernel), List.mem_of_getElem? (i := 838) (by decide +kernel)⟩
theorem lw_p21 : lw_okq (⟨"ShopPaymasterModel", "isPlan", "(I)Z"⟩, 26) := ⟨⟨by decide +kernel, by decide +kernel⟩, List.mem_of_getElem? (i := 691) (by decide +kernel), List.mem_of_getElem? (i := 874) (by decide +kernel), List.mem_of_getElem? (i := 875) (by decide +kernel)⟩
theorem lw_p22 : lw_okq (⟨"ShopPaymasterModel", "isMaker", "(I)Z"⟩, 26) := ⟨⟨by decide +kernel, by decide +kernel⟩, List.mem_of_getElem? (i := 691) (by decide +kernel), List.mem_of_getElem? (i := 898) (by decide +kernel), List.mem_of_getElem? (i := 899) (by decide +kernel)⟩
theorem lw_p23 : lw_okq (⟨"ShopPaymasterModel", "closes", "(I)V"⟩, 26) := ⟨⟨by decide +kernel, by decide +kernel⟩, List.mem_of_getElem? (i := 691) (by decide +kernel), List.mem_of_getElem? (i := 922) (by decide +kernel), List.mem_of_getElem? (i := 923) (by decide +kernel)⟩
theorem lw_p24 : lw_okq (⟨"ShopPaymasterModel", "pays", "(I)Z"⟩, 26) := ⟨⟨by decide +kernel, by decide +kernel⟩, List.mem_of_getElem? (i := 691) (by decide +kernel), List.mem_of_getElem? (i := 926) (by decide +kernel), List.mem_of_getElem? (i := 927) (by decide +kernel)⟩
def lw_privs_2 : List (MethodName × Nat) := [(⟨"ShopPaymaster", "tryPayment", "(LShopPaymaster$Subscription;)Z"⟩, 8), (⟨"ShopPaymasterModel", "sells", "(IIIZ)I"⟩, 26), (⟨"ShopPaymasterModel", "counts", "(JI)V"⟩, 26), (⟨"ShopPaymasterModel", "isSale", "(I)Z"⟩, 26), (⟨"ShopPaymasterModel", "fails", "(I)I"⟩, 26), (⟨"ShopPaymasterModel", "isPlan", "(I)Z"⟩, 26), (⟨"ShopPaymasterModel", "isMaker", "(I)Z"⟩, 26), (⟨"ShopPaymasterModel", "closes", "(I)V"⟩, 26), (⟨"ShopPaymasterModel", "pays", "(I)Z"⟩, 26)]
theorem lw_r2 : ∀ q ∈ lw_privs_2, lw_okq q := List.forall_mem_cons.mpr ⟨lw_p16, List.forall_mem_cons.mpr ⟨lw_p17, List.forall_mem_cons.mpr ⟨lw_p18, List.forall_mem_cons.mpr ⟨lw_p19, List.forall_mem_cons.mpr ⟨lw_p20, List.forall_mem_cons.mpr ⟨lw_p21, List.forall_mem_cons.mpr ⟨lw_p22, List.forall_mem_cons.mpr ⟨lw_p23, List.forall_mem_cons.mpr ⟨lw_p24, fun _ h => absurd h List.not_mem_nil⟩⟩⟩⟩⟩⟩⟩⟩⟩
def lw_privs : List (MethodName × Nat) := lw_privs_1 ++ (lw_privs_2)
def lw_tbl : List Cond := k2_sels lw_privs ++ tables_1
theorem lw_privs_ok : ∀ q ∈ lw_privs, lw_okq q := by
  show ∀ q ∈ lw_privs_1 ++ (lw_privs_2), lw_okq q
  exact List.forall_mem_append.mpr ⟨lw_r1, lw_r2⟩
/-! ===== BEGIN words of one list among another's, by their places ===== -/
theorem goodIn_r {big : List Cond} (ws : List Cond) (ps : List Nat) (hp : ws = ps.filterMap (fun i => big[i]?)) (h : ws.all goodWord = true) : GoodIn big ws := by
  intro w hw
  have h1 := List.all_eq_true.mp h w hw
  rw [hp] at hw
  obtain ⟨i, -, hi⟩ := List.mem_filterMap.mp hw
  have hm : w ∈ big := by first | exact List.mem_of_getElem? hi | exact List.getElem?_mem hi
  exact ⟨hm, good_of_word h1⟩
theorem goodIn_app {big a b : List Cond} (ha : GoodIn big a) (hb : GoodIn big b) : GoodIn big (a ++ b) := fun w h => (List.mem_append.mp h).elim (ha w) (hb w)
theorem goodIn_ca {big a b : List Cond} {c : Cond} (ha : GoodIn big (c :: a)) (hb : GoodIn big b) : GoodIn big (c :: (a ++ b)) := fun w h => (List.mem_cons.mp h).elim (fun e => ha w (List.mem_cons.mpr (Or.inl e))) (fun h => (List.mem_append.mp h).elim (fun h => ha w (List.mem_cons.mpr (Or.inr h))) (hb w))
theorem goodIn_sub {big ws : List Cond} (hm : ∀ w ∈ ws, w ∈ big) (h : ws.all goodWord = true) : GoodIn big ws := fun w hw => ⟨hm w hw, good_of_word (List.all_eq_true.mp h w hw)⟩
/-! ===== END ===== -/

/-! ===== BEGIN exceptions that leave a method, and their catching by the caller (launches without stack traces) ===== -/
section VXA
/-! The laws vx_back, vx_callV, vx_callS, vx_callSW, vx_throw0, vx_throwS follow proofs of the library, with one case more: JvmDerived/Free/Laws.lean (Back.of_free), Shelf42/LK1.lean (callV, callS), Shelf/KitTraced.lean (throwNew0V, throwNewS). -/
/-- where a method has thrown q: the class by its name, the cell, what was written, the world -/
def vx_T (XC : String → State → State → Prop) (st : State) (q : Addr) (t : State) (mc ms : Nat) (free : Addr → Prop) : Prop :=
  ∃ (E : String) (ce : Cell) (L : List Loc), XC E st t ∧ t.heap[q]? = some ce ∧ ce.vm = .none ∧ st.vm.findClass E = some ce.cls ∧ st.WarmedH t.vm ∧ st.sameButNew ({ t with vm := st.vm } : State) L mc ms ∧ ∀ z ∈ L, free z.base
def vx_Q (Qc : Array Value → State → Outcome → State → Prop) (XC : String → State → State → Prop) (mc ms : Nat) (free : Addr → Prop) : Array Value → State → Outcome → State → Prop := fun a st o t =>
  (Qc a st o t ∧ ∃ L, FrameEnd st o t L mc ms ∧ ∀ q ∈ L, free q.base) ∨ ∃ q, o = .threw q ∧ vx_T XC st q t mc ms free
/-- a callee that returns or throws -/
def vx_Met (l : Launch) (y : MethodName) (ws : List Cond) (rm : Room) (Pc : Array Value → State → Prop) (Qc : Array Value → State → Outcome → State → Prop) (XC : String → State → State → Prop) (mc ms : Nat) (free : Addr → Prop) : Prop :=
  MetFree l y (headSpec ws rm) Pc (fun _ _ _ _ _ => True) (vx_Q Qc XC mc ms free)
def vx_Post (XC : String → State → State → Prop) (mc ms : Nat) (free : Addr → Prop) : Pt → Array Value → Addr → Pt → Prop := fun A a q B =>
  ∃ (g : JFrame) (mk : MethodId) (t : State) (L : List Loc) (E : String) (ce : Cell), B.U.heap = t.heap ∧ B.U.vm = t.vm ∧ XC E (A.U.calling g mk a) t ∧ t.heap[q]? = some ce ∧ ce.vm = .none ∧ A.U.vm.findClass E = some ce.cls ∧ B.locs = A.locs ++ L ∧ (∀ z ∈ L, free z.base) ∧ B.cells = A.cells + mc ∧ B.slots = A.slots + ms
def vx_Back (l : Launch) (R : Room) (p : Program) (e : Env) (below : List Frame) (s : State) (sargs : Array Value) (y : MethodName) (len W9 : Nat)
    (Pre : Pt → Array Value → Prop) (Post : Pt → Array Value → Option Value → Pt → Prop) (PostX : Pt → Array Value → Addr → Pt → Prop) : Prop :=
  ∀ (m : MethodId) (meth : Method) (c : Code) (A : Pt) (g : JFrame) (ig : Instr) (mk : MethodId) (a : Array Value),
    Stand p l e R s m sargs below meth c A.U A.locs A.cells A.slots → g.method = m → g.locals.size = c.maxLocals → decode c.code g.pc = .ok (ig, len) →
    2 * g.monitorRoom + (g.stack.map fun v => v.category).sum ≤ W9 → A.U.methodNamed? y = some mk → Pre A a →
    (∃ (v : Option Value) (B : Pt), Stand p l e R s m sargs below meth c B.U B.locs B.cells B.slots ∧ Post A a v B ∧
      Steps p.tables e below (doInvoke e (A.U.setTop g) [] mk a).1 (B.U.setTop { g with pc := g.pc + len, stack := v.toList ++ g.stack })) ∨
    (∃ (q : Addr) (B : Pt), Stand p l e R s m sargs below meth c B.U B.locs B.cells B.slots ∧ PostX A a q B ∧
      Steps p.tables e below (doInvoke e (A.U.setTop g) [] mk a).1 ((B.U.setTop g).pushFrame (.throwing q)))
section Payer
variable {l : Launch} {R : Room} {p : Program} {e : Env} {below : List Frame} {s : State} {sargs : Array Value} {y : MethodName} {len W9 : Nat}
theorem vx_back {ws : List Cond} {rm : Room} {Pc : Array Value → State → Prop} {Qc : Array Value → State → Outcome → State → Prop} {XC : String → State → State → Prop} {mc ms : Nat} {free : Addr → Prop} {bytes : ByteArray} {maxL : Nat} {ret : Option FieldType}
    (hM : vx_Met l y ws rm Pc Qc XC mc ms free) (hblind : FrameBlind Pc) (hrc : rm.cells = mc) (hrs : rm.slots = ms)
    (hframes : rm.frames + 1 ≤ R.frames) (hlocals : W9 + (maxL + 11) + rm.locals ≤ R.locals)
    (hws : ∀ w ∈ ws, ∀ a' U, s.WarmedH U.vm → w.before a' U = true) (hcode : Cond.code y bytes maxL ret ∈ ws) (hinit : ∀ a' U, s.WarmedH U.vm → (Cond.initialized y.cls).before a' U = true) :
    vx_Back l R p e below s sargs y len W9 (PreOf R mc ms Pc) (PostOf Qc mc ms free) (vx_Post XC mc ms free) := by
  intro m meth c A g ig mk a X hg hsize hdg hW hn hp
  have h1 : (headSpec ws rm).pre.before a A.U = true := atoms_intro fun w hw => hws w hw _ _ X.warmed
  have h2 : (Cond.code y bytes maxL ret).before a A.U = true := hws _ hcode _ _ X.warmed
  have h3 : (Cond.initialized y.cls).before a A.U = true := hinit _ _ X.warmed
  have h4 : A.cells + (headSpec ws rm).room.cells ≤ R.cells := by rw [show (headSpec ws rm).room.cells = mc from hrc]; exact hp.1
  have h5 : A.slots + (headSpec ws rm).room.slots ≤ R.slots := by rw [show (headSpec ws rm).room.slots = ms from hrs]; exact hp.2.1
  have hPc : Pc a (A.U.calling g mk a) := hblind _ _ _ _ hp.2.2
  obtain ⟨U, Ls, c0, s0⟩ := A
  dsimp only [Pt.U, Pt.locs, Pt.cells, Pt.slots] at h1 h2 h3 h4 h5 X hn hPc ⊢
  obtain ⟨methY, cY, hmY, hcY, -, hlY, -, -, -, -⟩ := Cond.code_spec hn h2
  obtain ⟨kY, hkY, -⟩ := className_of_methodNamed hn
  have hinitY : kY.init = .initialized := Cond.initialized_spec (findClass_of_methodNamed hn) hkY h3
  have h : At U g.method c below := by rw [hg]; exact X.here
  have hlocals9 : W9 + (maxL + 11) + (headSpec ws rm).room.locals ≤ R.locals := hlocals
  have happ : (headSpec ws rm).appliesLoose y e.platform (U.calling g mk a) = true :=
    Spec.appliesLoose_calling (g := g) h hdg hn hkY hinitY
      (X.room_calling (g := g) (R' := (headSpec ws rm).room) hsize hmY hcY hframes (by rw [hlY]; omega) h4 h5) h1
  obtain ⟨mid, hmid⟩ := h.above
  have hfr : (U.setTop g).frames = (.java g :: mid) ++ below := by rw [State.frames_setTop' g h.top, hmid]; rfl
  obtain ⟨o, s₂, hsteps, -, hend, hq⟩ := Steps.callFree hM p X.admits X.cas X.clock (acts := []) hfr happ hPc trivial
  have hq' : vx_Q Qc XC mc ms free a (U.calling g mk a) o s₂ := hq
  rw [State.frames_setTop' g h.top] at hend
  obtain ⟨g₀, hg0⟩ := Option.isSome_iff_exists.mp h.top
  obtain ⟨r, hr⟩ := State.topJava?_eq_some.mp hg0
  have hr' : (({ U with heap := s₂.heap, slotsUsed := s₂.slotsUsed } : State).setVm s₂.vm).frames = .java g₀ :: r := hr
  rcases hq' with ⟨hqc, L, hfe, hL⟩ | ⟨q, rfl, E, ce, L, hx, hce, hcv, hcl, hW₂, hsm, hL⟩
  · obtain ⟨⟨v, rfl⟩, hW₂, e2, q2, q3, q4, q5, q6⟩ := id hfe
    have e3 : s₂ = ({ (U.calling g mk a).setFrames s₂.frames with heap := s₂.heap, slotsUsed := s₂.slotsUsed } : State).setVm s₂.vm := by
      have : s₂ = ({ s₂ with vm := (U.calling g mk a).vm } : State).setVm s₂.vm := rfl
      rw [e2] at this
      exact this
    obtain ⟨c₂, i₂, len₂, hc₂, hd₂, hf₂⟩ := hend
    have hW' : U.WarmedH s₂.vm := hW₂
    have hcc : c₂ = c := by
      have h1 : s₂.code? g.method = U.code? g.method := by
        rw [State.code?_eq, State.code?_eq, hW'.alike.method?]
      exact Option.some.inj (hc₂.symm.trans (h1.trans h.code))
    subst hcc
    have hlen : len₂ = len := by rw [hdg] at hd₂; cases hd₂; rfl
    subst hlen
    have hs₂ : s₂ = (({ U with heap := s₂.heap, slotsUsed := s₂.slotsUsed } : State).setVm s₂.vm).setTop { g with pc := g.pc + len₂, stack := v.toList ++ g.stack } := by
      refine e3.trans ?_
      rw [hf₂, State.calling_eq h.top, State.setFrames_setFrames, State.setTop_of_frames _ hr', hr]
      rfl
    have hsame : U.sameButNew ({ U with heap := s₂.heap, slotsUsed := s₂.slotsUsed } : State) L mc ms := by
      refine ⟨?_, q2, q3, q4, q5, q6⟩
      obtain ⟨t, ht, -⟩ := State.frames_cons hr
      show ({ U with heap := s₂.heap, slotsUsed := s₂.slotsUsed } : State) = { U.setFrames U.frames with heap := s₂.heap, slotsUsed := s₂.slotsUsed }
      rw [State.setFrames_self ht]
    subst hg
    refine Or.inl ⟨v, ⟨(({ U with heap := s₂.heap, slotsUsed := s₂.slotsUsed } : State).setVm s₂.vm), Ls ++ L, c0 + mc, s0 + ms⟩,
      ⟨X.admits, X.cas, X.clock, X.frames, X.room, X.hears, X.method, X.code, (X.here.setHeapUsed s₂.heap s₂.slotsUsed).setVm hW'.alike, X.tail, State.WarmedH.trans X.warmed hW', X.limits, X.bytes, X.same.trans (hsame.setVm s.vm)⟩,
      ⟨g, mk, s₂, L, rfl, rfl, hqc, rfl, hL, rfl, rfl⟩, ?_⟩
    show Steps p.tables e below _ ((({ U with heap := s₂.heap, slotsUsed := s₂.slotsUsed } : State).setVm s₂.vm).setTop { g with pc := g.pc + len₂, stack := v.toList ++ g.stack })
    rw [← hs₂]
    exact hsteps
  · obtain ⟨e2, q2, q3, q4, q5, q6⟩ := id hsm
    have e3 : s₂ = ({ (U.calling g mk a).setFrames s₂.frames with heap := s₂.heap, slotsUsed := s₂.slotsUsed } : State).setVm s₂.vm := by
      have : s₂ = ({ s₂ with vm := (U.calling g mk a).vm } : State).setVm s₂.vm := rfl
      rw [e2] at this
      exact this
    have hf₂ : s₂.frames = .throwing q :: .java g :: U.frames.tail := hend
    have hW' : U.WarmedH s₂.vm := hW₂
    have hs₂ : s₂ = ((({ U with heap := s₂.heap, slotsUsed := s₂.slotsUsed } : State).setVm s₂.vm).setTop g).pushFrame (.throwing q) := by
      refine e3.trans ?_
      rw [hf₂, State.calling_eq h.top, State.setFrames_setFrames, State.pushFrame, State.frames_setTop _ hr', State.setTop_of_frames _ hr', State.setFrames_setFrames, hr]
      rfl
    have hsame : U.sameButNew ({ U with heap := s₂.heap, slotsUsed := s₂.slotsUsed } : State) L mc ms := by
      refine ⟨?_, q2, q3, q4, q5, q6⟩
      obtain ⟨t, ht, -⟩ := State.frames_cons hr
      show ({ U with heap := s₂.heap, slotsUsed := s₂.slotsUsed } : State) = { U.setFrames U.frames with heap := s₂.heap, slotsUsed := s₂.slotsUsed }
      rw [State.setFrames_self ht]
    subst hg
    refine Or.inr ⟨q, ⟨(({ U with heap := s₂.heap, slotsUsed := s₂.slotsUsed } : State).setVm s₂.vm), Ls ++ L, c0 + mc, s0 + ms⟩,
      ⟨X.admits, X.cas, X.clock, X.frames, X.room, X.hears, X.method, X.code, (X.here.setHeapUsed s₂.heap s₂.slotsUsed).setVm hW'.alike, X.tail, State.WarmedH.trans X.warmed hW', X.limits, X.bytes, X.same.trans (hsame.setVm s.vm)⟩,
      ⟨g, mk, s₂, L, E, ce, rfl, rfl, hx, hce, hcv, hcl, rfl, hL, rfl, rfl⟩, ?_⟩
    show Steps p.tables e below _ (((({ U with heap := s₂.heap, slotsUsed := s₂.slotsUsed } : State).setVm s₂.vm).setTop g).pushFrame (.throwing q))
    rw [← hs₂]
    exact hsteps
end Payer
section Calls
variable {p : Program} {l : Launch} {e : Env} {R : Room} {s : State} {m : MethodId} {args : Array Value} {below : List Frame} {meth : Method} {c : Code} {T : State} {locs : List Loc} {cells slots : Nat}
theorem vx_callV (X : Stand p l e R s m args below meth c T locs cells slots) (hexec : p.tables.exec = Jvm.exec) {own C : String} {index : Nat} {y : MethodName} {bytes : ByteArray} {maxL : Nat} {ret : Option FieldType}
    (hown : s.vm.findClass own = some m.cls) (hlink : (Cond.methodLink own index y).before args s = true) (hinst : (Cond.instanceMethod y).before args s = true) (hsel : (Cond.selects C y y).before args s = true)
    (hcode : (Cond.code y bytes maxL ret).before args s = true) (hy : y.cls ≠ "java/lang/invoke/MethodHandle" ∧ y.cls ≠ "java/lang/invoke/VarHandle")
    {W9 : Nat} {Pre : Pt → Array Value → Prop} {Post : Pt → Array Value → Option Value → Pt → Prop} {PostX : Pt → Array Value → Addr → Pt → Prop} (hK : vx_Back l R p e below s args y 3 W9 Pre Post PostX)
    {b : Addr} {cellB : Cell} (hcell : T.heap[b]? = some cellB) (hobj : cellB.vm.isStatics = false) (hcls : s.vm.findClass C = some cellB.cls)
    {g : JFrame} (hg : g.method = m) (hsize : g.locals.size = c.maxLocals) {argsL rest : List Value} (hlen : ∀ sig, parseMethodDescriptor y.desc = some sig → argsL.length = sig.parameters.length)
    (hstack : g.stack = argsL.reverse ++ .ref b :: rest) (hW : 2 * g.monitorRoom + (rest.map fun v => v.category).sum ≤ W9) (hdg : decode c.code g.pc = .ok (.invokevirtual index, 3))
    (hpre : ∀ vm₁, s.WarmedH vm₁ → Pre ⟨T.setVm vm₁, locs, cells, slots⟩ (Value.ref b :: argsL).toArray) :
    (∃ (v : Option Value) (vm₁ : Vm) (B : Pt), s.WarmedH vm₁ ∧ Stand p l e R s m args below meth c B.U B.locs B.cells B.slots ∧ Post ⟨T.setVm vm₁, locs, cells, slots⟩ (Value.ref b :: argsL).toArray v B ∧
      ∀ target, Steps p.tables e below (B.U.setTop { g with pc := g.pc + 3, stack := v.toList ++ rest }) target → Steps p.tables e below (T.setTop g) target) ∨
    (∃ (q : Addr) (vm₁ : Vm) (B : Pt), s.WarmedH vm₁ ∧ Stand p l e R s m args below meth c B.U B.locs B.cells B.slots ∧ PostX ⟨T.setVm vm₁, locs, cells, slots⟩ (Value.ref b :: argsL).toArray q B ∧
      Steps p.tables e below (T.setTop g) ((B.U.setTop { g with stack := rest }).pushFrame (.throwing q))) := by
  obtain ⟨mk, methM, hnamed, hmethM, hstM, habM⟩ := Cond.instanceMethod_spec hinst
  obtain ⟨methM', cM, hmethM', -, -, -, -, -, -, hsigM⟩ := Cond.code_spec hnamed hcode
  cases hmethM.symm.trans hmethM'
  obtain ⟨c2, r2, m2, q1, q2, q3, q4, kP, hkP, hkPi⟩ := Cond.selects_spec hsel
  cases hcls.symm.trans q1
  cases (State.methodFound?_of_named hnamed hy).symm.trans q2
  cases hnamed.symm.trans q3
  have hselP : selectMethod e.platform s.vm cellB.cls mk = .method mk := by rw [Launch.admits_selectMethod X.admits]; exact q4
  obtain ⟨vm₁, X₁, hstep₁⟩ := X.invokevirtual hexec hown hlink hnamed hmethM hstM hkP hkPi hy (a := b) (cell := cellB) hcell
    (fun z h => by rw [h] at hobj; cases hobj) hselP hmethM habM hkP hkPi (g := g) hg (argsL := argsL) (rest := rest) (hlen _ hsigM) hstack hdg
  rcases hK m meth c ⟨T.setVm vm₁, locs, cells, slots⟩ { g with stack := rest } (.invokevirtual index) mk (Value.ref b :: argsL).toArray X₁ hg hsize hdg hW (X₁.named hnamed) (hpre vm₁ X₁.warmed) with ⟨v, B, X', hpost, hsteps⟩ | ⟨q, B, X', hpost, hsteps⟩
  · exact Or.inl ⟨v, vm₁, B, X₁.warmed, X', hpost, fun target h => hstep₁ _ fun acts => by rw [doInvoke_state]; exact hsteps.trans h⟩
  · exact Or.inr ⟨q, vm₁, B, X₁.warmed, X', hpost, hstep₁ _ fun acts => by rw [doInvoke_state]; exact hsteps⟩
theorem vx_callS (X : Stand p l e R s m args below meth c T locs cells slots) (hexec : p.tables.exec = Jvm.exec) {own : String} {index : Nat} {y : MethodName} {bytes : ByteArray} {maxL : Nat} {ret : Option FieldType}
    (hown : s.vm.findClass own = some m.cls) (hlink : (Cond.methodLink own index y).before args s = true) (hstat : (Cond.static y).before args s = true) (hinit : (Cond.initialized y.cls).before args s = true)
    (hcode : (Cond.code y bytes maxL ret).before args s = true) (hy : y.cls ≠ "java/lang/invoke/MethodHandle" ∧ y.cls ≠ "java/lang/invoke/VarHandle")
    {W9 : Nat} {Pre : Pt → Array Value → Prop} {Post : Pt → Array Value → Option Value → Pt → Prop} {PostX : Pt → Array Value → Addr → Pt → Prop} (hK : vx_Back l R p e below s args y 3 W9 Pre Post PostX)
    {g : JFrame} (hg : g.method = m) (hsize : g.locals.size = c.maxLocals) {argsL rest : List Value} (hlen : ∀ sig, parseMethodDescriptor y.desc = some sig → argsL.length = sig.parameters.length)
    (hstack : g.stack = argsL.reverse ++ rest) (hW : 2 * g.monitorRoom + (rest.map fun v => v.category).sum ≤ W9) (hdg : decode c.code g.pc = .ok (.invokestatic index, 3))
    (hpre : ∀ vm₁, s.WarmedH vm₁ → Pre ⟨T.setVm vm₁, locs, cells, slots⟩ argsL.toArray) :
    (∃ (v : Option Value) (vm₁ : Vm) (B : Pt), s.WarmedH vm₁ ∧ Stand p l e R s m args below meth c B.U B.locs B.cells B.slots ∧ Post ⟨T.setVm vm₁, locs, cells, slots⟩ argsL.toArray v B ∧
      ∀ target, Steps p.tables e below (B.U.setTop { g with pc := g.pc + 3, stack := v.toList ++ rest }) target → Steps p.tables e below (T.setTop g) target) ∨
    (∃ (q : Addr) (vm₁ : Vm) (B : Pt), s.WarmedH vm₁ ∧ Stand p l e R s m args below meth c B.U B.locs B.cells B.slots ∧ PostX ⟨T.setVm vm₁, locs, cells, slots⟩ argsL.toArray q B ∧
      Steps p.tables e below (T.setTop g) ((B.U.setTop { g with stack := rest }).pushFrame (.throwing q))) := by
  obtain ⟨mk, hnamed⟩ := Cond.code_named hcode
  obtain ⟨methM, cM, hmethM, -, -, -, -, -, -, hsigM⟩ := Cond.code_spec hnamed hcode
  have hstatic : methM.isStatic = true := Cond.static_spec hnamed hmethM hstat
  obtain ⟨kP, hkP, -⟩ := className_of_methodNamed hnamed
  have hinitP : kP.init = .initialized := Cond.initialized_spec (findClass_of_methodNamed hnamed) hkP hinit
  obtain ⟨vm₁, X₁, hstep₁⟩ := X.invokestatic hexec hown hlink hnamed hmethM hstatic hkP hinitP hy (g := g) hg (argsL := argsL) (rest := rest) (hlen _ hsigM) hstack hdg
  rcases hK m meth c ⟨T.setVm vm₁, locs, cells, slots⟩ { g with stack := rest } (.invokestatic index) mk argsL.toArray X₁ hg hsize hdg hW (X₁.named hnamed) (hpre vm₁ X₁.warmed) with ⟨v, B, X', hpost, hsteps⟩ | ⟨q, B, X', hpost, hsteps⟩
  · exact Or.inl ⟨v, vm₁, B, X₁.warmed, X', hpost, fun target h => hstep₁ _ fun acts => by rw [doInvoke_state]; exact hsteps.trans h⟩
  · exact Or.inr ⟨q, vm₁, B, X₁.warmed, X', hpost, hstep₁ _ fun acts => by rw [doInvoke_state]; exact hsteps⟩
end Calls
theorem vx_cls {s : State} {T : State} {vm₁ : Vm} {E : String} {k : ClassId} (hW : s.WarmedH vm₁) (h : (T.setVm vm₁).vm.findClass E = some k) : s.vm.findClass E = some k := by
  have h1 : vm₁.findClass E = some k := h
  rw [hW.alike.findClass] at h1
  exact h1
/-- the method's frame g, with q thrown over it -/
def vx_W (p : Program) (l : Launch) (e : Env) (R : Room) (s : State) (m : MethodId) (args : Array Value) (below : List Frame) (meth : Method) (c : Code) (H : Heap) (locs : List Loc) (cells slots : Nat) (Q : State → Prop) (g : JFrame) (q : Addr) : Prop :=
  ∀ T : State, T.heap = H → Stand p l e R s m args below meth c T locs cells slots → ∃ t, Steps p.tables e below ((T.setTop g).pushFrame (.throwing q)) t ∧ Q t
def vx_Run (p : Program) (l : Launch) (e : Env) (R : Room) (s : State) (m : MethodId) (args : Array Value) (below : List Frame) (meth : Method) (c : Code) (H : Heap) (locs : List Loc) (cells slots mc ms : Nat) (g : JFrame) (rest : List Value) (Qa : State → Outcome → State → Prop) (XC : String → State → State → Prop) (free : Addr → Prop) : Prop :=
  ∀ T : State, T.heap = H → Stand p l e R s m args below meth c T locs cells slots →
    (∃ (v : Option Value) (st₀ t T' : State) (L : List Loc), st₀.heap = H ∧ Stand p l e R s m args below meth c T' (locs ++ L) (cells + mc) (slots + ms) ∧ (∀ q ∈ L, free q.base) ∧ T'.heap = t.heap ∧ T'.vm = t.vm ∧ Qa st₀ (.returned v) t ∧
      Goes p e below T g T' { g with pc := g.pc + 3, stack := v.toList ++ rest }) ∨
    (∃ (q : Addr) (st₀ t T' : State) (L : List Loc) (E : String) (ce : Cell), st₀.heap = H ∧ Stand p l e R s m args below meth c T' (locs ++ L) (cells + mc) (slots + ms) ∧ (∀ z ∈ L, free z.base) ∧ T'.heap = t.heap ∧ T'.vm = t.vm ∧ XC E st₀ t ∧ t.heap[q]? = some ce ∧ ce.vm = .none ∧ s.vm.findClass E = some ce.cls ∧
      Steps p.tables e below (T.setTop g) ((T'.setTop { g with stack := rest }).pushFrame (.throwing q)))
def vx_X {S : Type} (px : S → Prop) (B : String → S → State → Prop) (A : Nat → Prop) : String → State → State → Prop := fun E st t => ∃ u : S, px u ∧ B E u t ∧ va_F A st t
section Runs
variable {p : Program} {l : Launch} {e : Env} {R : Room} {s : State} {m : MethodId} {args : Array Value} {below : List Frame} {meth : Method} {c : Code} {H : Heap} {locs : List Loc} {cells slots : Nat}
variable {y : MethodName} {bytes cc : ByteArray} {maxL nL mc ms n index : Nat} {ret : Option FieldType} {ws : List Cond} {rm : Room} {Pc : Array Value → State → Prop} {Qc : Array Value → State → Outcome → State → Prop} {XC : String → State → State → Prop} {free : Addr → Prop} {Ts : List Cond} {own C : String} {b : Addr} {As rest : List Value} {g : JFrame}
theorem vx_callBack (cb : CallB R s args own index y bytes maxL ret ws rm mc ms n) (hM : vx_Met l y ws rm Pc Qc XC mc ms free) (hbl : FrameBlind Pc) : vx_Back l R p e below s args y 3 8 (PreOf R mc ms Pc) (PostOf Qc mc ms free) (vx_Post XC mc ms free) := by
  obtain ⟨hrc, hrs, hfr, hlo, hws, hcw, -, hini, -⟩ := cb
  exact vx_back (bytes := bytes) (maxL := maxL) (ret := ret) hM hbl hrc hrs hfr hlo hws hcw (fun a' U hW => word_at hW (Or.inl (by first | rfl | simp [Cond.onTables, Cond.keeps, Cond.steady])) hini)
theorem vx_runV (S : CallFix p m c cc nL s args Ts own) (hM : vx_Met l y ws rm Pc Qc XC mc ms free) (cw : CallW R s args own C index y bytes maxL ret ws rm mc ms n) (hp : PreV s H C b Pc As)
    (hg : g.method = m) (hn : As.length = n) (hsize : g.locals.size = nL) (hstack : g.stack = As.reverse ++ .ref b :: rest) (hW : 2 * g.monitorRoom + (rest.map fun v => v.category).sum ≤ 8) (hdg : decode cc g.pc = .ok (.invokevirtual index, 3)) (hf : cells + mc ≤ R.cells ∧ slots + ms ≤ R.slots) :
    vx_Run p l e R s m args below meth c H locs cells slots mc ms g rest (Qc (Value.ref b :: As).toArray) XC free := by
  have hK : vx_Back l R p e below s args y 3 8 (PreOf R mc ms Pc) (PostOf Qc mc ms free) (vx_Post XC mc ms free) := vx_callBack cw.1 hM hp.1
  obtain ⟨⟨-, -, -, -, -, -, hcode, -, hy, hlen, hl⟩, hin, hse⟩ := cw
  obtain ⟨hx, hb, hml, ho, -⟩ := S
  obtain ⟨-, ⟨cellB, hcB, hoB, hclB⟩, hPc⟩ := hp
  intro T hT X
  rcases vx_callV X hx (C := C) (bytes := bytes) (maxL := maxL) (ret := ret) ho hl hin hse hcode hy hK (by rw [hT]; exact hcB) hoB hclB hg (hsize.trans hml.symm) (argsL := As) (rest := rest) (fun sig h => hn.trans (hlen sig h)) hstack hW (by rw [hb]; exact hdg)
    (fun vm₁ hW₁ => ⟨hf.1, hf.2, hPc (T.setVm vm₁) hT hW₁⟩) with ⟨v, vm₁, ⟨U', l2, c2, s2⟩, hW₁, X', ⟨g', mk, t, L, e1, e2, hq, h1, hL, h2, h3⟩, st⟩ | ⟨q, vm₁, ⟨U', l2, c2, s2⟩, hW₁, X', ⟨g', mk, t, L, E, ce, e1, e2, hq, hce, hcv, hcl, h1, hL, h2, h3⟩, st⟩
  · dsimp only [Pt.U, Pt.locs, Pt.cells, Pt.slots] at X' e1 e2 h1 h2 h3 st
    subst h1; subst h2; subst h3
    exact Or.inl ⟨v, (T.setVm vm₁).calling g' mk (Value.ref b :: As).toArray, t, U', L, hT, X', hL, e1, e2, hq, st⟩
  · dsimp only [Pt.U, Pt.locs, Pt.cells, Pt.slots] at X' e1 e2 h1 h2 h3 st hcl
    subst h1; subst h2; subst h3
    exact Or.inr ⟨q, (T.setVm vm₁).calling g' mk (Value.ref b :: As).toArray, t, U', L, E, ce, hT, X', hL, e1, e2, hq, hce, hcv, vx_cls hW₁ hcl, st⟩
theorem vx_runS (S : CallFix p m c cc nL s args Ts own) (hM : vx_Met l y ws rm Pc Qc XC mc ms free) (cw : CallB R s args own index y bytes maxL ret ws rm mc ms n ∧ (Cond.static y).before args s = true) (hp : PreS s H Pc As)
    (hg : g.method = m) (hn : As.length = n) (hsize : g.locals.size = nL) (hstack : g.stack = As.reverse ++ rest) (hW : 2 * g.monitorRoom + (rest.map fun v => v.category).sum ≤ 8) (hdg : decode cc g.pc = .ok (.invokestatic index, 3)) (hf : cells + mc ≤ R.cells ∧ slots + ms ≤ R.slots) :
    vx_Run p l e R s m args below meth c H locs cells slots mc ms g rest (Qc As.toArray) XC free := by
  have hK : vx_Back l R p e below s args y 3 8 (PreOf R mc ms Pc) (PostOf Qc mc ms free) (vx_Post XC mc ms free) := vx_callBack cw.1 hM hp.1
  obtain ⟨⟨-, -, -, -, -, -, hcode, hini, hy, hlen, hl⟩, hstt⟩ := cw
  obtain ⟨hx, hb, hml, ho, -⟩ := S
  intro T hT X
  rcases vx_callS X hx (bytes := bytes) (maxL := maxL) (ret := ret) ho hl hstt hini hcode hy hK hg (hsize.trans hml.symm) (argsL := As) (rest := rest) (fun sig h => hn.trans (hlen sig h)) hstack hW (by rw [hb]; exact hdg)
    (fun vm₁ hW₁ => ⟨hf.1, hf.2, hp.2 (T.setVm vm₁) hT hW₁⟩) with ⟨v, vm₁, ⟨U', l2, c2, s2⟩, hW₁, X', ⟨g', mk, t, L, e1, e2, hq, h1, hL, h2, h3⟩, st⟩ | ⟨q, vm₁, ⟨U', l2, c2, s2⟩, hW₁, X', ⟨g', mk, t, L, E, ce, e1, e2, hq, hce, hcv, hcl, h1, hL, h2, h3⟩, st⟩
  · dsimp only [Pt.U, Pt.locs, Pt.cells, Pt.slots] at X' e1 e2 h1 h2 h3 st
    subst h1; subst h2; subst h3
    exact Or.inl ⟨v, (T.setVm vm₁).calling g' mk As.toArray, t, U', L, hT, X', hL, e1, e2, hq, st⟩
  · dsimp only [Pt.U, Pt.locs, Pt.cells, Pt.slots] at X' e1 e2 h1 h2 h3 st hcl
    subst h1; subst h2; subst h3
    exact Or.inr ⟨q, (T.setVm vm₁).calling g' mk As.toArray, t, U', L, E, ce, hT, X', hL, e1, e2, hq, hce, hcv, vx_cls hW₁ hcl, st⟩
end Runs
section Rows
variable {p : Program} {l : Launch} {e : Env} {R : Room} {s : State} {m : MethodId} {args : Array Value} {below : List Frame} {meth : Method} {c : Code} {H : Heap} {locs : List Loc} {cells slots : Nat} {Q : State → Prop}
variable {mc ms : Nat} {free : Addr → Prop} {A0 A1 : Nat → Prop} {H0 : Heap} {a : Array Value} {pc : Nat} {ls : Array Slot} {st0 rest : List Value}
theorem vx_keep {st₀ t T' : State} {L : List Loc} (h0 : st₀.heap = H) (e1 : T'.heap = t.heap) (hS : va_S A0 H0 H locs) (hA : ∀ q, q < H.size → A1 q → A0 q) (hf : ∀ q, free q → A0 q) (hL : ∀ q ∈ L, free q.base) (hF : va_F A1 st₀ t) :
    H.size ≤ T'.heap.size ∧ (∀ q : Nat, q < H.size → ¬ A1 q → T'.heap[q]? = H[q]?) ∧ va_S A0 H0 T'.heap (locs ++ L) := by
  obtain ⟨hz, hk⟩ := hF
  rw [h0] at hz hk
  exact ⟨by rw [e1]; exact hz, fun q h1 h2 => by rw [e1]; exact hk q h1 h2,
    ⟨Nat.le_trans hS.1 (by rw [e1]; exact hz), fun q h1 h2 => by rw [e1, hk q (Nat.lt_of_lt_of_le h1 hS.1) (fun z => h2 (hA q (Nat.lt_of_lt_of_le h1 hS.1) z))]; exact hS.2.1 q h1 h2, fun q hq => by
      rcases List.mem_append.mp hq with h | h
      · exact hS.2.2 q h
      · exact hf _ (hL q h)⟩⟩
theorem vx_calli {S SX : Type} {post : Int32 → S → Prop} {px : SX → Prop} {B : S → State → Prop} {BX : String → SX → State → Prop} {AX : Nat → Prop} (hr : vx_Run p l e R s m args below meth c H locs cells slots mc ms (F0 m pc ls st0) rest (va_Qi post B A1 a) (vx_X px BX AX) free) (hS : va_S A0 H0 H locs) (hA : ∀ q, q < H.size → A1 q → A0 q) (hf : ∀ q, free q → A0 q) (hAX : ∀ q, q < H.size → AX q → A0 q)
    (kx : ∀ (E : String) (ce : Cell) (q9 : Addr) (u : SX) (t : State) (H1 : Heap) (locs1 : List Loc), t.heap = H1 → s.vm.Alike t.vm → px u → BX E u t → H.size ≤ H1.size → (∀ q : Nat, q < H.size → ¬ AX q → H1[q]? = H[q]?) → va_S A0 H0 H1 locs1 → H1[q9]? = some ce → ce.vm = .none → s.vm.findClass E = some ce.cls → vx_W p l e R s m args below meth c H1 locs1 (cells + mc) (slots + ms) Q (F0 m pc ls rest) q9)
    (kk : ∀ (r : Int32) (u : S) (t : State) (H1 : Heap) (locs1 : List Loc), t.heap = H1 → s.vm.Alike t.vm → post r u → B u t → H.size ≤ H1.size → (∀ q : Nat, q < H.size → ¬ A1 q → H1[q]? = H[q]?) → va_S A0 H0 H1 locs1 → W p l e R s m args below meth c H1 locs1 (cells + mc) (slots + ms) Q (F0 m (pc + 3) ls (.int r :: rest))) : W p l e R s m args below meth c H locs cells slots Q (F0 m pc ls st0) := by
  intro T hT X
  rcases hr T hT X with ⟨v, st₀, t, T', L, h0, X', hL, e1, e2, ⟨⟨r, u, hv, hp, hb⟩, hF⟩, st⟩ | ⟨q, st₀, t, T', L, E, ce, h0, X', hL, e1, e2, ⟨u, hp, hb, hF⟩, hce, hcv, hcl, st⟩
  · cases hv
    obtain ⟨k1, k2, k3⟩ := vx_keep h0 e1 hS hA hf hL hF
    obtain ⟨t2, a1, b1⟩ := kk r u t T'.heap (locs ++ L) e1.symm (by rw [← e2]; exact X'.warmed.alike) hp hb k1 k2 k3 T' rfl X'
    exact ⟨t2, st t2 a1, b1⟩
  · obtain ⟨k1, k2, k3⟩ := vx_keep h0 e1 hS hAX hf hL hF
    obtain ⟨t2, a1, b1⟩ := kx E ce q u t T'.heap (locs ++ L) e1.symm (by rw [← e2]; exact X'.warmed.alike) hp hb k1 k2 k3 (by rw [e1]; exact hce) hcv hcl T' rfl X'
    exact ⟨t2, st.trans a1, b1⟩
theorem vx_calll {S SX : Type} {post : Int64 → S → Prop} {px : SX → Prop} {B : S → State → Prop} {BX : String → SX → State → Prop} {AX : Nat → Prop} (hr : vx_Run p l e R s m args below meth c H locs cells slots mc ms (F0 m pc ls st0) rest (va_Ql post B A1 a) (vx_X px BX AX) free) (hS : va_S A0 H0 H locs) (hA : ∀ q, q < H.size → A1 q → A0 q) (hf : ∀ q, free q → A0 q) (hAX : ∀ q, q < H.size → AX q → A0 q)
    (kx : ∀ (E : String) (ce : Cell) (q9 : Addr) (u : SX) (t : State) (H1 : Heap) (locs1 : List Loc), t.heap = H1 → s.vm.Alike t.vm → px u → BX E u t → H.size ≤ H1.size → (∀ q : Nat, q < H.size → ¬ AX q → H1[q]? = H[q]?) → va_S A0 H0 H1 locs1 → H1[q9]? = some ce → ce.vm = .none → s.vm.findClass E = some ce.cls → vx_W p l e R s m args below meth c H1 locs1 (cells + mc) (slots + ms) Q (F0 m pc ls rest) q9)
    (kk : ∀ (r : Int64) (u : S) (t : State) (H1 : Heap) (locs1 : List Loc), t.heap = H1 → s.vm.Alike t.vm → post r u → B u t → H.size ≤ H1.size → (∀ q : Nat, q < H.size → ¬ A1 q → H1[q]? = H[q]?) → va_S A0 H0 H1 locs1 → W p l e R s m args below meth c H1 locs1 (cells + mc) (slots + ms) Q (F0 m (pc + 3) ls (.long r :: rest))) : W p l e R s m args below meth c H locs cells slots Q (F0 m pc ls st0) := by
  intro T hT X
  rcases hr T hT X with ⟨v, st₀, t, T', L, h0, X', hL, e1, e2, ⟨⟨r, u, hv, hp, hb⟩, hF⟩, st⟩ | ⟨q, st₀, t, T', L, E, ce, h0, X', hL, e1, e2, ⟨u, hp, hb, hF⟩, hce, hcv, hcl, st⟩
  · cases hv
    obtain ⟨k1, k2, k3⟩ := vx_keep h0 e1 hS hA hf hL hF
    obtain ⟨t2, a1, b1⟩ := kk r u t T'.heap (locs ++ L) e1.symm (by rw [← e2]; exact X'.warmed.alike) hp hb k1 k2 k3 T' rfl X'
    exact ⟨t2, st t2 a1, b1⟩
  · obtain ⟨k1, k2, k3⟩ := vx_keep h0 e1 hS hAX hf hL hF
    obtain ⟨t2, a1, b1⟩ := kx E ce q u t T'.heap (locs ++ L) e1.symm (by rw [← e2]; exact X'.warmed.alike) hp hb k1 k2 k3 (by rw [e1]; exact hce) hcv hcl T' rfl X'
    exact ⟨t2, st.trans a1, b1⟩
theorem vx_callf {S SX : Type} {post : UInt32 → S → Prop} {px : SX → Prop} {B : S → State → Prop} {BX : String → SX → State → Prop} {AX : Nat → Prop} (hr : vx_Run p l e R s m args below meth c H locs cells slots mc ms (F0 m pc ls st0) rest (va_Qf post B A1 a) (vx_X px BX AX) free) (hS : va_S A0 H0 H locs) (hA : ∀ q, q < H.size → A1 q → A0 q) (hf : ∀ q, free q → A0 q) (hAX : ∀ q, q < H.size → AX q → A0 q)
    (kx : ∀ (E : String) (ce : Cell) (q9 : Addr) (u : SX) (t : State) (H1 : Heap) (locs1 : List Loc), t.heap = H1 → s.vm.Alike t.vm → px u → BX E u t → H.size ≤ H1.size → (∀ q : Nat, q < H.size → ¬ AX q → H1[q]? = H[q]?) → va_S A0 H0 H1 locs1 → H1[q9]? = some ce → ce.vm = .none → s.vm.findClass E = some ce.cls → vx_W p l e R s m args below meth c H1 locs1 (cells + mc) (slots + ms) Q (F0 m pc ls rest) q9)
    (kk : ∀ (r : UInt32) (u : S) (t : State) (H1 : Heap) (locs1 : List Loc), t.heap = H1 → s.vm.Alike t.vm → post r u → B u t → H.size ≤ H1.size → (∀ q : Nat, q < H.size → ¬ A1 q → H1[q]? = H[q]?) → va_S A0 H0 H1 locs1 → W p l e R s m args below meth c H1 locs1 (cells + mc) (slots + ms) Q (F0 m (pc + 3) ls (.float r :: rest))) : W p l e R s m args below meth c H locs cells slots Q (F0 m pc ls st0) := by
  intro T hT X
  rcases hr T hT X with ⟨v, st₀, t, T', L, h0, X', hL, e1, e2, ⟨⟨r, u, hv, hp, hb⟩, hF⟩, st⟩ | ⟨q, st₀, t, T', L, E, ce, h0, X', hL, e1, e2, ⟨u, hp, hb, hF⟩, hce, hcv, hcl, st⟩
  · cases hv
    obtain ⟨k1, k2, k3⟩ := vx_keep h0 e1 hS hA hf hL hF
    obtain ⟨t2, a1, b1⟩ := kk r u t T'.heap (locs ++ L) e1.symm (by rw [← e2]; exact X'.warmed.alike) hp hb k1 k2 k3 T' rfl X'
    exact ⟨t2, st t2 a1, b1⟩
  · obtain ⟨k1, k2, k3⟩ := vx_keep h0 e1 hS hAX hf hL hF
    obtain ⟨t2, a1, b1⟩ := kx E ce q u t T'.heap (locs ++ L) e1.symm (by rw [← e2]; exact X'.warmed.alike) hp hb k1 k2 k3 (by rw [e1]; exact hce) hcv hcl T' rfl X'
    exact ⟨t2, st.trans a1, b1⟩
theorem vx_calld {S SX : Type} {post : UInt64 → S → Prop} {px : SX → Prop} {B : S → State → Prop} {BX : String → SX → State → Prop} {AX : Nat → Prop} (hr : vx_Run p l e R s m args below meth c H locs cells slots mc ms (F0 m pc ls st0) rest (va_Qd post B A1 a) (vx_X px BX AX) free) (hS : va_S A0 H0 H locs) (hA : ∀ q, q < H.size → A1 q → A0 q) (hf : ∀ q, free q → A0 q) (hAX : ∀ q, q < H.size → AX q → A0 q)
    (kx : ∀ (E : String) (ce : Cell) (q9 : Addr) (u : SX) (t : State) (H1 : Heap) (locs1 : List Loc), t.heap = H1 → s.vm.Alike t.vm → px u → BX E u t → H.size ≤ H1.size → (∀ q : Nat, q < H.size → ¬ AX q → H1[q]? = H[q]?) → va_S A0 H0 H1 locs1 → H1[q9]? = some ce → ce.vm = .none → s.vm.findClass E = some ce.cls → vx_W p l e R s m args below meth c H1 locs1 (cells + mc) (slots + ms) Q (F0 m pc ls rest) q9)
    (kk : ∀ (r : UInt64) (u : S) (t : State) (H1 : Heap) (locs1 : List Loc), t.heap = H1 → s.vm.Alike t.vm → post r u → B u t → H.size ≤ H1.size → (∀ q : Nat, q < H.size → ¬ A1 q → H1[q]? = H[q]?) → va_S A0 H0 H1 locs1 → W p l e R s m args below meth c H1 locs1 (cells + mc) (slots + ms) Q (F0 m (pc + 3) ls (.double r :: rest))) : W p l e R s m args below meth c H locs cells slots Q (F0 m pc ls st0) := by
  intro T hT X
  rcases hr T hT X with ⟨v, st₀, t, T', L, h0, X', hL, e1, e2, ⟨⟨r, u, hv, hp, hb⟩, hF⟩, st⟩ | ⟨q, st₀, t, T', L, E, ce, h0, X', hL, e1, e2, ⟨u, hp, hb, hF⟩, hce, hcv, hcl, st⟩
  · cases hv
    obtain ⟨k1, k2, k3⟩ := vx_keep h0 e1 hS hA hf hL hF
    obtain ⟨t2, a1, b1⟩ := kk r u t T'.heap (locs ++ L) e1.symm (by rw [← e2]; exact X'.warmed.alike) hp hb k1 k2 k3 T' rfl X'
    exact ⟨t2, st t2 a1, b1⟩
  · obtain ⟨k1, k2, k3⟩ := vx_keep h0 e1 hS hAX hf hL hF
    obtain ⟨t2, a1, b1⟩ := kx E ce q u t T'.heap (locs ++ L) e1.symm (by rw [← e2]; exact X'.warmed.alike) hp hb k1 k2 k3 (by rw [e1]; exact hce) hcv hcl T' rfl X'
    exact ⟨t2, st.trans a1, b1⟩
theorem vx_callv {S SX : Type} {post : S → Prop} {px : SX → Prop} {B : S → State → Prop} {BX : String → SX → State → Prop} {AX : Nat → Prop} (hr : vx_Run p l e R s m args below meth c H locs cells slots mc ms (F0 m pc ls st0) rest (va_Qv post B A1 a) (vx_X px BX AX) free) (hS : va_S A0 H0 H locs) (hA : ∀ q, q < H.size → A1 q → A0 q) (hf : ∀ q, free q → A0 q) (hAX : ∀ q, q < H.size → AX q → A0 q)
    (kx : ∀ (E : String) (ce : Cell) (q9 : Addr) (u : SX) (t : State) (H1 : Heap) (locs1 : List Loc), t.heap = H1 → s.vm.Alike t.vm → px u → BX E u t → H.size ≤ H1.size → (∀ q : Nat, q < H.size → ¬ AX q → H1[q]? = H[q]?) → va_S A0 H0 H1 locs1 → H1[q9]? = some ce → ce.vm = .none → s.vm.findClass E = some ce.cls → vx_W p l e R s m args below meth c H1 locs1 (cells + mc) (slots + ms) Q (F0 m pc ls rest) q9)
    (kk : ∀ (u : S) (t : State) (H1 : Heap) (locs1 : List Loc), t.heap = H1 → s.vm.Alike t.vm → post u → B u t → H.size ≤ H1.size → (∀ q : Nat, q < H.size → ¬ A1 q → H1[q]? = H[q]?) → va_S A0 H0 H1 locs1 → W p l e R s m args below meth c H1 locs1 (cells + mc) (slots + ms) Q (F0 m (pc + 3) ls (rest))) : W p l e R s m args below meth c H locs cells slots Q (F0 m pc ls st0) := by
  intro T hT X
  rcases hr T hT X with ⟨v, st₀, t, T', L, h0, X', hL, e1, e2, ⟨⟨u, hv, hp, hb⟩, hF⟩, st⟩ | ⟨q, st₀, t, T', L, E, ce, h0, X', hL, e1, e2, ⟨u, hp, hb, hF⟩, hce, hcv, hcl, st⟩
  · cases hv
    obtain ⟨k1, k2, k3⟩ := vx_keep h0 e1 hS hA hf hL hF
    obtain ⟨t2, a1, b1⟩ := kk u t T'.heap (locs ++ L) e1.symm (by rw [← e2]; exact X'.warmed.alike) hp hb k1 k2 k3 T' rfl X'
    exact ⟨t2, st t2 a1, b1⟩
  · obtain ⟨k1, k2, k3⟩ := vx_keep h0 e1 hS hAX hf hL hF
    obtain ⟨t2, a1, b1⟩ := kx E ce q u t T'.heap (locs ++ L) e1.symm (by rw [← e2]; exact X'.warmed.alike) hp hb k1 k2 k3 (by rw [e1]; exact hce) hcv hcl T' rfl X'
    exact ⟨t2, st.trans a1, b1⟩
/-- caught by the row x of this method's table; the rows ahead don't take it -/
theorem vx_catch {own name : String} {E : String} {ce : Cell} {q : Addr} (hown : s.vm.findClass own = some m.cls) (pre : List ExceptionTableEntry) (x : ExceptionTableEntry) (suf : List ExceptionTableEntry) (hsplit : c.exceptionTable.toList = pre ++ x :: suf)
    (hpass : ∀ z ∈ pre, covers z pc = false ∨ (z.catchType ≠ 0 ∧ ∃ nm : String, (Cond.classLink own z.catchType nm).before args s = true ∧ va_Nc E nm s)) (hx : covers x pc = true) (h0 : x.catchType ≠ 0)
    (hlink : (Cond.classLink own x.catchType name).before args s = true) (hcast : (Cond.castable E name).before args s = true) (hcell : H[q]? = some ce) (hv : ce.vm = .none) (hcl : s.vm.findClass E = some ce.cls)
    (kk : W p l e R s m args below meth c H locs cells slots Q (F0 m x.handlerPc ls [.ref q])) : vx_W p l e R s m args below meth c H locs cells slots Q (F0 m pc ls rest) q := by
  intro T hT X
  have hpl : e.platform.magicAccessors = ({} : Platform).magicAccessors := by rw [X.admits.platform]
  obtain ⟨c3, c4, hc3, hc4, hasg⟩ := Cond.castable_spec hcast
  cases Option.some.inj (hc3.symm.trans hcl)
  obtain ⟨c5, hc5, hcl5⟩ := Cond.classLink_spec hown hlink e.platform hpl
  cases Option.some.inj (hc4.symm.trans hc5)
  obtain ⟨vm', X', st⟩ := X.thenCaughtThrough q (g := F0 m pc ls rest) rfl (Steps.refl _) (by rw [hT]; exact hcell) (by rw [hv]; rfl) (by obtain ⟨k9, h9, -⟩ := Vm.findClass_spec hcl; exact ⟨k9, h9⟩) pre x suf hsplit
    (fun z hz => by
      rcases hpass z hz with h | ⟨hz0, nm, hl1, hn1⟩
      · exact Or.inl h
      · obtain ⟨c6, hc6, hcl6⟩ := Cond.classLink_spec hown hl1 e.platform hpl
        obtain ⟨a8, b8, h1, h2, h3⟩ := hn1
        cases Option.some.inj (h1.symm.trans hcl)
        cases Option.some.inj (h2.symm.trans hc6)
        exact Or.inr ⟨hz0, _, hcl6, h3⟩) hx (Or.inr ⟨h0, c4, hcl5, hasg⟩)
  obtain ⟨t, a1, b1⟩ := kk (T.setVm vm') hT X'
  exact ⟨t, st.trans a1, b1⟩
end Rows
section Ends
variable {p : Program} {l : Launch} {e : Env} {R : Room} {s : State} {m : MethodId} {args : Array Value} {below : List Frame} {meth : Method} {c : Code} {H : Heap} {locs : List Loc} {cells slots : Nat} {Q : State → Prop}
variable {mc ms : Nat} {free : Addr → Prop} {A0 A1 : Nat → Prop} {H0 : Heap} {a : Array Value} {ls : Array Slot} {st0 rest : List Value}
variable {Qc : Array Value → State → Outcome → State → Prop} {XC : String → State → State → Prop}
/-- what a body that may throw owes at its end -/
def vx_MQ (below : List Frame) (Qc : Array Value → State → Outcome → State → Prop) (XC : String → State → State → Prop) (a : Array Value) (s : State) (mc ms : Nat) (free : Addr → Prop) : State → Prop := fun t =>
  ∃ o, t.status = .running ∧ Ended t below o ∧ vx_Q Qc XC mc ms free a s o t
theorem vx_ret {g : JFrame} {mc ms : Nat} (k : W p l e R s m args below meth c H locs cells slots (MQ below Qc args s mc ms free) g) : W p l e R s m args below meth c H locs cells slots (vx_MQ below Qc XC args s mc ms free) g := by
  intro T hT X
  obtain ⟨t, a1, o, b1, b2, b3, b4⟩ := k T hT X
  exact ⟨t, a1, o, b1, b2, Or.inl ⟨b3, b4⟩⟩
/-- not caught here: it goes on to the caller -/
theorem vx_widen {g : JFrame} {q : Addr} {k n : Nat} (h1 : cells ≤ k) (h2 : slots ≤ n) (kk : vx_W p l e R s m args below meth c H locs k n Q g q) : vx_W p l e R s m args below meth c H locs cells slots Q g q := fun T hT X => kk T hT (stand_widen X h1 h2)
theorem vx_out {pc : Nat} {E : String} {ce : Cell} {q : Addr} {mc ms : Nat} (hout : ∀ x ∈ c.exceptionTable.toList, covers x pc = false) (hlocks : meth.locks = false) (hcell : H[q]? = some ce) (hv : ce.vm = .none) (hcl : s.vm.findClass E = some ce.cls)
    (hx : ∀ t : State, t.heap = H → s.vm.Alike t.vm → XC E s t) (hf : ∀ z ∈ locs, free z.base) (hc : cells ≤ mc) (hs : slots ≤ ms) :
    vx_W p l e R s m args below meth c H locs cells slots (vx_MQ below Qc XC args s mc ms free) (F0 m pc ls rest) q := by
  intro T hT X
  obtain ⟨st1, hrun, hend, hW, hsm⟩ := X.leaveThrown q (g := F0 m pc ls rest) rfl rfl rfl hout hlocks
  have hcell9 : (T.setFrames (.throwing q :: below)).heap[q]? = some ce := by
    show T.heap[q]? = some ce
    rw [hT]; exact hcell
  exact ⟨_, st1, .threw q, hrun, hend, Or.inr ⟨q, rfl, E, ce, locs, hx _ hT hW.alike, hcell9, hv, hcl, hW, hsm.mono hc hs, hf⟩⟩
theorem vx_frame {U : State} {k n : Nat} (h : s.sameButNew ({ U with vm := s.vm } : State) locs k n) : s.heap.size ≤ U.heap.size ∧ ∀ q : Nat, q < s.heap.size → (∀ z ∈ locs, z.base ≠ q) → U.heap[q]? = s.heap[q]? := by
  obtain ⟨-, h2, -, -, -, h6⟩ := h
  refine ⟨h2, fun q hq hz => ?_⟩
  obtain ⟨c9, e1, e2, e3, e4⟩ := h6 q _ (Array.getElem?_eq_getElem hq)
  have hs : c9.slots = (s.heap[q]).slots := Array.ext_getElem? fun i => e4 i fun hm => hz _ hm rfl
  have h9 : c9 = s.heap[q] := by
    rw [hs] at e2
    exact e2
  have e5 : U.heap[q]? = some c9 := e1
  rw [e5, h9, Array.getElem?_eq_getElem hq]
/-- the words of a throw but the four that speak of the heap -/
def vx_no (w : Cond) : Bool := decide (w ≠ .isRef (.static Bundle.tN "UNASSIGNED_STACK" Bundle.steD)) && decide (w ≠ .isRef (.static Bundle.tN "SUPPRESSED_SENTINEL" Bundle.listD)) && decide (w ≠ .laysStatic Bundle.tN "UNASSIGNED_STACK" Bundle.steD) && decide (w ≠ .laysStatic Bundle.tN "SUPPRESSED_SENTINEL" Bundle.listD)
def vx_at0 (own : String) (ic : Nat) (X : String) (names : List String) : List Cond := (Bundle.ownAtoms0 own ic X names).filter vx_no
def vx_atS (own : String) (ic : Nat) (X : String) (names : List String) : List Cond := (Bundle.ownAtoms own ic X names).filter vx_no
/-- a word that the tables alone decide, or a good one -/
def vx_ot (w : Cond) : Bool := w.onTables || goodWord w
theorem vx_ot_at {args a' : Array Value} {s U : State} {w : Cond} (hW : s.WarmedH U.vm) (hvm : s.vm = U.vm) (hg : vx_ot w = true) (h : w.before args s = true) : w.before a' U = true := by
  simp only [vx_ot, Bool.or_eq_true] at hg
  rcases hg with hg | hg
  · exact va_tabs hg hvm h
  · exact word_at hW (good_of_word hg) h
/-- a list's words: the good ones out of the method's own list, the others by premises of their own -/
theorem vx_hat {args : Array Value} {s : State} {L B : List Cond} (h1 : ∀ w ∈ L.filter goodWord, w.before args s = true) (h2 : ∀ w ∈ L.filter (fun w => !goodWord w), w ∈ B) (h3 : ∀ w ∈ B, w.before args s = true) : ∀ w ∈ L, w.before args s = true := by
  intro w hw
  by_cases g : goodWord w = true
  · exact h1 w (List.mem_filter.mpr ⟨hw, g⟩)
  · refine h3 w (h2 w (List.mem_filter.mpr ⟨hw, ?_⟩))
    show (!goodWord w) = true
    cases hgw : goodWord w
    · rfl
    · exact absurd hgw g
theorem vx_c {args : Array Value} {s : State} {w : Cond} {B : List Cond} (h : w.before args s = true) (t : ∀ w ∈ B, w.before args s = true) : ∀ w' ∈ w :: B, w'.before args s = true := fun w' h' => (List.mem_cons.mp h').elim (fun e => by rw [e]; exact h) (t w')
theorem vx_n {args : Array Value} {s : State} : ∀ w ∈ ([] : List Cond), w.before args s = true := fun _ h => nomatch h
theorem vx_own {args : Array Value} {s : State} {L : List Cond} (h1 : ∀ w ∈ L.filter vx_no, w.before args s = true)
    (hU : (Cond.isRef (.static Bundle.tN "UNASSIGNED_STACK" Bundle.steD)).before args s = true) (hN : (Cond.isRef (.static Bundle.tN "SUPPRESSED_SENTINEL" Bundle.listD)).before args s = true)
    (lU : (Cond.laysStatic Bundle.tN "UNASSIGNED_STACK" Bundle.steD).before args s = true) (lN : (Cond.laysStatic Bundle.tN "SUPPRESSED_SENTINEL" Bundle.listD).before args s = true) : ∀ w ∈ L, w.before args s = true := by
  intro w hw
  by_cases e1 : w = .isRef (.static Bundle.tN "UNASSIGNED_STACK" Bundle.steD)
  · rw [e1]; exact hU
  · by_cases e2 : w = .isRef (.static Bundle.tN "SUPPRESSED_SENTINEL" Bundle.listD)
    · rw [e2]; exact hN
    · by_cases e3 : w = .laysStatic Bundle.tN "UNASSIGNED_STACK" Bundle.steD
      · rw [e3]; exact lU
      · by_cases e4 : w = .laysStatic Bundle.tN "SUPPRESSED_SENTINEL" Bundle.listD
        · rw [e4]; exact lN
        · exact h1 w (List.mem_filter.mpr ⟨hw, by unfold vx_no; rw [decide_eq_true e1, decide_eq_true e2, decide_eq_true e3, decide_eq_true e4]; rfl⟩)
/-- where a static field lies, its class's statics cell in H -/
def vx_L (C n d : String) (A : Nat → Prop) (U : State) (H : Heap) : Prop := ∃ (c : ClassId) (k : Class) (i : Nat) (f : Field) (a : Nat) (cell : Cell), U.vm.findClass C = some c ∧ U.fieldFound? C n d = some (c, k, i, f) ∧ f.isStatic = true ∧ k.statics = some a ∧ H[a]? = some cell ∧ cell.vm.isStatics = true ∧ cell.cls = c ∧ f.slot < cell.slots.size ∧ k.staticTypes[f.slot]? = some f.type ∧ ¬ A a
theorem vx_L.moved {C n d : String} {A : Nat → Prop} {u U : State} {H : Heap} (hvm : u.vm.Alike U.vm) (h : vx_L C n d A u H) : vx_L C n d A U H := by
  obtain ⟨c, k, i, f, a, cell, h1, h2, h3, h4, h5, h6, h7, h8, h9, h10⟩ := h
  obtain ⟨k', hi', he⟩ := State.fieldFound?_setVm hvm h2
  exact ⟨c, k', i, f, a, cell, by rw [hvm.findClass]; exact h1, hi', h3, by rw [he]; exact h4, h5, h6, h7, h8, by rw [he]; exact h9, h10⟩
theorem vx_L.kept {C n d : String} {A : Nat → Prop} {U : State} {H H1 : Heap} (h : vx_L C n d A U H) (hq : ∀ a : Nat, a < H.size → ¬ A a → H1[a]? = H[a]?) : vx_L C n d A U H1 := by
  obtain ⟨c, k, i, f, a, cell, h1, h2, h3, h4, h5, h6, h7, h8, h9, h10⟩ := h
  exact ⟨c, k, i, f, a, cell, h1, h2, h3, h4, by rw [hq a (Array.getElem?_eq_some_iff.mp h5).1 h10]; exact h5, h6, h7, h8, h9, h10⟩
theorem vx_L.narrow {C n d : String} {A B : Nat → Prop} {U : State} {H : Heap} (h : vx_L C n d A U H) (hAB : ∀ q, B q → A q) : vx_L C n d B U H := by
  obtain ⟨c, k, i, f, a, cell, h1, h2, h3, h4, h5, h6, h7, h8, h9, h10⟩ := h
  exact ⟨c, k, i, f, a, cell, h1, h2, h3, h4, h5, h6, h7, h8, h9, fun z => h10 (hAB _ z)⟩
theorem vx_L.word {C n d : String} {A : Nat → Prop} {s : State} {args : Array Value} (h : vx_L C n d A s s.heap) : (Cond.laysStatic C n d).before args s = true := by
  obtain ⟨c, k, i, f, a, cell, h1, h2, h3, h4, h5, h6, h7, h8, h9, -⟩ := h
  show (Cond.laysStatic C n d).holds args s none s [] = true
  exact Cond.laysStatic_of h1 h2 h3 h4 h5 h6 h7 h8 h9
/-- .. and what it holds: null or some reference -/
def vx_Zq (C n d : String) (A : Nat → Prop) (U : State) (H : Heap) : Prop := va_Zq C n d A U H ∧ vx_L C n d A U H
theorem vx_Zq.moved {C n d : String} {A : Nat → Prop} {u U : State} {H : Heap} (hvm : u.vm.Alike U.vm) (h : vx_Zq C n d A u H) : vx_Zq C n d A U H := ⟨va_Zq.moved hvm h.1, vx_L.moved hvm h.2⟩
theorem vx_Zq.kept {C n d : String} {A : Nat → Prop} {U : State} {H H1 : Heap} (h : vx_Zq C n d A U H) (hq : ∀ a : Nat, a < H.size → ¬ A a → H1[a]? = H[a]?) : vx_Zq C n d A U H1 := ⟨va_Zq.kept h.1 hq, vx_L.kept h.2 hq⟩
theorem vx_Zq.narrow {C n d : String} {A B : Nat → Prop} {U : State} {H : Heap} (h : vx_Zq C n d A U H) (hAB : ∀ q, B q → A q) : vx_Zq C n d B U H := ⟨va_Zq.narrow h.1 hAB, vx_L.narrow h.2 hAB⟩
theorem vx_Zqof {args : Array Value} {s : State} {C n d : String} {A : Nat → Prop} (hl : (Cond.laysStatic C n d).before args s = true) (hini : (Cond.initialized C).before args s = true) (h : (Cond.isRef (.static C n d)).before args s = true) (hA : ∀ a : Nat, a < s.heap.size → ¬ A a) : vx_Zq C n d A s s.heap := by
  refine ⟨va_Zqof hl hini h hA, ?_⟩
  obtain ⟨c, k, i, f, a, cell, h1, h2, h3, h4, h5, h6, h7, h8, h9⟩ := Cond.laysStatic_spec hl
  exact ⟨c, k, i, f, a, cell, h1, h2, h3, h4, h5, h6, h7, h8, h9, hA a (Array.getElem?_eq_some_iff.mp h5).1⟩
theorem vx_isRef {C n d : String} {v : Value} {A : Nat → Prop} {s : State} {args : Array Value} (h : va_Z C n d v A s s.heap) (hv : v.isRef = true) : (Cond.isRef (.static C n d)).before args s = true := by
  obtain ⟨cf, kf, fi, f, a, cell, h1, h2, h3, h4, h5, h6, h7, -⟩ := h
  have he : (Term.static C n d).eval args s none [] s = some v := by
    simp [Term.eval, State.fieldNamed?, h1, h2, h4, h5, h6, h7]
  simp only [Cond.before, Cond.holds, Cond.value, he]
  cases v <;> simp_all [Value.isRef]
theorem vx_isRefq {C n d : String} {A : Nat → Prop} {s : State} {args : Array Value} (h : va_Zq C n d A s s.heap) : (Cond.isRef (.static C n d)).before args s = true := by
  rcases h with h | ⟨t, h⟩
  · exact vx_isRef h rfl
  · exact vx_isRef h rfl
/-- the same frame, seen from here: as if the method were called anew in this heap -/
theorem vx_rebase {T : State} (X : Stand p l e R s m args below meth c T locs cells slots) {R' : Room} (hf : R'.frames ≤ R.frames) (hl : R'.locals ≤ R.locals) (hc : cells + R'.cells ≤ R.cells) (hs : slots + R'.slots ≤ R.slots) :
    Stand p l e R' ((T.setVm s.vm).setFrames (.invoking m args :: below)) m args below meth c T [] 0 0 := by
  have htop : (T.setVm s.vm).topJava?.isSome := X.here.top
  have hF : ((T.setVm s.vm).setFrames (.invoking m args :: below)).frames = .invoking m args :: below := State.frames_setFrames _ (State.cur_lt_of_top htop)
  obtain ⟨g₀, hg0⟩ := Option.isSome_iff_exists.mp htop
  obtain ⟨r, hr⟩ := State.topJava?_eq_some.mp hg0
  have hl9 : e.platform.stackLimits (T.setVm s.vm).me = e.platform.stackLimits s.me := X.limits
  have hb9 : (T.setVm s.vm).me.stackBytes = s.me.stackBytes := X.bytes
  refine ⟨X.admits, X.cas, X.clock, hF, ?_, X.hears, X.method, X.code, X.here, X.tail, X.warmed, ?_, ?_, ?_⟩
  · have h := X.room
    have hU : ((T.setVm s.vm).setFrames (.invoking m args :: below)).localsInUse = s.localsInUse := by
      rw [State.localsInUse_invoking hF (meth := meth) (c := c) X.method X.code, State.localsInUse_invoking X.frames X.method X.code]
    simp only [State.hasRoom, Bool.and_eq_true, decide_eq_true_eq] at h ⊢
    obtain ⟨⟨⟨⟨h1, h2, h3, h4, h5, h6⟩, h7⟩, h8⟩, h9⟩ := h
    rw [X.frames, List.length_cons] at h2 h3
    have q1 := X.heapSize
    have q2 := X.used
    simp only [hF, hU, List.length_cons, State.stackLimits_setFrames, State.stackBytes_setFrames, hl9, hb9]
    refine ⟨⟨⟨⟨by omega, by omega, by omega, by omega, by omega, h6⟩, ?_⟩, ?_⟩, X.book⟩
    · show T.heap.size + R'.cells ≤ e.platform.maxCells
      omega
    · show T.slotsUsed + R'.slots ≤ e.platform.maxSlots
      omega
  · rw [State.stackLimits_setFrames]; rfl
  · rw [State.stackBytes_setFrames]; rfl
  · refine ⟨?_, Nat.le_refl _, Nat.le_refl _, ?_, ?_, fun a c9 h9 => ⟨c9, h9, rfl, rfl, fun _ _ => rfl⟩⟩
    · obtain ⟨t, ht, -⟩ := State.frames_cons hr
      show T.setVm s.vm = { ((T.setVm s.vm).setFrames (.invoking m args :: below)).setFrames (T.setVm s.vm).frames with heap := T.heap, slotsUsed := T.slotsUsed }
      rw [State.setFrames_setFrames, State.setFrames_self ht]
      rfl
    · show T.slotsUsed = T.slotsUsed + ((T.heap.toList.drop T.heap.size).map (·.slots.size)).sum
      rw [List.drop_eq_nil_of_le (Nat.le_of_eq Array.length_toList)]
      rfl
    · show ((T.heap.toList.drop T.heap.size).map (·.slots.size)).sum ≤ 0
      rw [List.drop_eq_nil_of_le (Nat.le_of_eq Array.length_toList)]
      exact Nat.le_refl _
/-- 'throw new E()': new; dup; invokespecial; athrow -/
theorem vx_throw0 {cc : ByteArray} {pc : Nat} (hexec : p.tables.exec = Jvm.exec) (hb : c.code = cc) (hl : l.stackTraces = false) {own cls : String} {names : List String} {ik ic mc ms : Nat} {A : Nat → Prop}
    (hown : s.vm.findClass own = some m.cls) (hcls : Bundle.fit cls = true) (hnames : ∀ n ∈ names, Bundle.fit n = true)
    (hk : (Cond.classLink own ik cls).before args s = true) (hini : (Cond.initialized cls).before args s = true) (hat : ∀ w ∈ vx_at0 own ic cls names, w.before args s = true)
    (hgood : ∀ w ∈ Cond.classLink own ik cls :: Cond.initialized cls :: vx_at0 own ic cls names, vx_ot w = true)
    (hU : vx_Zq Bundle.tN "UNASSIGNED_STACK" Bundle.steD A s s.heap) (hN : vx_Zq Bundle.tN "SUPPRESSED_SENTINEL" Bundle.listD A s s.heap) (hS : va_S A s.heap H locs) (hsize : ls.size = c.maxLocals)
    (d0 : decode cc pc = .ok (.new ik, 3)) (d3 : decode cc (pc + 3) = .ok (.dup, 1)) (d4 : decode cc (pc + 4) = .ok (.invokespecial ic, 3)) (d7 : decode cc (pc + 7) = .ok (.athrow, 1))
    (hout : ∀ x ∈ c.exceptionTable.toList, covers x (pc + 7) = false)
    (hRframes : names.length + 3 < R.frames) (hRlocals : (rest.map fun v => v.category).sum + (13 * (names.length + 1) + 42) ≤ R.locals) (hRcells : cells + 1 ≤ R.cells) (hRslots : slots + 6 ≤ R.slots) (hlocks : meth.locks = false)
    (hx : ∀ t : State, s.vm.Alike t.vm → H.size ≤ t.heap.size → (∀ q : Nat, q < H.size → t.heap[q]? = H[q]?) → XC cls s t)
    (hf : ∀ z ∈ locs, free z.base) (hc : cells + 1 ≤ mc) (hs : slots + 6 ≤ ms) :
    W p l e R s m args below meth c H locs cells slots (vx_MQ below Qc XC args s mc ms free) (F0 m pc ls rest) := by
  intro T hT X
  have htr : e.platform.stackTraces = false := (show e.platform.stackTraces = l.stackTraces by rw [X.admits.platform]).trans hl
  have Y := vx_rebase X (R' := { frames := R.frames, locals := R.locals, cells := 1, slots := 6 }) (Nat.le_refl _) (Nat.le_refl _) hRcells hRslots
  obtain ⟨s', hA⟩ : ∃ z, z = (T.setVm s.vm).setFrames (.invoking m args :: below) := ⟨_, rfl⟩
  rw [← hA] at Y
  have hvm : s'.vm = s.vm := by rw [hA]; rfl
  have hhp : s'.heap = H := by rw [hA]; exact hT
  have hW0 : s.WarmedH s'.vm := by rw [hvm]; exact State.WarmedH.refl s
  have hat' : ∀ w ∈ vx_at0 own ic cls names, w.before args s' = true := fun w hw => vx_ot_at hW0 hvm.symm (hgood w (List.mem_cons_of_mem _ (List.mem_cons_of_mem _ hw))) (hat w hw)
  have hk' : (Cond.classLink own ik cls).before args s' = true := vx_ot_at hW0 hvm.symm (hgood _ List.mem_cons_self) hk
  have hini' : (Cond.initialized cls).before args s' = true := vx_ot_at hW0 hvm.symm (hgood _ (List.mem_cons_of_mem _ List.mem_cons_self)) hini
  have hU' : vx_Zq Bundle.tN "UNASSIGNED_STACK" Bundle.steD A s' s'.heap := by rw [hhp]; exact vx_Zq.moved hW0.alike (hU.kept hS.2.1)
  have hN' : vx_Zq Bundle.tN "SUPPRESSED_SENTINEL" Bundle.listD A s' s'.heap := by rw [hhp]; exact vx_Zq.moved hW0.alike (hN.kept hS.2.1)
  have h : ∀ w ∈ Bundle.ownAtoms0 own ic cls names, w.before args s' = true := vx_own hat' (vx_isRefq hU'.1) (vx_isRefq hN'.1) hU'.2.word hN'.2.word
  have hown' : s'.vm.findClass own = some m.cls := by rw [hvm]; exact hown
  have hins : (Cond.instantiable cls 6).before args s' = true := h _ (by simp [Bundle.ownAtoms0])
  obtain ⟨vm₁, cX, kX, hfX, hkX, -, -, X₁, st1⟩ := Y.newCold hexec (own := own) (C := cls) (index := ik) (n := 6) hown' hk' hins hini'
    (g := F0 m pc ls rest) rfl (by rw [hb]; exact d0) (Nat.le_refl _) (Nat.le_refl _)
  generalize hT1 : (T.setVm vm₁).pushCell { cls := cX, slots := kX.instanceTypes.map defaultValue, vm := .none } = T1 at X₁ st1
  have hcat : (Value.ref T.heap.size).category = 1 := rfl
  have hcellA : T1.heap[T.heap.size]? = some (freshCell cX kX) := by rw [← hT1]; exact State.heap_pushCell_size _ _
  have d3' : decode c.code (pc + 3) = .ok (.dup, 1) := by rw [hb]; exact d3
  obtain ⟨U, hsteps, hrun, hend, hW, hsame, ce, hce, hO⟩ := X₁.ctorThrow0 hexec htr (own := own) (cls := cls) (names := names) (ic := ic) hown' hcls hnames h (fun x hx => nomatch hx) hfX hkX hcellA (by rw [hhp, hT]; exact Nat.le_refl _)
    (g := { method := m, pc := pc + 4, locals := ls, stack := .ref T.heap.size :: .ref T.heap.size :: rest, locked := none }) rfl hsize rfl rfl (rest := rest) rfl
    (by rw [hb]; exact d4) (by rw [hb]; exact d7) hout hRframes (by simp only [List.map_cons, List.sum_cons, hcat]; omega) hlocks
  obtain ⟨f1, f2⟩ := vx_frame hsame
  rw [hhp] at f1 f2
  have hWs : s.WarmedH U.vm := State.WarmedH.trans hW0 hW
  have hcl : s.vm.findClass cls = some ce.cls := by
    have h9 := hO.cls
    rw [hvm] at h9
    exact h9
  have hall : s.sameButNew ({ U with vm := s.vm } : State) locs mc ms := by
    subst hA
    obtain ⟨e1, e2⟩ := hsame
    rw [State.setFrames_setFrames] at e1
    have h2 : (T.setVm s.vm).sameButNew ({ U with vm := s.vm } : State) [] (0 + 1) (0 + 6) := ⟨e1, e2⟩
    have h3 := X.same.trans h2
    rw [List.append_nil] at h3
    exact h3.mono hc hs
  refine ⟨U, ?_, .threw T.heap.size, hrun, hend, Or.inr ⟨T.heap.size, rfl, cls, ce, locs, hx U hWs.alike f1 (fun q hq => f2 q hq (fun z hz => nomatch hz)), hce, hO.vm, hcl, hWs, hall, hf⟩⟩
  refine st1 _ ?_
  show Steps p.tables e below (T1.setTop { method := m, pc := pc + 3, locals := ls, stack := .ref T.heap.size :: rest, locked := none }) _
  jvm_step X₁.here [X₁.here.top, hexec, d3', Value.category]
  exact hsteps
/-- 'throw new E("text")': new; dup; ldc; invokespecial; athrow -/
theorem vx_throwS {cc : ByteArray} {pc : Nat} (hexec : p.tables.exec = Jvm.exec) (hb : c.code = cc) (hl : l.stackTraces = false) {own cls text : String} {names : List String} {ik is ic mc ms sa : Nat} {A : Nat → Prop}
    (hown : s.vm.findClass own = some m.cls) (hcls : Bundle.fit cls = true) (hnames : ∀ n ∈ names, Bundle.fit n = true)
    (hk : (Cond.classLink own ik cls).before args s = true) (hini : (Cond.initialized cls).before args s = true) (hstr : vk_R own is text sa s) (hat : ∀ w ∈ vx_atS own ic cls names, w.before args s = true)
    (hgood : ∀ w ∈ Cond.classLink own ik cls :: Cond.initialized cls :: vx_atS own ic cls names, vx_ot w = true)
    (hU : vx_Zq Bundle.tN "UNASSIGNED_STACK" Bundle.steD A s s.heap) (hN : vx_Zq Bundle.tN "SUPPRESSED_SENTINEL" Bundle.listD A s s.heap) (hS : va_S A s.heap H locs) (hsize : ls.size = c.maxLocals)
    (d0 : decode cc pc = .ok (.new ik, 3)) (d3 : decode cc (pc + 3) = .ok (.dup, 1)) (d4 : decode cc (pc + 4) = .ok (.ldc is, 2)) (d6 : decode cc (pc + 6) = .ok (.invokespecial ic, 3)) (d9 : decode cc (pc + 9) = .ok (.athrow, 1))
    (hout : ∀ x ∈ c.exceptionTable.toList, covers x (pc + 9) = false)
    (hRframes : names.length + 3 < R.frames) (hRlocals : (rest.map fun v => v.category).sum + (13 * (names.length + 1) + 43) ≤ R.locals) (hRcells : cells + 1 ≤ R.cells) (hRslots : slots + 6 ≤ R.slots) (hlocks : meth.locks = false)
    (hx : ∀ t : State, s.vm.Alike t.vm → H.size ≤ t.heap.size → (∀ q : Nat, q < H.size → t.heap[q]? = H[q]?) → XC cls s t)
    (hf : ∀ z ∈ locs, free z.base) (hc : cells + 1 ≤ mc) (hs : slots + 6 ≤ ms) :
    W p l e R s m args below meth c H locs cells slots (vx_MQ below Qc XC args s mc ms free) (F0 m pc ls rest) := by
  intro T hT X
  have htr : e.platform.stackTraces = false := (show e.platform.stackTraces = l.stackTraces by rw [X.admits.platform]).trans hl
  have Y := vx_rebase X (R' := { frames := R.frames, locals := R.locals, cells := 1, slots := 6 }) (Nat.le_refl _) (Nat.le_refl _) hRcells hRslots
  obtain ⟨s', hA⟩ : ∃ z, z = (T.setVm s.vm).setFrames (.invoking m args :: below) := ⟨_, rfl⟩
  rw [← hA] at Y
  have hvm : s'.vm = s.vm := by rw [hA]; rfl
  have hhp : s'.heap = H := by rw [hA]; exact hT
  have hW0 : s.WarmedH s'.vm := by rw [hvm]; exact State.WarmedH.refl s
  have hat' : ∀ w ∈ vx_atS own ic cls names, w.before args s' = true := fun w hw => vx_ot_at hW0 hvm.symm (hgood w (List.mem_cons_of_mem _ (List.mem_cons_of_mem _ hw))) (hat w hw)
  have hk' : (Cond.classLink own ik cls).before args s' = true := vx_ot_at hW0 hvm.symm (hgood _ List.mem_cons_self) hk
  have hini' : (Cond.initialized cls).before args s' = true := vx_ot_at hW0 hvm.symm (hgood _ (List.mem_cons_of_mem _ List.mem_cons_self)) hini
  have hU' : vx_Zq Bundle.tN "UNASSIGNED_STACK" Bundle.steD A s' s'.heap := by rw [hhp]; exact vx_Zq.moved hW0.alike (hU.kept hS.2.1)
  have hN' : vx_Zq Bundle.tN "SUPPRESSED_SENTINEL" Bundle.listD A s' s'.heap := by rw [hhp]; exact vx_Zq.moved hW0.alike (hN.kept hS.2.1)
  have h : ∀ w ∈ Bundle.ownAtoms own ic cls names, w.before args s' = true := vx_own hat' (vx_isRefq hU'.1) (vx_isRefq hN'.1) hU'.2.word hN'.2.word
  have hown' : s'.vm.findClass own = some m.cls := by rw [hvm]; exact hown
  have hins : (Cond.instantiable cls 6).before args s' = true := h _ (by simp [Bundle.ownAtoms])
  obtain ⟨vm₁, cX, kX, hfX, hkX, -, -, X₁, st1⟩ := Y.newCold hexec (own := own) (C := cls) (index := ik) (n := 6) hown' hk' hins hini'
    (g := F0 m pc ls rest) rfl (by rw [hb]; exact d0) (Nat.le_refl _) (Nat.le_refl _)
  generalize hT1 : (T.setVm vm₁).pushCell { cls := cX, slots := kX.instanceTypes.map defaultValue, vm := .none } = T1 at X₁ st1
  have hcat : (Value.ref T.heap.size).category = 1 := rfl
  have hcellA : T1.heap[T.heap.size]? = some (freshCell cX kX) := by rw [← hT1]; exact State.heap_pushCell_size _ _
  have d3' : decode c.code (pc + 3) = .ok (.dup, 1) := by rw [hb]; exact d3
  have d4' : decode c.code (pc + 4) = .ok (.ldc is, 2) := by rw [hb]; exact d4
  have hstr' : vk_R own is text sa s' := vk_R.warm hW0 hstr
  obtain ⟨U, hsteps, hrun, hend, hW, hsame, ce, hce, hO⟩ := X₁.ctorThrowS hexec htr (own := own) (cls := cls) (names := names) (ic := ic) hown' hcls hnames h (fun x hx => nomatch hx) hfX hkX hcellA (by rw [hhp, hT]; exact Nat.le_refl _) (msg := .ref sa) rfl
    (g := { method := m, pc := pc + 6, locals := ls, stack := .ref sa :: .ref T.heap.size :: .ref T.heap.size :: rest, locked := none }) rfl hsize rfl rfl (rest := rest) rfl
    (by rw [hb]; exact d6) (by rw [hb]; exact d9) hout hRframes (by simp only [List.map_cons, List.sum_cons, hcat]; omega) hlocks
  obtain ⟨f1, f2⟩ := vx_frame hsame
  rw [hhp] at f1 f2
  have hWs : s.WarmedH U.vm := State.WarmedH.trans hW0 hW
  have hcl : s.vm.findClass cls = some ce.cls := by
    have h9 := hO.cls
    rw [hvm] at h9
    exact h9
  have hall : s.sameButNew ({ U with vm := s.vm } : State) locs mc ms := by
    subst hA
    obtain ⟨e1, e2⟩ := hsame
    rw [State.setFrames_setFrames] at e1
    have h2 : (T.setVm s.vm).sameButNew ({ U with vm := s.vm } : State) [] (0 + 1) (0 + 6) := ⟨e1, e2⟩
    have h3 := X.same.trans h2
    rw [List.append_nil] at h3
    exact h3.mono hc hs
  refine ⟨U, ?_, .threw T.heap.size, hrun, hend, Or.inr ⟨T.heap.size, rfl, cls, ce, locs, hx U hWs.alike f1 (fun q hq => f2 q hq (fun z hz => nomatch hz)), hce, hO.vm, hcl, hWs, hall, hf⟩⟩
  refine st1 _ ?_
  show Steps p.tables e below (T1.setTop { method := m, pc := pc + 3, locals := ls, stack := .ref T.heap.size :: rest, locked := none }) _
  jvm_step X₁.here [X₁.here.top, hexec, d3', Value.category]
  exact X₁.ldcString hexec (own := own) (text := text) (index := is) (a := sa) hown' hstr'.1 hstr'.2
    (g := { method := m, pc := pc + 4, locals := ls, stack := .ref T.heap.size :: .ref T.heap.size :: rest, locked := none }) rfl d4' _ hsteps
/-- 'throw new E("text")', the text by a wide index -/
theorem vx_throwSW {cc : ByteArray} {pc : Nat} (hexec : p.tables.exec = Jvm.exec) (hb : c.code = cc) (hl : l.stackTraces = false) {own cls text : String} {names : List String} {ik is ic mc ms sa : Nat} {A : Nat → Prop}
    (hown : s.vm.findClass own = some m.cls) (hcls : Bundle.fit cls = true) (hnames : ∀ n ∈ names, Bundle.fit n = true)
    (hk : (Cond.classLink own ik cls).before args s = true) (hini : (Cond.initialized cls).before args s = true) (hstr : vk_R own is text sa s) (hat : ∀ w ∈ vx_atS own ic cls names, w.before args s = true)
    (hgood : ∀ w ∈ Cond.classLink own ik cls :: Cond.initialized cls :: vx_atS own ic cls names, vx_ot w = true)
    (hU : vx_Zq Bundle.tN "UNASSIGNED_STACK" Bundle.steD A s s.heap) (hN : vx_Zq Bundle.tN "SUPPRESSED_SENTINEL" Bundle.listD A s s.heap) (hS : va_S A s.heap H locs) (hsize : ls.size = c.maxLocals)
    (d0 : decode cc pc = .ok (.new ik, 3)) (d3 : decode cc (pc + 3) = .ok (.dup, 1)) (d4 : decode cc (pc + 4) = .ok (.ldc_w is, 3)) (d7 : decode cc (pc + 7) = .ok (.invokespecial ic, 3)) (d10 : decode cc (pc + 10) = .ok (.athrow, 1))
    (hout : ∀ x ∈ c.exceptionTable.toList, covers x (pc + 10) = false)
    (hRframes : names.length + 3 < R.frames) (hRlocals : (rest.map fun v => v.category).sum + (13 * (names.length + 1) + 43) ≤ R.locals) (hRcells : cells + 1 ≤ R.cells) (hRslots : slots + 6 ≤ R.slots) (hlocks : meth.locks = false)
    (hx : ∀ t : State, s.vm.Alike t.vm → H.size ≤ t.heap.size → (∀ q : Nat, q < H.size → t.heap[q]? = H[q]?) → XC cls s t)
    (hf : ∀ z ∈ locs, free z.base) (hc : cells + 1 ≤ mc) (hs : slots + 6 ≤ ms) :
    W p l e R s m args below meth c H locs cells slots (vx_MQ below Qc XC args s mc ms free) (F0 m pc ls rest) := by
  intro T hT X
  have htr : e.platform.stackTraces = false := (show e.platform.stackTraces = l.stackTraces by rw [X.admits.platform]).trans hl
  have Y := vx_rebase X (R' := { frames := R.frames, locals := R.locals, cells := 1, slots := 6 }) (Nat.le_refl _) (Nat.le_refl _) hRcells hRslots
  obtain ⟨s', hA⟩ : ∃ z, z = (T.setVm s.vm).setFrames (.invoking m args :: below) := ⟨_, rfl⟩
  rw [← hA] at Y
  have hvm : s'.vm = s.vm := by rw [hA]; rfl
  have hhp : s'.heap = H := by rw [hA]; exact hT
  have hW0 : s.WarmedH s'.vm := by rw [hvm]; exact State.WarmedH.refl s
  have hat' : ∀ w ∈ vx_atS own ic cls names, w.before args s' = true := fun w hw => vx_ot_at hW0 hvm.symm (hgood w (List.mem_cons_of_mem _ (List.mem_cons_of_mem _ hw))) (hat w hw)
  have hk' : (Cond.classLink own ik cls).before args s' = true := vx_ot_at hW0 hvm.symm (hgood _ List.mem_cons_self) hk
  have hini' : (Cond.initialized cls).before args s' = true := vx_ot_at hW0 hvm.symm (hgood _ (List.mem_cons_of_mem _ List.mem_cons_self)) hini
  have hU' : vx_Zq Bundle.tN "UNASSIGNED_STACK" Bundle.steD A s' s'.heap := by rw [hhp]; exact vx_Zq.moved hW0.alike (hU.kept hS.2.1)
  have hN' : vx_Zq Bundle.tN "SUPPRESSED_SENTINEL" Bundle.listD A s' s'.heap := by rw [hhp]; exact vx_Zq.moved hW0.alike (hN.kept hS.2.1)
  have h : ∀ w ∈ Bundle.ownAtoms own ic cls names, w.before args s' = true := vx_own hat' (vx_isRefq hU'.1) (vx_isRefq hN'.1) hU'.2.word hN'.2.word
  have hown' : s'.vm.findClass own = some m.cls := by rw [hvm]; exact hown
  have hins : (Cond.instantiable cls 6).before args s' = true := h _ (by simp [Bundle.ownAtoms])
  obtain ⟨vm₁, cX, kX, hfX, hkX, -, -, X₁, st1⟩ := Y.newCold hexec (own := own) (C := cls) (index := ik) (n := 6) hown' hk' hins hini'
    (g := F0 m pc ls rest) rfl (by rw [hb]; exact d0) (Nat.le_refl _) (Nat.le_refl _)
  generalize hT1 : (T.setVm vm₁).pushCell { cls := cX, slots := kX.instanceTypes.map defaultValue, vm := .none } = T1 at X₁ st1
  have hcat : (Value.ref T.heap.size).category = 1 := rfl
  have hcellA : T1.heap[T.heap.size]? = some (freshCell cX kX) := by rw [← hT1]; exact State.heap_pushCell_size _ _
  have d3' : decode c.code (pc + 3) = .ok (.dup, 1) := by rw [hb]; exact d3
  have d4' : decode c.code (pc + 4) = .ok (.ldc_w is, 3) := by rw [hb]; exact d4
  have hstr' : vk_R own is text sa s' := vk_R.warm hW0 hstr
  obtain ⟨U, hsteps, hrun, hend, hW, hsame, ce, hce, hO⟩ := X₁.ctorThrowS hexec htr (own := own) (cls := cls) (names := names) (ic := ic) hown' hcls hnames h (fun x hx => nomatch hx) hfX hkX hcellA (by rw [hhp, hT]; exact Nat.le_refl _) (msg := .ref sa) rfl
    (g := { method := m, pc := pc + 7, locals := ls, stack := .ref sa :: .ref T.heap.size :: .ref T.heap.size :: rest, locked := none }) rfl hsize rfl rfl (rest := rest) rfl
    (by rw [hb]; exact d7) (by rw [hb]; exact d10) hout hRframes (by simp only [List.map_cons, List.sum_cons, hcat]; omega) hlocks
  obtain ⟨f1, f2⟩ := vx_frame hsame
  rw [hhp] at f1 f2
  have hWs : s.WarmedH U.vm := State.WarmedH.trans hW0 hW
  have hcl : s.vm.findClass cls = some ce.cls := by
    have h9 := hO.cls
    rw [hvm] at h9
    exact h9
  have hall : s.sameButNew ({ U with vm := s.vm } : State) locs mc ms := by
    subst hA
    obtain ⟨e1, e2⟩ := hsame
    rw [State.setFrames_setFrames] at e1
    have h2 : (T.setVm s.vm).sameButNew ({ U with vm := s.vm } : State) [] (0 + 1) (0 + 6) := ⟨e1, e2⟩
    have h3 := X.same.trans h2
    rw [List.append_nil] at h3
    exact h3.mono hc hs
  refine ⟨U, ?_, .threw T.heap.size, hrun, hend, Or.inr ⟨T.heap.size, rfl, cls, ce, locs, hx U hWs.alike f1 (fun q hq => f2 q hq (fun z hz => nomatch hz)), hce, hO.vm, hcl, hWs, hall, hf⟩⟩
  refine st1 _ ?_
  show Steps p.tables e below (T1.setTop { method := m, pc := pc + 3, locals := ls, stack := .ref T.heap.size :: rest, locked := none }) _
  jvm_step X₁.here [X₁.here.top, hexec, d3', Value.category]
  exact X₁.ldcStringW hexec (own := own) (text := text) (index := is) (a := sa) hown' hstr'.1 hstr'.2
    (g := { method := m, pc := pc + 4, locals := ls, stack := .ref T.heap.size :: .ref T.heap.size :: rest, locked := none }) rfl d4' _ hsteps
end Ends
section Bodies
variable {l : Launch}
theorem vx_ofW {y : MethodName} {ws ws' : List Cond} {rm : Room} {Pc : Array Value → State → Prop} {Qc : Array Value → State → Outcome → State → Prop} {XC : String → State → State → Prop} {mc ms : Nat} {free : Addr → Prop} {cc : ByteArray} {maxL : Nat} {ret : Option FieldType}
    (hy : plainName y.cls = true) (hw : ws = Cond.code y cc maxL ret :: ws')
    (body : ∀ p e s m args below meth c s₁, BodyLoose p l y (headSpec ws rm) cc maxL ret e s m args below meth c s₁ → c.maxLocals = maxL → (∀ x ∈ c.exceptionTable.toList, False) → Pc args s →
      W p l e (headSpec ws rm).room s m args below meth c s.heap [] 0 0 (vx_MQ below Qc XC args s mc ms free) (entryFrame m args maxL)) : vx_Met l y ws rm Pc Qc XC mc ms free := by
  refine MetFree.of_bodyS (code := cc) (maxLocals := maxL) (ret := ret) hy ?_ ?_
  · intro args s m h hn
    obtain ⟨meth, c, h1, h2, h3, h4, h5, h6, -, -⟩ := Cond.code_spec hn (atoms_spec (ws := ws) h _ (by rw [hw]; exact List.mem_cons_self))
    exact ⟨meth, c, h1, h2, h3, h4, h5, h6⟩
  · intro p e s m args below meth c s₁ B hml hP _
    have hh0 : s₁.heap = s.heap := by rw [B.state]; rfl
    have ht : ∀ x ∈ c.exceptionTable.toList, False := by
      obtain ⟨meth9, c9, h1, h2, -, -, -, -, h7, -⟩ := Cond.code_spec B.named (atoms_spec (ws := ws) B.pre _ (by rw [hw]; exact List.mem_cons_self))
      cases Option.some.inj (h1.symm.trans B.method)
      cases Option.some.inj (h2.symm.trans (Stand.of_body B).code)
      intro x hx
      rw [Array.isEmpty_iff.mp h7] at hx
      cases hx
    obtain ⟨t, a1, o, b1, b2, b3⟩ := body p e s m args below meth c s₁ B hml ht hP s₁ hh0 (Stand.of_body B)
    exact ⟨t, o, a1, b1, b2, b3⟩
/-- the table of a body with handlers -/
theorem vx_table {p : Program} {x y : MethodName} {S : Spec} {cc bytes : ByteArray} {maxL maxL' : Nat} {ret ret' : Option FieldType} {e : Env} {s s₁ : State} {m : MethodId} {args : Array Value} {below : List Frame} {meth : Method} {c : Code} {hh : List (Nat × Nat × Nat × Nat)}
    (B : BodyLoose p l y S cc maxL ret e s m args below meth c s₁) (h : (Cond.codeWith y bytes maxL' ret' hh).before args s = true) : c.exceptionTable.toList = tableOf hh := by
  obtain ⟨m9, meth9, c9, hn9, h1, h2, -, -, h6, -⟩ := Cond.codeWith_spec h
  cases Option.some.inj (hn9.symm.trans B.named)
  cases Option.some.inj (h1.symm.trans B.method)
  cases Option.some.inj (h2.symm.trans (Stand.of_body B).code)
  rw [← h6, table_eq]
end Bodies
end VXA
/-! ===== END ===== -/
/-! ===== BEGIN a static call of a method with an exception table ===== -/
section VXS
variable {p : Program} {l : Launch} {e : Env} {R : Room} {s : State} {m : MethodId} {args : Array Value} {below : List Frame} {meth : Method} {c : Code} {T : State} {H : Heap} {locs : List Loc} {cells slots : Nat}
abbrev vx_CSW (R : Room) (s : State) (args : Array Value) (own : String) (index : Nat) (y : MethodName) (bytes : ByteArray) (maxL : Nat) (ret : Option FieldType) (hh : List (Nat × Nat × Nat × Nat)) (ws : List Cond) (rm : Room) (mc ms n : Nat) : Prop :=
  (rm.cells = mc ∧ rm.slots = ms ∧ rm.frames + 1 ≤ R.frames ∧ 8 + (maxL + 11) + rm.locals ≤ R.locals ∧ (∀ w ∈ ws, ∀ (a' : Array Value) (U : State), s.WarmedH U.vm → w.before a' U = true) ∧ Cond.codeWith y bytes maxL ret hh ∈ ws) ∧
  (Cond.codeWith y bytes maxL ret hh).before args s = true ∧ (Cond.initialized y.cls).before args s = true ∧ (y.cls ≠ "java/lang/invoke/MethodHandle" ∧ y.cls ≠ "java/lang/invoke/VarHandle") ∧
  (∀ sig, parseMethodDescriptor y.desc = some sig → n = sig.parameters.length) ∧ (Cond.methodLink own index y).before args s = true ∧ (Cond.static y).before args s = true
theorem vx_cwSW {own : String} {index maxL mc ms : Nat} {y : MethodName} {bytes : ByteArray} {ret : Option FieldType} {hh : List (Nat × Nat × Nat × Nat)} {Ts ws ws' : List Cond} {rm : Room} (n : Nat) (ht : ∀ w ∈ Ts, w.before args s = true) (hT : GoodIn Ts (va_wsS own index y ws)) (hw : ws = Cond.codeWith y bytes maxL ret hh :: ws') (hrc : rm.cells = mc) (hrs : rm.slots = ms)
    (hd : y.cls ≠ "java/lang/invoke/MethodHandle" ∧ y.cls ≠ "java/lang/invoke/VarHandle" ∧ (parseMethodDescriptor y.desc).map (fun d => d.parameters.length) = some n) (hR : rm.frames + 1 ≤ R.frames ∧ 8 + (maxL + 11) + rm.locals ≤ R.locals) :
    vx_CSW R s args own index y bytes maxL ret hh ws rm mc ms n := by
  have ok : ∀ w ∈ va_wsS own index y ws, w.before args s = true := fun w h => ht w (hT w h).1
  have hG : GoodIn Ts ws := fun w h => hT w (by unfold va_wsS; exact List.mem_append_right _ h)
  have hc : Cond.codeWith y bytes maxL ret hh ∈ ws := by rw [hw]; exact List.mem_cons_self
  refine ⟨⟨hrc, hrs, hR.1, hR.2, pay_in ht hG, hc⟩, ht _ (hG _ hc).1, ok _ (by simp [va_wsS]), ⟨hd.1, hd.2.1⟩, fun sig h => ?_, ok _ (by simp [va_wsS]), ok _ (by simp [va_wsS])⟩
  have h2 := hd.2.2
  rw [h] at h2
  exact (Option.some.inj h2).symm
theorem vx_callSW (X : Stand p l e R s m args below meth c T locs cells slots) (hexec : p.tables.exec = Jvm.exec) {own : String} {index : Nat} {y : MethodName} {bytes : ByteArray} {maxL : Nat} {ret : Option FieldType} {hh : List (Nat × Nat × Nat × Nat)}
    (hown : s.vm.findClass own = some m.cls) (hlink : (Cond.methodLink own index y).before args s = true) (hstat : (Cond.static y).before args s = true) (hinit : (Cond.initialized y.cls).before args s = true)
    (hcode : (Cond.codeWith y bytes maxL ret hh).before args s = true) (hy : y.cls ≠ "java/lang/invoke/MethodHandle" ∧ y.cls ≠ "java/lang/invoke/VarHandle")
    {W9 : Nat} {Pre : Pt → Array Value → Prop} {Post : Pt → Array Value → Option Value → Pt → Prop} (hK : Back l R p e below s args y 3 W9 Pre Post)
    {g : JFrame} (hg : g.method = m) (hsize : g.locals.size = c.maxLocals) {argsL rest : List Value} (hlen : ∀ sig, parseMethodDescriptor y.desc = some sig → argsL.length = sig.parameters.length)
    (hstack : g.stack = argsL.reverse ++ rest) (hW : 2 * g.monitorRoom + (rest.map fun v => v.category).sum ≤ W9) (hdg : decode c.code g.pc = .ok (.invokestatic index, 3))
    (hpre : ∀ vm₁, s.WarmedH vm₁ → Pre ⟨T.setVm vm₁, locs, cells, slots⟩ argsL.toArray) :
    ∃ (v : Option Value) (vm₁ : Vm) (B : Pt), s.WarmedH vm₁ ∧ Stand p l e R s m args below meth c B.U B.locs B.cells B.slots ∧ Post ⟨T.setVm vm₁, locs, cells, slots⟩ argsL.toArray v B ∧
      ∀ target, Steps p.tables e below (B.U.setTop { g with pc := g.pc + 3, stack := v.toList ++ rest }) target → Steps p.tables e below (T.setTop g) target := by
  obtain ⟨mk, methM, cM, hnamed, hmethM, -, -, -, -, -, -, hsigM⟩ := Cond.codeWith_spec hcode
  have hstatic : methM.isStatic = true := Cond.static_spec hnamed hmethM hstat
  obtain ⟨kP, hkP, -⟩ := className_of_methodNamed hnamed
  have hinitP : kP.init = .initialized := Cond.initialized_spec (findClass_of_methodNamed hnamed) hkP hinit
  obtain ⟨vm₁, X₁, hstep₁⟩ := X.invokestatic hexec hown hlink hnamed hmethM hstatic hkP hinitP hy (g := g) hg (argsL := argsL) (rest := rest) (hlen _ hsigM) hstack hdg
  obtain ⟨v, B, X', hpost, hsteps⟩ := hK m meth c ⟨T.setVm vm₁, locs, cells, slots⟩ { g with stack := rest } (.invokestatic index) mk argsL.toArray X₁ hg hsize hdg hW (X₁.named hnamed) (hpre vm₁ X₁.warmed)
  exact ⟨v, vm₁, B, X₁.warmed, X', hpost, fun target h => hstep₁ _ fun acts => by rw [doInvoke_state]; exact hsteps.trans h⟩
theorem vx_runSW {y : MethodName} {bytes cc : ByteArray} {maxL nL mc ms n index : Nat} {ret : Option FieldType} {hh : List (Nat × Nat × Nat × Nat)} {ws : List Cond} {rm : Room} {Pc : Array Value → State → Prop} {Qc : Array Value → State → Outcome → State → Prop} {free : Addr → Prop} {Ts : List Cond} {own : String} {As rest : List Value} {g : JFrame}
    (S : CallFix p m c cc nL s args Ts own) (hM : Met l y ws rm Pc Qc mc ms free) (cw : vx_CSW R s args own index y bytes maxL ret hh ws rm mc ms n) (hp : PreS s H Pc As)
    (hg : g.method = m) (hn : As.length = n) (hsize : g.locals.size = nL) (hstack : g.stack = As.reverse ++ rest) (hW : 2 * g.monitorRoom + (rest.map fun v => v.category).sum ≤ 8) (hdg : decode cc g.pc = .ok (.invokestatic index, 3)) (hf : cells + mc ≤ R.cells ∧ slots + ms ≤ R.slots) :
    va_Run p l e R s m args below meth c H locs cells slots mc ms g rest (Qc As.toArray) (free) := by
  obtain ⟨⟨hrc, hrs, hfr, hlo, hws, hcw⟩, hcode, hini, hy, hlen, hl, hstt⟩ := cw
  have hK : Back l R p e below s args y 3 8 (PreOf R mc ms Pc) (PostOf Qc mc ms free) := va_backW (hh := hh) (bytes := bytes) (maxL := maxL) (ret := ret) hM hp.1 hrc hrs hfr hlo hws hcw (fun a' U hW => word_at hW (Or.inl (by first | rfl | simp [Cond.onTables, Cond.keeps, Cond.steady])) hini)
  obtain ⟨hx, hb, hml, ho, -⟩ := S
  intro T hT X
  obtain ⟨v, vm₁, ⟨U', l2, c2, s2⟩, hW₁, X', ⟨g', mk, t, L, e1, e2, hq, h1, hL, h2, h3⟩, st⟩ := vx_callSW X hx (hh := hh) (bytes := bytes) (maxL := maxL) (ret := ret) ho hl hstt hini hcode hy hK hg (hsize.trans hml.symm) (argsL := As) (rest := rest) (fun sig h => hn.trans (hlen sig h)) hstack hW (by rw [hb]; exact hdg)
    (fun vm₁ hW₁ => ⟨hf.1, hf.2, hp.2 (T.setVm vm₁) hT hW₁⟩)
  dsimp only [Pt.U, Pt.locs, Pt.cells, Pt.slots] at X' e1 e2 h1 h2 h3 st
  subst h1; subst h2; subst h3
  exact ⟨v, (T.setVm vm₁).calling g' mk As.toArray, t, U', L, hT, X', hL, e1, e2, hq, st⟩
/-- not caught here, past rows that name other classes: it goes on to the caller -/
theorem vx_outP {p : Program} {l : Launch} {e : Env} {R : Room} {s : State} {m : MethodId} {args : Array Value} {below : List Frame} {meth : Method} {c : Code} {H : Heap} {locs : List Loc} {cells slots : Nat} {free : Addr → Prop} {ls : Array Slot} {rest : List Value} {Qc : Array Value → State → Outcome → State → Prop} {XC : String → State → State → Prop}
    {pc : Nat} {own E : String} {ce : Cell} {q : Addr} {mc ms : Nat} (hown : s.vm.findClass own = some m.cls) (hlocks : meth.locks = false)
    (hpass : ∀ z ∈ c.exceptionTable.toList, covers z pc = false ∨ (z.catchType ≠ 0 ∧ ∃ nm : String, (Cond.classLink own z.catchType nm).before args s = true ∧ va_Nc E nm s)) (hcell : H[q]? = some ce) (hv : ce.vm = .none) (hcl : s.vm.findClass E = some ce.cls)
    (hx : ∀ t : State, t.heap = H → s.vm.Alike t.vm → XC E s t) (hf : ∀ z ∈ locs, free z.base) (hc : cells ≤ mc) (hs : slots ≤ ms) :
    vx_W p l e R s m args below meth c H locs cells slots (vx_MQ below Qc XC args s mc ms free) (F0 m pc ls rest) q := by
  intro T hT X
  have hpl : e.platform.magicAccessors = ({} : Platform).magicAccessors := by rw [X.admits.platform]
  obtain ⟨vm', hW', X', st⟩ := X.outThrough hlocks q (g := F0 m pc ls rest) rfl rfl rfl (cell := ce) (by rw [hT]; exact hcell) (by rw [hv]; rfl)
    (by obtain ⟨k9, h9, -⟩ := Vm.findClass_spec hcl; exact ⟨k9, h9⟩) (fun z hz => by
      rcases hpass z hz with h | ⟨hz0, nm, hl1, hn1⟩
      · exact Or.inl h
      · obtain ⟨c6, hc6, hcl6⟩ := Cond.classLink_spec hown hl1 e.platform hpl
        obtain ⟨a8, b8, h1, h2, h3⟩ := hn1
        cases Option.some.inj (h1.symm.trans hcl)
        cases Option.some.inj (h2.symm.trans hc6)
        exact Or.inr ⟨hz0, _, hcl6, h3⟩)
  obtain ⟨g₀, hfr⟩ := X'.frames_eq
  have hcell9 : ((T.setVm vm').setFrames (.throwing q :: below)).heap[q]? = some ce := by
    show T.heap[q]? = some ce
    rw [hT]; exact hcell
  have hend : Ended ((T.setVm vm').setFrames (.throwing q :: below)) below (.threw q) := State.frames_setFrames _ (State.cur_lt_of_frames hfr)
  refine ⟨(T.setVm vm').setFrames (.throwing q :: below), ?_, .threw q, X'.here.running, hend, Or.inr ⟨q, rfl, E, ce, locs, hx _ hT (X'.ends _).1.alike, hcell9, hv, hcl, (X'.ends _).1, (X'.ends _).2.mono hc hs, hf⟩⟩
  rw [X.pushThrowing_eq]
  exact st
/-- a thing of a world lies in the heap -/
theorem vx_lt {D : va_G} {cl : List vw_C} {ws : va_W} {H1 : Heap} (h : va_P D cl ws H1) {k : Nat} {q : Nat × va_E} (hk : ws[k]? = some q) : q.1 < H1.size := (h k q hk).lt
end VXS
/-! ===== END ===== -/
/-! ===== BEGIN methods with a table of their own: called by a name, returning or throwing ===== -/
section VXH
/-! vx_backW, vx_callVX, vx_callSX, vx_callVW, vx_runVW, vx_runVX, vx_runSX, vx_ofWH follow the same proofs as their sisters above (Free/Laws.lean, Shelf42/LK1.lean); vx_outP calls Shelf42/NT130.lean (outThrough). -/
section
variable {l : Launch} {R : Room} {p : Program} {e : Env} {below : List Frame} {s : State} {sargs : Array Value} {y : MethodName} {len W9 : Nat}
theorem vx_backW {ws : List Cond} {rm : Room} {Pc : Array Value → State → Prop} {Qc : Array Value → State → Outcome → State → Prop} {XC : String → State → State → Prop} {mc ms : Nat} {free : Addr → Prop} {bytes : ByteArray} {maxL : Nat} {ret : Option FieldType} {hh : List (Nat × Nat × Nat × Nat)}
    (hM : vx_Met l y ws rm Pc Qc XC mc ms free) (hblind : FrameBlind Pc) (hrc : rm.cells = mc) (hrs : rm.slots = ms)
    (hframes : rm.frames + 1 ≤ R.frames) (hlocals : W9 + (maxL + 11) + rm.locals ≤ R.locals)
    (hws : ∀ w ∈ ws, ∀ a' U, s.WarmedH U.vm → w.before a' U = true) (hcode : Cond.codeWith y bytes maxL ret hh ∈ ws) (hinit : ∀ a' U, s.WarmedH U.vm → (Cond.initialized y.cls).before a' U = true) :
    vx_Back l R p e below s sargs y len W9 (PreOf R mc ms Pc) (PostOf Qc mc ms free) (vx_Post XC mc ms free) := by
  intro m meth c A g ig mk a X hg hsize hdg hW hn hp
  have h1 : (headSpec ws rm).pre.before a A.U = true := atoms_intro fun w hw => hws w hw _ _ X.warmed
  have h2 : (Cond.codeWith y bytes maxL ret hh).before a A.U = true := hws _ hcode _ _ X.warmed
  have h3 : (Cond.initialized y.cls).before a A.U = true := hinit _ _ X.warmed
  have h4 : A.cells + (headSpec ws rm).room.cells ≤ R.cells := by rw [show (headSpec ws rm).room.cells = mc from hrc]; exact hp.1
  have h5 : A.slots + (headSpec ws rm).room.slots ≤ R.slots := by rw [show (headSpec ws rm).room.slots = ms from hrs]; exact hp.2.1
  have hPc : Pc a (A.U.calling g mk a) := hblind _ _ _ _ hp.2.2
  obtain ⟨U, Ls, c0, s0⟩ := A
  dsimp only [Pt.U, Pt.locs, Pt.cells, Pt.slots] at h1 h2 h3 h4 h5 X hn hPc ⊢
  obtain ⟨m9, methY, cY, hn9, hmY, hcY, -, hlY, -⟩ := Cond.codeWith_spec h2
  cases Option.some.inj (hn9.symm.trans hn)
  obtain ⟨kY, hkY, -⟩ := className_of_methodNamed hn
  have hinitY : kY.init = .initialized := Cond.initialized_spec (findClass_of_methodNamed hn) hkY h3
  have h : At U g.method c below := by rw [hg]; exact X.here
  have hlocals9 : W9 + (maxL + 11) + (headSpec ws rm).room.locals ≤ R.locals := hlocals
  have happ : (headSpec ws rm).appliesLoose y e.platform (U.calling g mk a) = true :=
    Spec.appliesLoose_calling (g := g) h hdg hn hkY hinitY
      (X.room_calling (g := g) (R' := (headSpec ws rm).room) hsize hmY hcY hframes (by rw [hlY]; omega) h4 h5) h1
  obtain ⟨mid, hmid⟩ := h.above
  have hfr : (U.setTop g).frames = (.java g :: mid) ++ below := by rw [State.frames_setTop' g h.top, hmid]; rfl
  obtain ⟨o, s₂, hsteps, -, hend, hq⟩ := Steps.callFree hM p X.admits X.cas X.clock (acts := []) hfr happ hPc trivial
  have hq' : vx_Q Qc XC mc ms free a (U.calling g mk a) o s₂ := hq
  rw [State.frames_setTop' g h.top] at hend
  obtain ⟨g₀, hg0⟩ := Option.isSome_iff_exists.mp h.top
  obtain ⟨r, hr⟩ := State.topJava?_eq_some.mp hg0
  have hr' : (({ U with heap := s₂.heap, slotsUsed := s₂.slotsUsed } : State).setVm s₂.vm).frames = .java g₀ :: r := hr
  rcases hq' with ⟨hqc, L, hfe, hL⟩ | ⟨q, rfl, E, ce, L, hx, hce, hcv, hcl, hW₂, hsm, hL⟩
  · obtain ⟨⟨v, rfl⟩, hW₂, e2, q2, q3, q4, q5, q6⟩ := id hfe
    have e3 : s₂ = ({ (U.calling g mk a).setFrames s₂.frames with heap := s₂.heap, slotsUsed := s₂.slotsUsed } : State).setVm s₂.vm := by
      have : s₂ = ({ s₂ with vm := (U.calling g mk a).vm } : State).setVm s₂.vm := rfl
      rw [e2] at this
      exact this
    obtain ⟨c₂, i₂, len₂, hc₂, hd₂, hf₂⟩ := hend
    have hW' : U.WarmedH s₂.vm := hW₂
    have hcc : c₂ = c := by
      have h1 : s₂.code? g.method = U.code? g.method := by
        rw [State.code?_eq, State.code?_eq, hW'.alike.method?]
      exact Option.some.inj (hc₂.symm.trans (h1.trans h.code))
    subst hcc
    have hlen : len₂ = len := by rw [hdg] at hd₂; cases hd₂; rfl
    subst hlen
    have hs₂ : s₂ = (({ U with heap := s₂.heap, slotsUsed := s₂.slotsUsed } : State).setVm s₂.vm).setTop { g with pc := g.pc + len₂, stack := v.toList ++ g.stack } := by
      refine e3.trans ?_
      rw [hf₂, State.calling_eq h.top, State.setFrames_setFrames, State.setTop_of_frames _ hr', hr]
      rfl
    have hsame : U.sameButNew ({ U with heap := s₂.heap, slotsUsed := s₂.slotsUsed } : State) L mc ms := by
      refine ⟨?_, q2, q3, q4, q5, q6⟩
      obtain ⟨t, ht, -⟩ := State.frames_cons hr
      show ({ U with heap := s₂.heap, slotsUsed := s₂.slotsUsed } : State) = { U.setFrames U.frames with heap := s₂.heap, slotsUsed := s₂.slotsUsed }
      rw [State.setFrames_self ht]
    subst hg
    refine Or.inl ⟨v, ⟨(({ U with heap := s₂.heap, slotsUsed := s₂.slotsUsed } : State).setVm s₂.vm), Ls ++ L, c0 + mc, s0 + ms⟩,
      ⟨X.admits, X.cas, X.clock, X.frames, X.room, X.hears, X.method, X.code, (X.here.setHeapUsed s₂.heap s₂.slotsUsed).setVm hW'.alike, X.tail, State.WarmedH.trans X.warmed hW', X.limits, X.bytes, X.same.trans (hsame.setVm s.vm)⟩,
      ⟨g, mk, s₂, L, rfl, rfl, hqc, rfl, hL, rfl, rfl⟩, ?_⟩
    show Steps p.tables e below _ ((({ U with heap := s₂.heap, slotsUsed := s₂.slotsUsed } : State).setVm s₂.vm).setTop { g with pc := g.pc + len₂, stack := v.toList ++ g.stack })
    rw [← hs₂]
    exact hsteps
  · obtain ⟨e2, q2, q3, q4, q5, q6⟩ := id hsm
    have e3 : s₂ = ({ (U.calling g mk a).setFrames s₂.frames with heap := s₂.heap, slotsUsed := s₂.slotsUsed } : State).setVm s₂.vm := by
      have : s₂ = ({ s₂ with vm := (U.calling g mk a).vm } : State).setVm s₂.vm := rfl
      rw [e2] at this
      exact this
    have hf₂ : s₂.frames = .throwing q :: .java g :: U.frames.tail := hend
    have hW' : U.WarmedH s₂.vm := hW₂
    have hs₂ : s₂ = ((({ U with heap := s₂.heap, slotsUsed := s₂.slotsUsed } : State).setVm s₂.vm).setTop g).pushFrame (.throwing q) := by
      refine e3.trans ?_
      rw [hf₂, State.calling_eq h.top, State.setFrames_setFrames, State.pushFrame, State.frames_setTop _ hr', State.setTop_of_frames _ hr', State.setFrames_setFrames, hr]
      rfl
    have hsame : U.sameButNew ({ U with heap := s₂.heap, slotsUsed := s₂.slotsUsed } : State) L mc ms := by
      refine ⟨?_, q2, q3, q4, q5, q6⟩
      obtain ⟨t, ht, -⟩ := State.frames_cons hr
      show ({ U with heap := s₂.heap, slotsUsed := s₂.slotsUsed } : State) = { U.setFrames U.frames with heap := s₂.heap, slotsUsed := s₂.slotsUsed }
      rw [State.setFrames_self ht]
    subst hg
    refine Or.inr ⟨q, ⟨(({ U with heap := s₂.heap, slotsUsed := s₂.slotsUsed } : State).setVm s₂.vm), Ls ++ L, c0 + mc, s0 + ms⟩,
      ⟨X.admits, X.cas, X.clock, X.frames, X.room, X.hears, X.method, X.code, (X.here.setHeapUsed s₂.heap s₂.slotsUsed).setVm hW'.alike, X.tail, State.WarmedH.trans X.warmed hW', X.limits, X.bytes, X.same.trans (hsame.setVm s.vm)⟩,
      ⟨g, mk, s₂, L, E, ce, rfl, rfl, hx, hce, hcv, hcl, rfl, hL, rfl, rfl⟩, ?_⟩
    show Steps p.tables e below _ (((({ U with heap := s₂.heap, slotsUsed := s₂.slotsUsed } : State).setVm s₂.vm).setTop g).pushFrame (.throwing q))
    rw [← hs₂]
    exact hsteps
end
variable {p : Program} {l : Launch} {e : Env} {R : Room} {s : State} {m : MethodId} {args : Array Value} {below : List Frame} {meth : Method} {c : Code} {T : State} {H : Heap} {locs : List Loc} {cells slots : Nat}
theorem vx_callVX (X : Stand p l e R s m args below meth c T locs cells slots) (hexec : p.tables.exec = Jvm.exec) {own C : String} {index : Nat} {y : MethodName} {bytes : ByteArray} {maxL : Nat} {ret : Option FieldType} {hh : List (Nat × Nat × Nat × Nat)}
    (hown : s.vm.findClass own = some m.cls) (hlink : (Cond.methodLink own index y).before args s = true) (hinst : (Cond.instanceMethod y).before args s = true) (hsel : (Cond.selects C y y).before args s = true)
    (hcode : (Cond.codeWith y bytes maxL ret hh).before args s = true) (hy : y.cls ≠ "java/lang/invoke/MethodHandle" ∧ y.cls ≠ "java/lang/invoke/VarHandle")
    {W9 : Nat} {Pre : Pt → Array Value → Prop} {Post : Pt → Array Value → Option Value → Pt → Prop} {PostX : Pt → Array Value → Addr → Pt → Prop} (hK : vx_Back l R p e below s args y 3 W9 Pre Post PostX)
    {b : Addr} {cellB : Cell} (hcell : T.heap[b]? = some cellB) (hobj : cellB.vm.isStatics = false) (hcls : s.vm.findClass C = some cellB.cls)
    {g : JFrame} (hg : g.method = m) (hsize : g.locals.size = c.maxLocals) {argsL rest : List Value} (hlen : ∀ sig, parseMethodDescriptor y.desc = some sig → argsL.length = sig.parameters.length)
    (hstack : g.stack = argsL.reverse ++ .ref b :: rest) (hW : 2 * g.monitorRoom + (rest.map fun v => v.category).sum ≤ W9) (hdg : decode c.code g.pc = .ok (.invokevirtual index, 3))
    (hpre : ∀ vm₁, s.WarmedH vm₁ → Pre ⟨T.setVm vm₁, locs, cells, slots⟩ (Value.ref b :: argsL).toArray) :
    (∃ (v : Option Value) (vm₁ : Vm) (B : Pt), s.WarmedH vm₁ ∧ Stand p l e R s m args below meth c B.U B.locs B.cells B.slots ∧ Post ⟨T.setVm vm₁, locs, cells, slots⟩ (Value.ref b :: argsL).toArray v B ∧
      ∀ target, Steps p.tables e below (B.U.setTop { g with pc := g.pc + 3, stack := v.toList ++ rest }) target → Steps p.tables e below (T.setTop g) target) ∨
    (∃ (q : Addr) (vm₁ : Vm) (B : Pt), s.WarmedH vm₁ ∧ Stand p l e R s m args below meth c B.U B.locs B.cells B.slots ∧ PostX ⟨T.setVm vm₁, locs, cells, slots⟩ (Value.ref b :: argsL).toArray q B ∧
      Steps p.tables e below (T.setTop g) ((B.U.setTop { g with stack := rest }).pushFrame (.throwing q))) := by
  obtain ⟨mk, methM, hnamed, hmethM, hstM, habM⟩ := Cond.instanceMethod_spec hinst
  obtain ⟨m8, methM', cM, hn8, hmethM', -, -, -, -, -, -, hsigM⟩ := Cond.codeWith_spec hcode
  cases Option.some.inj (hn8.symm.trans hnamed)
  cases hmethM.symm.trans hmethM'
  obtain ⟨c2, r2, m2, q1, q2, q3, q4, kP, hkP, hkPi⟩ := Cond.selects_spec hsel
  cases hcls.symm.trans q1
  cases (State.methodFound?_of_named hnamed hy).symm.trans q2
  cases hnamed.symm.trans q3
  have hselP : selectMethod e.platform s.vm cellB.cls mk = .method mk := by rw [Launch.admits_selectMethod X.admits]; exact q4
  obtain ⟨vm₁, X₁, hstep₁⟩ := X.invokevirtual hexec hown hlink hnamed hmethM hstM hkP hkPi hy (a := b) (cell := cellB) hcell
    (fun z h => by rw [h] at hobj; cases hobj) hselP hmethM habM hkP hkPi (g := g) hg (argsL := argsL) (rest := rest) (hlen _ hsigM) hstack hdg
  rcases hK m meth c ⟨T.setVm vm₁, locs, cells, slots⟩ { g with stack := rest } (.invokevirtual index) mk (Value.ref b :: argsL).toArray X₁ hg hsize hdg hW (X₁.named hnamed) (hpre vm₁ X₁.warmed) with ⟨v, B, X', hpost, hsteps⟩ | ⟨q, B, X', hpost, hsteps⟩
  · exact Or.inl ⟨v, vm₁, B, X₁.warmed, X', hpost, fun target h => hstep₁ _ fun acts => by rw [doInvoke_state]; exact hsteps.trans h⟩
  · exact Or.inr ⟨q, vm₁, B, X₁.warmed, X', hpost, hstep₁ _ fun acts => by rw [doInvoke_state]; exact hsteps⟩
theorem vx_callSX (X : Stand p l e R s m args below meth c T locs cells slots) (hexec : p.tables.exec = Jvm.exec) {own : String} {index : Nat} {y : MethodName} {bytes : ByteArray} {maxL : Nat} {ret : Option FieldType} {hh : List (Nat × Nat × Nat × Nat)}
    (hown : s.vm.findClass own = some m.cls) (hlink : (Cond.methodLink own index y).before args s = true) (hstat : (Cond.static y).before args s = true) (hinit : (Cond.initialized y.cls).before args s = true)
    (hcode : (Cond.codeWith y bytes maxL ret hh).before args s = true) (hy : y.cls ≠ "java/lang/invoke/MethodHandle" ∧ y.cls ≠ "java/lang/invoke/VarHandle")
    {W9 : Nat} {Pre : Pt → Array Value → Prop} {Post : Pt → Array Value → Option Value → Pt → Prop} {PostX : Pt → Array Value → Addr → Pt → Prop} (hK : vx_Back l R p e below s args y 3 W9 Pre Post PostX)
    {g : JFrame} (hg : g.method = m) (hsize : g.locals.size = c.maxLocals) {argsL rest : List Value} (hlen : ∀ sig, parseMethodDescriptor y.desc = some sig → argsL.length = sig.parameters.length)
    (hstack : g.stack = argsL.reverse ++ rest) (hW : 2 * g.monitorRoom + (rest.map fun v => v.category).sum ≤ W9) (hdg : decode c.code g.pc = .ok (.invokestatic index, 3))
    (hpre : ∀ vm₁, s.WarmedH vm₁ → Pre ⟨T.setVm vm₁, locs, cells, slots⟩ argsL.toArray) :
    (∃ (v : Option Value) (vm₁ : Vm) (B : Pt), s.WarmedH vm₁ ∧ Stand p l e R s m args below meth c B.U B.locs B.cells B.slots ∧ Post ⟨T.setVm vm₁, locs, cells, slots⟩ argsL.toArray v B ∧
      ∀ target, Steps p.tables e below (B.U.setTop { g with pc := g.pc + 3, stack := v.toList ++ rest }) target → Steps p.tables e below (T.setTop g) target) ∨
    (∃ (q : Addr) (vm₁ : Vm) (B : Pt), s.WarmedH vm₁ ∧ Stand p l e R s m args below meth c B.U B.locs B.cells B.slots ∧ PostX ⟨T.setVm vm₁, locs, cells, slots⟩ argsL.toArray q B ∧
      Steps p.tables e below (T.setTop g) ((B.U.setTop { g with stack := rest }).pushFrame (.throwing q))) := by
  obtain ⟨mk, methM, cM, hnamed, hmethM, -, -, -, -, -, -, hsigM⟩ := Cond.codeWith_spec hcode
  have hstatic : methM.isStatic = true := Cond.static_spec hnamed hmethM hstat
  obtain ⟨kP, hkP, -⟩ := className_of_methodNamed hnamed
  have hinitP : kP.init = .initialized := Cond.initialized_spec (findClass_of_methodNamed hnamed) hkP hinit
  obtain ⟨vm₁, X₁, hstep₁⟩ := X.invokestatic hexec hown hlink hnamed hmethM hstatic hkP hinitP hy (g := g) hg (argsL := argsL) (rest := rest) (hlen _ hsigM) hstack hdg
  rcases hK m meth c ⟨T.setVm vm₁, locs, cells, slots⟩ { g with stack := rest } (.invokestatic index) mk argsL.toArray X₁ hg hsize hdg hW (X₁.named hnamed) (hpre vm₁ X₁.warmed) with ⟨v, B, X', hpost, hsteps⟩ | ⟨q, B, X', hpost, hsteps⟩
  · exact Or.inl ⟨v, vm₁, B, X₁.warmed, X', hpost, fun target h => hstep₁ _ fun acts => by rw [doInvoke_state]; exact hsteps.trans h⟩
  · exact Or.inr ⟨q, vm₁, B, X₁.warmed, X', hpost, hstep₁ _ fun acts => by rw [doInvoke_state]; exact hsteps⟩
theorem vx_callVW (X : Stand p l e R s m args below meth c T locs cells slots) (hexec : p.tables.exec = Jvm.exec) {own C : String} {index : Nat} {y : MethodName} {bytes : ByteArray} {maxL : Nat} {ret : Option FieldType} {hh : List (Nat × Nat × Nat × Nat)}
    (hown : s.vm.findClass own = some m.cls) (hlink : (Cond.methodLink own index y).before args s = true) (hinst : (Cond.instanceMethod y).before args s = true) (hsel : (Cond.selects C y y).before args s = true)
    (hcode : (Cond.codeWith y bytes maxL ret hh).before args s = true) (hy : y.cls ≠ "java/lang/invoke/MethodHandle" ∧ y.cls ≠ "java/lang/invoke/VarHandle")
    {W9 : Nat} {Pre : Pt → Array Value → Prop} {Post : Pt → Array Value → Option Value → Pt → Prop} (hK : Back l R p e below s args y 3 W9 Pre Post)
    {b : Addr} {cellB : Cell} (hcell : T.heap[b]? = some cellB) (hobj : cellB.vm.isStatics = false) (hcls : s.vm.findClass C = some cellB.cls)
    {g : JFrame} (hg : g.method = m) (hsize : g.locals.size = c.maxLocals) {argsL rest : List Value} (hlen : ∀ sig, parseMethodDescriptor y.desc = some sig → argsL.length = sig.parameters.length)
    (hstack : g.stack = argsL.reverse ++ .ref b :: rest) (hW : 2 * g.monitorRoom + (rest.map fun v => v.category).sum ≤ W9) (hdg : decode c.code g.pc = .ok (.invokevirtual index, 3))
    (hpre : ∀ vm₁, s.WarmedH vm₁ → Pre ⟨T.setVm vm₁, locs, cells, slots⟩ (Value.ref b :: argsL).toArray) :
    ∃ (v : Option Value) (vm₁ : Vm) (B : Pt), s.WarmedH vm₁ ∧ Stand p l e R s m args below meth c B.U B.locs B.cells B.slots ∧ Post ⟨T.setVm vm₁, locs, cells, slots⟩ (Value.ref b :: argsL).toArray v B ∧
      ∀ target, Steps p.tables e below (B.U.setTop { g with pc := g.pc + 3, stack := v.toList ++ rest }) target → Steps p.tables e below (T.setTop g) target := by
  obtain ⟨mk, methM, hnamed, hmethM, hstM, habM⟩ := Cond.instanceMethod_spec hinst
  obtain ⟨m8, methM', cM, hn8, hmethM', -, -, -, -, -, -, hsigM⟩ := Cond.codeWith_spec hcode
  cases Option.some.inj (hn8.symm.trans hnamed)
  cases hmethM.symm.trans hmethM'
  obtain ⟨c2, r2, m2, q1, q2, q3, q4, kP, hkP, hkPi⟩ := Cond.selects_spec hsel
  cases hcls.symm.trans q1
  cases (State.methodFound?_of_named hnamed hy).symm.trans q2
  cases hnamed.symm.trans q3
  have hselP : selectMethod e.platform s.vm cellB.cls mk = .method mk := by rw [Launch.admits_selectMethod X.admits]; exact q4
  obtain ⟨vm₁, X₁, hstep₁⟩ := X.invokevirtual hexec hown hlink hnamed hmethM hstM hkP hkPi hy (a := b) (cell := cellB) hcell
    (fun z h => by rw [h] at hobj; cases hobj) hselP hmethM habM hkP hkPi (g := g) hg (argsL := argsL) (rest := rest) (hlen _ hsigM) hstack hdg
  obtain ⟨v, B, X', hpost, hsteps⟩ := hK m meth c ⟨T.setVm vm₁, locs, cells, slots⟩ { g with stack := rest } (.invokevirtual index) mk (Value.ref b :: argsL).toArray X₁ hg hsize hdg hW (X₁.named hnamed) (hpre vm₁ X₁.warmed)
  exact ⟨v, vm₁, B, X₁.warmed, X', hpost, fun target h => hstep₁ _ fun acts => by rw [doInvoke_state]; exact hsteps.trans h⟩
abbrev vx_CVW (R : Room) (s : State) (args : Array Value) (own C : String) (index : Nat) (y : MethodName) (bytes : ByteArray) (maxL : Nat) (ret : Option FieldType) (hh : List (Nat × Nat × Nat × Nat)) (ws : List Cond) (rm : Room) (mc ms n : Nat) : Prop :=
  (rm.cells = mc ∧ rm.slots = ms ∧ rm.frames + 1 ≤ R.frames ∧ 8 + (maxL + 11) + rm.locals ≤ R.locals ∧ (∀ w ∈ ws, ∀ (a' : Array Value) (U : State), s.WarmedH U.vm → w.before a' U = true) ∧ Cond.codeWith y bytes maxL ret hh ∈ ws) ∧
  (Cond.codeWith y bytes maxL ret hh).before args s = true ∧ (Cond.initialized y.cls).before args s = true ∧ (y.cls ≠ "java/lang/invoke/MethodHandle" ∧ y.cls ≠ "java/lang/invoke/VarHandle") ∧
  (∀ sig, parseMethodDescriptor y.desc = some sig → n = sig.parameters.length) ∧ (Cond.methodLink own index y).before args s = true ∧ (Cond.instanceMethod y).before args s = true ∧ (Cond.selects C y y).before args s = true
theorem vx_cwVW {own C : String} {index maxL mc ms : Nat} {y : MethodName} {bytes : ByteArray} {ret : Option FieldType} {hh : List (Nat × Nat × Nat × Nat)} {Ts ws ws' : List Cond} {rm : Room} (n : Nat) (ht : ∀ w ∈ Ts, w.before args s = true) (hT : GoodIn Ts (wsV own index C y ws)) (hw : ws = Cond.codeWith y bytes maxL ret hh :: ws') (hrc : rm.cells = mc) (hrs : rm.slots = ms)
    (hd : y.cls = C ∧ y.cls ≠ "java/lang/invoke/MethodHandle" ∧ y.cls ≠ "java/lang/invoke/VarHandle" ∧ (parseMethodDescriptor y.desc).map (fun d => d.parameters.length) = some n) (hR : rm.frames + 1 ≤ R.frames ∧ 8 + (maxL + 11) + rm.locals ≤ R.locals) :
    vx_CVW R s args own C index y bytes maxL ret hh ws rm mc ms n := by
  obtain ⟨hC, hd⟩ := hd
  subst hC
  have ok : ∀ w ∈ wsV own index y.cls y ws, w.before args s = true := fun w h => ht w (hT w h).1
  have hG : GoodIn Ts ws := fun w h => hT w (by unfold wsV; exact List.mem_append_right _ h)
  have hc : Cond.codeWith y bytes maxL ret hh ∈ ws := by rw [hw]; exact List.mem_cons_self
  refine ⟨⟨hrc, hrs, hR.1, hR.2, pay_in ht hG, hc⟩, ht _ (hG _ hc).1, ok _ (by simp [wsV]), ⟨hd.1, hd.2.1⟩, fun sig h => ?_, ok _ (by simp [wsV]), ok _ (by simp [wsV]), ok _ (by simp [wsV])⟩
  have h2 := hd.2.2
  rw [h] at h2
  exact (Option.some.inj h2).symm
theorem vx_runVW {y : MethodName} {bytes cc : ByteArray} {maxL nL mc ms n index : Nat} {ret : Option FieldType} {hh : List (Nat × Nat × Nat × Nat)} {ws : List Cond} {rm : Room} {Pc : Array Value → State → Prop} {Qc : Array Value → State → Outcome → State → Prop} {free : Addr → Prop} {Ts : List Cond} {own C : String} {b : Addr} {As rest : List Value} {g : JFrame}
    (S : CallFix p m c cc nL s args Ts own) (hM : Met l y ws rm Pc Qc mc ms free) (cw : vx_CVW R s args own C index y bytes maxL ret hh ws rm mc ms n) (hp : PreV s H C b Pc As)
    (hg : g.method = m) (hn : As.length = n) (hsize : g.locals.size = nL) (hstack : g.stack = As.reverse ++ .ref b :: rest) (hW : 2 * g.monitorRoom + (rest.map fun v => v.category).sum ≤ 8) (hdg : decode cc g.pc = .ok (.invokevirtual index, 3)) (hf : cells + mc ≤ R.cells ∧ slots + ms ≤ R.slots) :
    va_Run p l e R s m args below meth c H locs cells slots mc ms g rest (Qc (Value.ref b :: As).toArray) free := by
  obtain ⟨⟨hrc, hrs, hfr, hlo, hws, hcw⟩, hcode, hini, hy, hlen, hl, hin, hse⟩ := cw
  have hK : Back l R p e below s args y 3 8 (PreOf R mc ms Pc) (PostOf Qc mc ms free) := va_backW (hh := hh) (bytes := bytes) (maxL := maxL) (ret := ret) hM hp.1 hrc hrs hfr hlo hws hcw (fun a' U hW => word_at hW (Or.inl (by first | rfl | simp [Cond.onTables, Cond.keeps, Cond.steady])) hini)
  obtain ⟨hx, hb, hml, ho, -⟩ := S
  obtain ⟨-, ⟨cellB, hcB, hoB, hclB⟩, hPc⟩ := hp
  intro T hT X
  obtain ⟨v, vm₁, ⟨U', l2, c2, s2⟩, hW₁, X', ⟨g', mk, t, L, e1, e2, hq, h1, hL, h2, h3⟩, st⟩ := vx_callVW X hx (C := C) (hh := hh) (bytes := bytes) (maxL := maxL) (ret := ret) ho hl hin hse hcode hy hK (by rw [hT]; exact hcB) hoB hclB hg (hsize.trans hml.symm) (argsL := As) (rest := rest) (fun sig h => hn.trans (hlen sig h)) hstack hW (by rw [hb]; exact hdg)
    (fun vm₁ hW₁ => ⟨hf.1, hf.2, hPc (T.setVm vm₁) hT hW₁⟩)
  dsimp only [Pt.U, Pt.locs, Pt.cells, Pt.slots] at X' e1 e2 h1 h2 h3 st
  subst h1; subst h2; subst h3
  exact ⟨v, (T.setVm vm₁).calling g' mk (Value.ref b :: As).toArray, t, U', L, hT, X', hL, e1, e2, hq, st⟩
section
variable {y : MethodName} {bytes cc : ByteArray} {maxL nL mc ms n index : Nat} {ret : Option FieldType} {ws : List Cond} {rm : Room} {Pc : Array Value → State → Prop} {Qc : Array Value → State → Outcome → State → Prop} {XC : String → State → State → Prop} {free : Addr → Prop} {Ts : List Cond} {own C : String} {b : Addr} {As rest : List Value} {g : JFrame}
theorem vx_runVX {hh : List (Nat × Nat × Nat × Nat)} (S : CallFix p m c cc nL s args Ts own) (hM : vx_Met l y ws rm Pc Qc XC mc ms free) (cw : vx_CVW R s args own C index y bytes maxL ret hh ws rm mc ms n) (hp : PreV s H C b Pc As)
    (hg : g.method = m) (hn : As.length = n) (hsize : g.locals.size = nL) (hstack : g.stack = As.reverse ++ .ref b :: rest) (hW : 2 * g.monitorRoom + (rest.map fun v => v.category).sum ≤ 8) (hdg : decode cc g.pc = .ok (.invokevirtual index, 3)) (hf : cells + mc ≤ R.cells ∧ slots + ms ≤ R.slots) :
    vx_Run p l e R s m args below meth c H locs cells slots mc ms g rest (Qc (Value.ref b :: As).toArray) XC free := by
  obtain ⟨⟨hrc, hrs, hfr, hlo, hws, hcw⟩, hcode, hini, hy, hlen, hl, hin, hse⟩ := cw
  have hK : vx_Back l R p e below s args y 3 8 (PreOf R mc ms Pc) (PostOf Qc mc ms free) (vx_Post XC mc ms free) := vx_backW (hh := hh) (bytes := bytes) (maxL := maxL) (ret := ret) hM hp.1 hrc hrs hfr hlo hws hcw (fun a' U hW => word_at hW (Or.inl (by first | rfl | simp [Cond.onTables, Cond.keeps, Cond.steady])) hini)
  obtain ⟨hx, hb, hml, ho, -⟩ := S
  obtain ⟨-, ⟨cellB, hcB, hoB, hclB⟩, hPc⟩ := hp
  intro T hT X
  rcases vx_callVX X hx (C := C) (hh := hh) (bytes := bytes) (maxL := maxL) (ret := ret) ho hl hin hse hcode hy hK (by rw [hT]; exact hcB) hoB hclB hg (hsize.trans hml.symm) (argsL := As) (rest := rest) (fun sig h => hn.trans (hlen sig h)) hstack hW (by rw [hb]; exact hdg)
    (fun vm₁ hW₁ => ⟨hf.1, hf.2, hPc (T.setVm vm₁) hT hW₁⟩) with ⟨v, vm₁, ⟨U', l2, c2, s2⟩, hW₁, X', ⟨g', mk, t, L, e1, e2, hq, h1, hL, h2, h3⟩, st⟩ | ⟨q, vm₁, ⟨U', l2, c2, s2⟩, hW₁, X', ⟨g', mk, t, L, E, ce, e1, e2, hq, hce, hcv, hcl, h1, hL, h2, h3⟩, st⟩
  · dsimp only [Pt.U, Pt.locs, Pt.cells, Pt.slots] at X' e1 e2 h1 h2 h3 st
    subst h1; subst h2; subst h3
    exact Or.inl ⟨v, (T.setVm vm₁).calling g' mk (Value.ref b :: As).toArray, t, U', L, hT, X', hL, e1, e2, hq, st⟩
  · dsimp only [Pt.U, Pt.locs, Pt.cells, Pt.slots] at X' e1 e2 h1 h2 h3 st hcl
    subst h1; subst h2; subst h3
    exact Or.inr ⟨q, (T.setVm vm₁).calling g' mk (Value.ref b :: As).toArray, t, U', L, E, ce, hT, X', hL, e1, e2, hq, hce, hcv, vx_cls hW₁ hcl, st⟩
theorem vx_runSX {hh : List (Nat × Nat × Nat × Nat)} (S : CallFix p m c cc nL s args Ts own) (hM : vx_Met l y ws rm Pc Qc XC mc ms free) (cw : vx_CSW R s args own index y bytes maxL ret hh ws rm mc ms n) (hp : PreS s H Pc As)
    (hg : g.method = m) (hn : As.length = n) (hsize : g.locals.size = nL) (hstack : g.stack = As.reverse ++ rest) (hW : 2 * g.monitorRoom + (rest.map fun v => v.category).sum ≤ 8) (hdg : decode cc g.pc = .ok (.invokestatic index, 3)) (hf : cells + mc ≤ R.cells ∧ slots + ms ≤ R.slots) :
    vx_Run p l e R s m args below meth c H locs cells slots mc ms g rest (Qc As.toArray) XC free := by
  obtain ⟨⟨hrc, hrs, hfr, hlo, hws, hcw⟩, hcode, hini, hy, hlen, hl, hstt⟩ := cw
  have hK : vx_Back l R p e below s args y 3 8 (PreOf R mc ms Pc) (PostOf Qc mc ms free) (vx_Post XC mc ms free) := vx_backW (hh := hh) (bytes := bytes) (maxL := maxL) (ret := ret) hM hp.1 hrc hrs hfr hlo hws hcw (fun a' U hW => word_at hW (Or.inl (by first | rfl | simp [Cond.onTables, Cond.keeps, Cond.steady])) hini)
  obtain ⟨hx, hb, hml, ho, -⟩ := S
  intro T hT X
  rcases vx_callSX X hx (hh := hh) (bytes := bytes) (maxL := maxL) (ret := ret) ho hl hstt hini hcode hy hK hg (hsize.trans hml.symm) (argsL := As) (rest := rest) (fun sig h => hn.trans (hlen sig h)) hstack hW (by rw [hb]; exact hdg)
    (fun vm₁ hW₁ => ⟨hf.1, hf.2, hp.2 (T.setVm vm₁) hT hW₁⟩) with ⟨v, vm₁, ⟨U', l2, c2, s2⟩, hW₁, X', ⟨g', mk, t, L, e1, e2, hq, h1, hL, h2, h3⟩, st⟩ | ⟨q, vm₁, ⟨U', l2, c2, s2⟩, hW₁, X', ⟨g', mk, t, L, E, ce, e1, e2, hq, hce, hcv, hcl, h1, hL, h2, h3⟩, st⟩
  · dsimp only [Pt.U, Pt.locs, Pt.cells, Pt.slots] at X' e1 e2 h1 h2 h3 st
    subst h1; subst h2; subst h3
    exact Or.inl ⟨v, (T.setVm vm₁).calling g' mk As.toArray, t, U', L, hT, X', hL, e1, e2, hq, st⟩
  · dsimp only [Pt.U, Pt.locs, Pt.cells, Pt.slots] at X' e1 e2 h1 h2 h3 st hcl
    subst h1; subst h2; subst h3
    exact Or.inr ⟨q, (T.setVm vm₁).calling g' mk As.toArray, t, U', L, E, ce, hT, X', hL, e1, e2, hq, hce, hcv, vx_cls hW₁ hcl, st⟩
end
end VXH
theorem vx_ofWH {l : Launch} {y : MethodName} {ws ws' : List Cond} {rm : Room} {Pc : Array Value → State → Prop} {Qc : Array Value → State → Outcome → State → Prop} {XC : String → State → State → Prop} {mc ms : Nat} {free : Addr → Prop} {cc : ByteArray} {maxL : Nat} {ret : Option FieldType} {hh : List (Nat × Nat × Nat × Nat)}
    (hy : plainName y.cls = true) (hw : ws = Cond.codeWith y cc maxL ret hh :: ws')
    (body : ∀ p e s m args below meth c s₁, BodyLoose p l y (headSpec ws rm) cc maxL ret e s m args below meth c s₁ → c.maxLocals = maxL → Pc args s →
      W p l e (headSpec ws rm).room s m args below meth c s.heap [] 0 0 (vx_MQ below Qc XC args s mc ms free) (entryFrame m args maxL)) : vx_Met l y ws rm Pc Qc XC mc ms free := by
  refine MetFree.of_bodyS (code := cc) (maxLocals := maxL) (ret := ret) hy ?_ ?_
  · intro args s m h hn
    obtain ⟨m9, meth, c, hn9, h1, h2, h3, h4, -, h5, h6, -⟩ := Cond.codeWith_spec (atoms_spec (ws := ws) h _ (by rw [hw]; exact List.mem_cons_self))
    cases hn.symm.trans hn9
    exact ⟨meth, c, h1, h2, h3, h4, h5, h6⟩
  · intro p e s m args below meth c s₁ B hml hP _
    have hh0 : s₁.heap = s.heap := by rw [B.state]; rfl
    obtain ⟨t, a1, o, b1, b2, b3⟩ := body p e s m args below meth c s₁ B hml hP s₁ hh0 (Stand.of_body B)
    exact ⟨t, o, a1, b1, b2, b3⟩
/-! ===== END ===== -/

/-! ===== BEGIN a constructor that throws (launches without stack traces) ===== -/
section VXIA
variable {p : Program} {l : Launch} {e : Env} {R : Room} {s : State} {m : MethodId} {args : Array Value} {below : List Frame} {meth : Method} {c : Code} {T : State} {locs : List Loc} {cells slots : Nat}
theorem vx_callI (X : Stand p l e R s m args below meth c T locs cells slots) (hexec : p.tables.exec = Jvm.exec) {own : String} {index : Nat} {y : MethodName} {bytes : ByteArray} {maxL : Nat}
    (hown : s.vm.findClass own = some m.cls) (hy1 : y.name = "<init>") (hlink : (Cond.methodLink own index y).before args s = true) (hinst : (Cond.instanceMethod y).before args s = true)
    (hcode : (Cond.code y bytes maxL none).before args s = true) (hy : y.cls ≠ "java/lang/invoke/MethodHandle" ∧ y.cls ≠ "java/lang/invoke/VarHandle")
    {W9 : Nat} {Pre : Pt → Array Value → Prop} {Post : Pt → Array Value → Option Value → Pt → Prop} {PostX : Pt → Array Value → Addr → Pt → Prop} (hK : vx_Back l R p e below s args y 3 W9 Pre Post PostX)
    {g : JFrame} (hg : g.method = m) (hsize : g.locals.size = c.maxLocals) {a : Addr} {argsL rest : List Value} (hlen : ∀ sig, parseMethodDescriptor y.desc = some sig → argsL.length = sig.parameters.length)
    (hstack : g.stack = argsL.reverse ++ .ref a :: rest) (hW : 2 * g.monitorRoom + (rest.map fun v => v.category).sum ≤ W9) (hdg : decode c.code g.pc = .ok (.invokespecial index, 3))
    (hpre : ∀ vm₁, s.WarmedH vm₁ → Pre ⟨T.setVm vm₁, locs, cells, slots⟩ (Value.ref a :: argsL).toArray) :
    (∃ (v : Option Value) (vm₁ : Vm) (B : Pt), s.WarmedH vm₁ ∧ Stand p l e R s m args below meth c B.U B.locs B.cells B.slots ∧ Post ⟨T.setVm vm₁, locs, cells, slots⟩ (Value.ref a :: argsL).toArray v B ∧
      ∀ target, Steps p.tables e below (B.U.setTop { g with pc := g.pc + 3, stack := v.toList ++ rest }) target → Steps p.tables e below (T.setTop g) target) ∨
    (∃ (q : Addr) (vm₁ : Vm) (B : Pt), s.WarmedH vm₁ ∧ Stand p l e R s m args below meth c B.U B.locs B.cells B.slots ∧ PostX ⟨T.setVm vm₁, locs, cells, slots⟩ (Value.ref a :: argsL).toArray q B ∧
      Steps p.tables e below (T.setTop g) ((B.U.setTop { g with stack := rest }).pushFrame (.throwing q))) := by
  subst hg
  have hpl : e.platform.magicAccessors = ({} : Platform).magicAccessors := by rw [X.admits.platform]
  obtain ⟨mk, methM, cM, kP, vm₁, hnamed, hmethM, hcodeM, -, hlocalsM, -, hkP, -, hW₁, hstep₁⟩ := Steps.initColdArgs (e := e) X.here hexec X.warmed hpl hown hy1 hy hlink hinst hcode (f := g) rfl hlen hstack hdg
  have X₁ := X.noted hW₁
  rcases hK g.method meth c ⟨T.setVm vm₁, locs, cells, slots⟩ { g with stack := rest } (.invokespecial index) mk (Value.ref a :: argsL).toArray X₁ rfl hsize hdg hW (X₁.named hnamed) (hpre vm₁ X₁.warmed) with ⟨v, B, X', hpost, hsteps⟩ | ⟨q, B, X', hpost, hsteps⟩
  · exact Or.inl ⟨v, vm₁, B, X₁.warmed, X', hpost, fun target h => hstep₁ _ fun acts => by rw [doInvoke_state]; exact hsteps.trans h⟩
  · exact Or.inr ⟨q, vm₁, B, X₁.warmed, X', hpost, hstep₁ _ fun acts => by rw [doInvoke_state]; exact hsteps⟩
end VXIA
section VXIB
variable {p : Program} {l : Launch} {e : Env} {R : Room} {s : State} {m : MethodId} {args : Array Value} {below : List Frame} {meth : Method} {c : Code} {H : Heap} {locs : List Loc} {cells slots : Nat}
variable {y : MethodName} {bytes cc : ByteArray} {maxL nL mc ms n index : Nat} {ret : Option FieldType} {ws : List Cond} {rm : Room} {Pc : Array Value → State → Prop} {Qc : Array Value → State → Outcome → State → Prop} {XC : String → State → State → Prop} {free : Addr → Prop} {Ts : List Cond} {own C : String} {b : Addr} {As rest : List Value} {g : JFrame}
theorem vx_runI (S : CallFix p m c cc nL s args Ts own) (hM : vx_Met l y ws rm Pc Qc XC mc ms free) (cw : CallB R s args own index y bytes maxL none ws rm mc ms n ∧ y.name = "<init>" ∧ (Cond.instanceMethod y).before args s = true) (hp : PreS s H Pc (.ref b :: As))
    (hg : g.method = m) (hn : As.length = n) (hsize : g.locals.size = nL) (hstack : g.stack = As.reverse ++ .ref b :: rest) (hW : 2 * g.monitorRoom + (rest.map fun v => v.category).sum ≤ 8) (hdg : decode cc g.pc = .ok (.invokespecial index, 3)) (hf : cells + mc ≤ R.cells ∧ slots + ms ≤ R.slots) :
    vx_Run p l e R s m args below meth c H locs cells slots mc ms g rest (Qc (Value.ref b :: As).toArray) XC free := by
  have hK : vx_Back l R p e below s args y 3 8 (PreOf R mc ms Pc) (PostOf Qc mc ms free) (vx_Post XC mc ms free) := vx_callBack cw.1 hM hp.1
  obtain ⟨⟨-, -, -, -, -, -, hcode, -, hy, hlen, hl⟩, hy1, hin⟩ := cw
  obtain ⟨hx, hb, hml, ho, -⟩ := S
  have hPc := hp.2
  intro T hT X
  rcases vx_callI X hx (bytes := bytes) (maxL := maxL) ho hy1 hl hin hcode hy hK hg (hsize.trans hml.symm) (a := b) (argsL := As) (rest := rest) (fun sig h => hn.trans (hlen sig h)) hstack hW (by rw [hb]; exact hdg)
    (fun vm₁ hW₁ => ⟨hf.1, hf.2, hPc (T.setVm vm₁) hT hW₁⟩) with ⟨v, vm₁, ⟨U', l2, c2, s2⟩, hW₁, X', ⟨g', mk, t, L, e1, e2, hq, h1, hL, h2, h3⟩, st⟩ | ⟨q, vm₁, ⟨U', l2, c2, s2⟩, hW₁, X', ⟨g', mk, t, L, E, ce, e1, e2, hq, hce, hcv, hcl, h1, hL, h2, h3⟩, st⟩
  · dsimp only [Pt.U, Pt.locs, Pt.cells, Pt.slots] at X' e1 e2 h1 h2 h3 st
    subst h1; subst h2; subst h3
    exact Or.inl ⟨v, (T.setVm vm₁).calling g' mk (Value.ref b :: As).toArray, t, U', L, hT, X', hL, e1, e2, hq, st⟩
  · dsimp only [Pt.U, Pt.locs, Pt.cells, Pt.slots] at X' e1 e2 h1 h2 h3 st hcl
    subst h1; subst h2; subst h3
    exact Or.inr ⟨q, (T.setVm vm₁).calling g' mk (Value.ref b :: As).toArray, t, U', L, E, ce, hT, X', hL, e1, e2, hq, hce, hcv, vx_cls hW₁ hcl, st⟩
end VXIB
/-! ===== END ===== -/
end
section
/-! ===== BEGIN printed: names, fields, word lists, decode rows ===== -/
def RX0 : String := "ShopPaymaster$Land"
def TX0 : u_T := fun k => match k with
  | 0 => ("ShopPaymaster$Land", "number", "I", true)
  | 1 => ("ShopPaymaster$Land", "rate", "I", false)
  | 2 => ("ShopPaymaster$Land", "isHeld", "Z", false)
  | _ => ("ShopPaymaster$Land", "heldSum", "I", false)
def tyX0 : Nat → FieldType := fun k => match k with
  | 0 => .int
  | 1 => .int
  | 2 => .boolean
  | _ => .int
abbrev wsX00 : List Cond := u_ws RX0 TX0 4
theorem nmX0 : ∀ a, a < 4 → ∀ b, b < 4 → a ≠ b → (TX0 a).2.1 ≠ (TX0 b).2.1 := by decide +kernel
theorem tyX0_ok : ∀ k, k < 4 → parseFieldDescriptor (TX0 k).2.2.1 = some (tyX0 k) := by decide +kernel
abbrev cX0_init : ByteArray := prog_2_method_1_code
def yX0_init : MethodName := ⟨RX0, "<init>", "(I)V"⟩
abbrev cX0_taxIn : ByteArray := prog_2_method_2_code
def yX0_taxIn : MethodName := ⟨RX0, "taxIn", "(I)I"⟩
def RX1 : String := "ShopPaymaster$Maker"
def TX1 : u_T := fun k => match k with
  | 0 => ("ShopPaymaster$Maker", "threshold", "I", true)
  | 1 => ("ShopPaymaster$Maker", "payouts", "[I", true)
  | 2 => ("ShopPaymaster$Maker", "carriedSum", "I", false)
  | 3 => ("ShopPaymaster$Maker", "partsOfMonth", "I", false)
  | _ => ("ShopPaymaster$Maker", "netsOfYear", "I", false)
def tyX1 : Nat → FieldType := fun k => match k with
  | 0 => .int
  | 1 => .array .int
  | 2 => .int
  | 3 => .int
  | _ => .int
abbrev wsX10 : List Cond := u_ws RX1 TX1 5
theorem nmX1 : ∀ a, a < 5 → ∀ b, b < 5 → a ≠ b → (TX1 a).2.1 ≠ (TX1 b).2.1 := by decide +kernel
theorem tyX1_ok : ∀ k, k < 5 → parseFieldDescriptor (TX1 k).2.2.1 = some (tyX1 k) := by decide +kernel
abbrev cX1_init : ByteArray := prog_3_method_1_code
def yX1_init : MethodName := ⟨RX1, "<init>", "(I)V"⟩
abbrev cX1_currentBalance : ByteArray := prog_3_method_2_code
def yX1_currentBalance : MethodName := ⟨RX1, "currentBalance", "()I"⟩
abbrev cX1_settle : ByteArray := prog_3_method_3_code
def yX1_settle : MethodName := ⟨RX1, "settle", "(I)V"⟩
abbrev cX1_payoutOf : ByteArray := prog_3_method_4_code
def yX1_payoutOf : MethodName := ⟨RX1, "payoutOf", "(I)I"⟩
def RX2 : String := "ShopPaymaster$Product"
def TX2 : u_T := fun k => match k with
  | 0 => ("ShopPaymaster$Product", "number", "I", true)
  | 1 => ("ShopPaymaster$Product", "maker", "LShopPaymaster$Maker;", true)
  | _ => ("ShopPaymaster$Product", "prices", "[I", true)
def tyX2 : Nat → FieldType := fun k => match k with
  | 0 => .int
  | 1 => .object "ShopPaymaster$Maker"
  | _ => .array .int
abbrev wsX20 : List Cond := u_ws RX2 TX2 3
theorem nmX2 : ∀ a, a < 3 → ∀ b, b < 3 → a ≠ b → (TX2 a).2.1 ≠ (TX2 b).2.1 := by decide +kernel
theorem tyX2_ok : ∀ k, k < 3 → parseFieldDescriptor (TX2 k).2.2.1 = some (tyX2 k) := by decide +kernel
abbrev cX2_init : ByteArray := prog_4_method_1_code
def yX2_init : MethodName := ⟨RX2, "<init>", "(ILShopPaymaster$Maker;I)V"⟩
abbrev cX2_priceIn : ByteArray := prog_4_method_2_code
def yX2_priceIn : MethodName := ⟨RX2, "priceIn", "(LShopPaymaster$Land;)I"⟩
abbrev cX2_changePrice : ByteArray := prog_4_method_3_code
def yX2_changePrice : MethodName := ⟨RX2, "changePrice", "(LShopPaymaster$Land;I)I"⟩
def RX3 : String := "ShopPaymaster$Sale"
def TX3 : u_T := fun k => match k with
  | 0 => ("ShopPaymaster$Sale", "maker", "LShopPaymaster$Maker;", true)
  | 1 => ("ShopPaymaster$Sale", "land", "LShopPaymaster$Land;", true)
  | 2 => ("ShopPaymaster$Sale", "month", "I", true)
  | 3 => ("ShopPaymaster$Sale", "paid", "I", true)
  | 4 => ("ShopPaymaster$Sale", "tax", "I", true)
  | 5 => ("ShopPaymaster$Sale", "share", "I", true)
  | 6 => ("ShopPaymaster$Sale", "part", "I", true)
  | 7 => ("ShopPaymaster$Sale", "isTaxHeld", "Z", true)
  | _ => ("ShopPaymaster$Sale", "isRefunded", "Z", false)
def tyX3 : Nat → FieldType := fun k => match k with
  | 0 => .object "ShopPaymaster$Maker"
  | 1 => .object "ShopPaymaster$Land"
  | 2 => .int
  | 3 => .int
  | 4 => .int
  | 5 => .int
  | 6 => .int
  | 7 => .boolean
  | _ => .boolean
abbrev wsX30 : List Cond := u_ws RX3 TX3 9
theorem nmX3 : ∀ a, a < 9 → ∀ b, b < 9 → a ≠ b → (TX3 a).2.1 ≠ (TX3 b).2.1 := by decide +kernel
theorem tyX3_ok : ∀ k, k < 9 → parseFieldDescriptor (TX3 k).2.2.1 = some (tyX3 k) := by decide +kernel
abbrev cX3_init : ByteArray := prog_5_method_1_code
def yX3_init : MethodName := ⟨RX3, "<init>", "(LShopPaymaster$Maker;LShopPaymaster$Land;III)V"⟩
def RX4 : String := "ShopPaymaster$Subscription"
def TX4 : u_T := fun k => match k with
  | 0 => ("ShopPaymaster$Subscription", "land", "LShopPaymaster$Land;", true)
  | 1 => ("ShopPaymaster$Subscription", "isFirstHalf", "Z", true)
  | 2 => ("ShopPaymaster$Subscription", "product", "LShopPaymaster$Product;", false)
  | 3 => ("ShopPaymaster$Subscription", "isFailing", "Z", false)
  | 4 => ("ShopPaymaster$Subscription", "failures", "I", false)
  | 5 => ("ShopPaymaster$Subscription", "paymentsMade", "I", false)
  | _ => ("ShopPaymaster$Subscription", "nextDay", "I", false)
def tyX4 : Nat → FieldType := fun k => match k with
  | 0 => .object "ShopPaymaster$Land"
  | 1 => .boolean
  | 2 => .object "ShopPaymaster$Product"
  | 3 => .boolean
  | 4 => .int
  | 5 => .int
  | _ => .int
abbrev wsX40 : List Cond := u_ws RX4 TX4 7
theorem nmX4 : ∀ a, a < 7 → ∀ b, b < 7 → a ≠ b → (TX4 a).2.1 ≠ (TX4 b).2.1 := by decide +kernel
theorem tyX4_ok : ∀ k, k < 7 → parseFieldDescriptor (TX4 k).2.2.1 = some (tyX4 k) := by decide +kernel
abbrev cX4_init : ByteArray := prog_6_method_1_code
def yX4_init : MethodName := ⟨RX4, "<init>", "(LShopPaymaster$Product;LShopPaymaster$Land;IZ)V"⟩
abbrev cX4_isEnded : ByteArray := prog_6_method_2_code
def yX4_isEnded : MethodName := ⟨RX4, "isEnded", "()Z"⟩
abbrev cX4_end : ByteArray := prog_6_method_3_code
def yX4_end : MethodName := ⟨RX4, "end", "()V"⟩
abbrev cX4_priceOfNext : ByteArray := prog_6_method_4_code
def yX4_priceOfNext : MethodName := ⟨RX4, "priceOfNext", "()I"⟩
abbrev cX4_countPayment : ByteArray := prog_6_method_5_code
def yX4_countPayment : MethodName := ⟨RX4, "countPayment", "(I)V"⟩
abbrev cX4_fail : ByteArray := prog_6_method_6_code
def yX4_fail : MethodName := ⟨RX4, "fail", "()V"⟩
def RX5 : String := "ShopPaymaster"
def TX5 : u_T := fun k => match k with
  | 0 => ("ShopPaymaster", "lands", "[LShopPaymaster$Land;", true)
  | 1 => ("ShopPaymaster", "makers", "Ljava/util/ArrayList;", true)
  | 2 => ("ShopPaymaster", "products", "Ljava/util/ArrayList;", true)
  | 3 => ("ShopPaymaster", "sales", "Ljava/util/ArrayList;", true)
  | 4 => ("ShopPaymaster", "subscriptions", "Ljava/util/ArrayList;", true)
  | 5 => ("ShopPaymaster", "day", "I", false)
  | 6 => ("ShopPaymaster", "shopSum", "I", false)
  | _ => ("ShopPaymaster", "takingsSum", "I", false)
def tyX5 : Nat → FieldType := fun k => match k with
  | 0 => .array (.object "ShopPaymaster$Land")
  | 1 => .object "java/util/ArrayList"
  | 2 => .object "java/util/ArrayList"
  | 3 => .object "java/util/ArrayList"
  | 4 => .object "java/util/ArrayList"
  | 5 => .int
  | 6 => .int
  | _ => .int
abbrev wsX50 : List Cond := u_ws RX5 TX5 8
theorem nmX5 : ∀ a, a < 8 → ∀ b, b < 8 → a ≠ b → (TX5 a).2.1 ≠ (TX5 b).2.1 := by decide +kernel
theorem tyX5_ok : ∀ k, k < 8 → parseFieldDescriptor (TX5 k).2.2.1 = some (tyX5 k) := by decide +kernel
abbrev cX5_init : ByteArray := prog_1_method_1_code
def yX5_init : MethodName := ⟨RX5, "<init>", "()V"⟩
abbrev cX5_setTax : ByteArray := prog_1_method_2_code
def yX5_setTax : MethodName := ⟨RX5, "setTax", "(IIZ)I"⟩
abbrev cX5_addMaker : ByteArray := prog_1_method_3_code
def yX5_addMaker : MethodName := ⟨RX5, "addMaker", "(I)I"⟩
abbrev cX5_addProduct : ByteArray := prog_1_method_4_code
def yX5_addProduct : MethodName := ⟨RX5, "addProduct", "(II)I"⟩
abbrev cX5_setPrice : ByteArray := prog_1_method_5_code
def yX5_setPrice : MethodName := ⟨RX5, "setPrice", "(III)I"⟩
abbrev cX5_buy : ByteArray := prog_1_method_6_code
def yX5_buy : MethodName := ⟨RX5, "buy", "(II)I"⟩
abbrev cX5_refund : ByteArray := prog_1_method_7_code
def yX5_refund : MethodName := ⟨RX5, "refund", "(I)I"⟩
abbrev cX5_sales : ByteArray := prog_1_method_8_code
def yX5_sales : MethodName := ⟨RX5, "sales", "()I"⟩
abbrev cX5_paid : ByteArray := prog_1_method_9_code
def yX5_paid : MethodName := ⟨RX5, "paid", "(I)I"⟩
abbrev cX5_tax : ByteArray := prog_1_method_10_code
def yX5_tax : MethodName := ⟨RX5, "tax", "(I)I"⟩
abbrev cX5_shopShare : ByteArray := prog_1_method_11_code
def yX5_shopShare : MethodName := ⟨RX5, "shopShare", "(I)I"⟩
abbrev cX5_makerPart : ByteArray := prog_1_method_12_code
def yX5_makerPart : MethodName := ⟨RX5, "makerPart", "(I)I"⟩
abbrev cX5_subscribe : ByteArray := prog_1_method_13_code
def yX5_subscribe : MethodName := ⟨RX5, "subscribe", "(IIIZ)I"⟩
abbrev cX5_move : ByteArray := prog_1_method_14_code
def yX5_move : MethodName := ⟨RX5, "move", "(II)I"⟩
abbrev cX5_setFailing : ByteArray := prog_1_method_15_code
def yX5_setFailing : MethodName := ⟨RX5, "setFailing", "(IZ)V"⟩
abbrev cX5_cancel : ByteArray := prog_1_method_16_code
def yX5_cancel : MethodName := ⟨RX5, "cancel", "(I)I"⟩
abbrev cX5_payments : ByteArray := prog_1_method_17_code
def yX5_payments : MethodName := ⟨RX5, "payments", "(I)I"⟩
abbrev cX5_next : ByteArray := prog_1_method_18_code
def yX5_next : MethodName := ⟨RX5, "next", "(I)I"⟩
abbrev cX5_payout : ByteArray := prog_1_method_19_code
def yX5_payout : MethodName := ⟨RX5, "payout", "(II)I"⟩
abbrev cX5_carried : ByteArray := prog_1_method_20_code
def yX5_carried : MethodName := ⟨RX5, "carried", "(I)I"⟩
abbrev cX5_balance : ByteArray := prog_1_method_21_code
def yX5_balance : MethodName := ⟨RX5, "balance", "(I)I"⟩
abbrev cX5_heldTax : ByteArray := prog_1_method_22_code
def yX5_heldTax : MethodName := ⟨RX5, "heldTax", "(I)I"⟩
abbrev cX5_shop : ByteArray := prog_1_method_23_code
def yX5_shop : MethodName := ⟨RX5, "shop", "()I"⟩
abbrev cX5_takings : ByteArray := prog_1_method_24_code
def yX5_takings : MethodName := ⟨RX5, "takings", "()I"⟩
abbrev cX5_pass : ByteArray := prog_1_method_25_code
def yX5_pass : MethodName := ⟨RX5, "pass", "(I)I"⟩
abbrev cX5_day : ByteArray := prog_1_method_26_code
def yX5_day : MethodName := ⟨RX5, "day", "()I"⟩
abbrev cX5_landAt : ByteArray := prog_1_method_27_code
def yX5_landAt : MethodName := ⟨RX5, "landAt", "(I)LShopPaymaster$Land;"⟩
abbrev cX5_makerAt : ByteArray := prog_1_method_28_code
def yX5_makerAt : MethodName := ⟨RX5, "makerAt", "(I)LShopPaymaster$Maker;"⟩
abbrev cX5_productAt : ByteArray := prog_1_method_29_code
def yX5_productAt : MethodName := ⟨RX5, "productAt", "(I)LShopPaymaster$Product;"⟩
abbrev cX5_saleAt : ByteArray := prog_1_method_30_code
def yX5_saleAt : MethodName := ⟨RX5, "saleAt", "(I)LShopPaymaster$Sale;"⟩
abbrev cX5_subscriptionAt : ByteArray := prog_1_method_31_code
def yX5_subscriptionAt : MethodName := ⟨RX5, "subscriptionAt", "(I)LShopPaymaster$Subscription;"⟩
abbrev cX5_requireRange : ByteArray := prog_1_method_32_code
def yX5_requireRange : MethodName := ⟨RX5, "requireRange", "(III)V"⟩
abbrev cX5_requireRoom : ByteArray := prog_1_method_33_code
def yX5_requireRoom : MethodName := ⟨RX5, "requireRoom", "(II)V"⟩
abbrev cX5_requireRunning : ByteArray := prog_1_method_34_code
def yX5_requireRunning : MethodName := ⟨RX5, "requireRunning", "(LShopPaymaster$Subscription;)V"⟩
abbrev cX5_currentMonth : ByteArray := prog_1_method_35_code
def yX5_currentMonth : MethodName := ⟨RX5, "currentMonth", "()I"⟩
abbrev cX5_sell : ByteArray := prog_1_method_36_code
def yX5_sell : MethodName := ⟨RX5, "sell", "(LShopPaymaster$Product;LShopPaymaster$Land;IZ)I"⟩
abbrev cX5_book : ByteArray := prog_1_method_37_code
def yX5_book : MethodName := ⟨RX5, "book", "(LShopPaymaster$Sale;I)V"⟩
abbrev cX5_beginNextDay : ByteArray := prog_1_method_38_code
def yX5_beginNextDay : MethodName := ⟨RX5, "beginNextDay", "()I"⟩
abbrev cX5_closeMonth : ByteArray := prog_1_method_39_code
def yX5_closeMonth : MethodName := ⟨RX5, "closeMonth", "(I)V"⟩
abbrev cX5_beginYear : ByteArray := prog_1_method_40_code
def yX5_beginYear : MethodName := ⟨RX5, "beginYear", "()V"⟩
abbrev cX5_collectPayments : ByteArray := prog_1_method_41_code
def yX5_collectPayments : MethodName := ⟨RX5, "collectPayments", "()I"⟩
abbrev cX5_tryPayment : ByteArray := prog_1_method_42_code
def yX5_tryPayment : MethodName := ⟨RX5, "tryPayment", "(LShopPaymaster$Subscription;)Z"⟩
def RX6 : String := "ShopPaymasterModel"
def TX6 : u_T := fun k => match k with
  | 0 => ("ShopPaymasterModel", "day", "I", false)
  | 1 => ("ShopPaymasterModel", "rates", "[I", true)
  | 2 => ("ShopPaymasterModel", "passedOn", "[I", true)
  | 3 => ("ShopPaymasterModel", "heldTaxes", "[I", true)
  | 4 => ("ShopPaymasterModel", "makers", "I", false)
  | 5 => ("ShopPaymasterModel", "thresholds", "[I", true)
  | 6 => ("ShopPaymasterModel", "yearNets", "[I", true)
  | 7 => ("ShopPaymasterModel", "months", "[I", true)
  | 8 => ("ShopPaymasterModel", "carries", "[I", true)
  | 9 => ("ShopPaymasterModel", "payouts", "[I", true)
  | 10 => ("ShopPaymasterModel", "products", "I", false)
  | 11 => ("ShopPaymasterModel", "ofMaker", "[I", true)
  | 12 => ("ShopPaymasterModel", "prices", "[I", true)
  | 13 => ("ShopPaymasterModel", "sales", "I", false)
  | 14 => ("ShopPaymasterModel", "rows", "[J", true)
  | 15 => ("ShopPaymasterModel", "plans", "I", false)
  | 16 => ("ShopPaymasterModel", "planProducts", "[I", true)
  | 17 => ("ShopPaymasterModel", "planLands", "[I", true)
  | 18 => ("ShopPaymasterModel", "nexts", "[I", true)
  | 19 => ("ShopPaymasterModel", "tries", "[I", true)
  | 20 => ("ShopPaymasterModel", "paids", "[I", true)
  | 21 => ("ShopPaymasterModel", "halves", "[I", true)
  | 22 => ("ShopPaymasterModel", "failings", "[I", true)
  | 23 => ("ShopPaymasterModel", "shop", "I", false)
  | 24 => ("ShopPaymasterModel", "takings", "I", false)
  | _ => ("ShopPaymasterModel", "thrown", "I", false)
def tyX6 : Nat → FieldType := fun k => match k with
  | 0 => .int
  | 1 => .array .int
  | 2 => .array .int
  | 3 => .array .int
  | 4 => .int
  | 5 => .array .int
  | 6 => .array .int
  | 7 => .array .int
  | 8 => .array .int
  | 9 => .array .int
  | 10 => .int
  | 11 => .array .int
  | 12 => .array .int
  | 13 => .int
  | 14 => .array .long
  | 15 => .int
  | 16 => .array .int
  | 17 => .array .int
  | 18 => .array .int
  | 19 => .array .int
  | 20 => .array .int
  | 21 => .array .int
  | 22 => .array .int
  | 23 => .int
  | 24 => .int
  | _ => .int
abbrev wsX60 : List Cond := u_ws RX6 TX6 26
theorem nmX6 : ∀ a, a < 26 → ∀ b, b < 26 → a ≠ b → (TX6 a).2.1 ≠ (TX6 b).2.1 := by decide +kernel
theorem tyX6_ok : ∀ k, k < 26 → parseFieldDescriptor (TX6 k).2.2.1 = some (tyX6 k) := by decide +kernel
abbrev cX6_init : ByteArray := prog_8_method_1_code
def yX6_init : MethodName := ⟨RX6, "<init>", "()V"⟩
abbrev cX6_thrown : ByteArray := prog_8_method_2_code
def yX6_thrown : MethodName := ⟨RX6, "thrown", "()I"⟩
abbrev cX6_fails : ByteArray := prog_8_method_3_code
def yX6_fails : MethodName := ⟨RX6, "fails", "(I)I"⟩
abbrev cX6_in : ByteArray := prog_8_method_4_code
def yX6_in : MethodName := ⟨RX6, "in", "(III)Z"⟩
abbrev cX6_setTax : ByteArray := prog_8_method_5_code
def yX6_setTax : MethodName := ⟨RX6, "setTax", "(IIZ)I"⟩
abbrev cX6_addMaker : ByteArray := prog_8_method_6_code
def yX6_addMaker : MethodName := ⟨RX6, "addMaker", "(I)I"⟩
abbrev cX6_addProduct : ByteArray := prog_8_method_7_code
def yX6_addProduct : MethodName := ⟨RX6, "addProduct", "(II)I"⟩
abbrev cX6_setPrice : ByteArray := prog_8_method_8_code
def yX6_setPrice : MethodName := ⟨RX6, "setPrice", "(III)I"⟩
abbrev cX6_part : ByteArray := prog_8_method_9_code
def yX6_part : MethodName := ⟨RX6, "part", "(JII)I"⟩
abbrev cX6_priceOf : ByteArray := prog_8_method_10_code
def yX6_priceOf : MethodName := ⟨RX6, "priceOf", "(J)I"⟩
abbrev cX6_taxOf : ByteArray := prog_8_method_11_code
def yX6_taxOf : MethodName := ⟨RX6, "taxOf", "(J)I"⟩
abbrev cX6_shareOf : ByteArray := prog_8_method_12_code
def yX6_shareOf : MethodName := ⟨RX6, "shareOf", "(J)I"⟩
abbrev cX6_partOf : ByteArray := prog_8_method_13_code
def yX6_partOf : MethodName := ⟨RX6, "partOf", "(J)I"⟩
abbrev cX6_counts : ByteArray := prog_8_method_14_code
def yX6_counts : MethodName := ⟨RX6, "counts", "(JI)V"⟩
abbrev cX6_sells : ByteArray := prog_8_method_15_code
def yX6_sells : MethodName := ⟨RX6, "sells", "(IIIZ)I"⟩
abbrev cX6_buy : ByteArray := prog_8_method_16_code
def yX6_buy : MethodName := ⟨RX6, "buy", "(II)I"⟩
abbrev cX6_isSale : ByteArray := prog_8_method_17_code
def yX6_isSale : MethodName := ⟨RX6, "isSale", "(I)Z"⟩
abbrev cX6_refund : ByteArray := prog_8_method_18_code
def yX6_refund : MethodName := ⟨RX6, "refund", "(I)I"⟩
abbrev cX6_sales : ByteArray := prog_8_method_19_code
def yX6_sales : MethodName := ⟨RX6, "sales", "()I"⟩
abbrev cX6_paid : ByteArray := prog_8_method_20_code
def yX6_paid : MethodName := ⟨RX6, "paid", "(I)I"⟩
abbrev cX6_tax : ByteArray := prog_8_method_21_code
def yX6_tax : MethodName := ⟨RX6, "tax", "(I)I"⟩
abbrev cX6_shopShare : ByteArray := prog_8_method_22_code
def yX6_shopShare : MethodName := ⟨RX6, "shopShare", "(I)I"⟩
abbrev cX6_makerPart : ByteArray := prog_8_method_23_code
def yX6_makerPart : MethodName := ⟨RX6, "makerPart", "(I)I"⟩
abbrev cX6_subscribe : ByteArray := prog_8_method_24_code
def yX6_subscribe : MethodName := ⟨RX6, "subscribe", "(IIIZ)I"⟩
abbrev cX6_isPlan : ByteArray := prog_8_method_25_code
def yX6_isPlan : MethodName := ⟨RX6, "isPlan", "(I)Z"⟩
abbrev cX6_move : ByteArray := prog_8_method_26_code
def yX6_move : MethodName := ⟨RX6, "move", "(II)I"⟩
abbrev cX6_setFailing : ByteArray := prog_8_method_27_code
def yX6_setFailing : MethodName := ⟨RX6, "setFailing", "(IZ)V"⟩
abbrev cX6_cancel : ByteArray := prog_8_method_28_code
def yX6_cancel : MethodName := ⟨RX6, "cancel", "(I)I"⟩
abbrev cX6_payments : ByteArray := prog_8_method_29_code
def yX6_payments : MethodName := ⟨RX6, "payments", "(I)I"⟩
abbrev cX6_next : ByteArray := prog_8_method_30_code
def yX6_next : MethodName := ⟨RX6, "next", "(I)I"⟩
abbrev cX6_payout : ByteArray := prog_8_method_31_code
def yX6_payout : MethodName := ⟨RX6, "payout", "(II)I"⟩
abbrev cX6_isMaker : ByteArray := prog_8_method_32_code
def yX6_isMaker : MethodName := ⟨RX6, "isMaker", "(I)Z"⟩
abbrev cX6_carried : ByteArray := prog_8_method_33_code
def yX6_carried : MethodName := ⟨RX6, "carried", "(I)I"⟩
abbrev cX6_balance : ByteArray := prog_8_method_34_code
def yX6_balance : MethodName := ⟨RX6, "balance", "(I)I"⟩
abbrev cX6_heldTax : ByteArray := prog_8_method_35_code
def yX6_heldTax : MethodName := ⟨RX6, "heldTax", "(I)I"⟩
abbrev cX6_shop : ByteArray := prog_8_method_36_code
def yX6_shop : MethodName := ⟨RX6, "shop", "()I"⟩
abbrev cX6_takings : ByteArray := prog_8_method_37_code
def yX6_takings : MethodName := ⟨RX6, "takings", "()I"⟩
abbrev cX6_closes : ByteArray := prog_8_method_38_code
def yX6_closes : MethodName := ⟨RX6, "closes", "(I)V"⟩
abbrev cX6_pays : ByteArray := prog_8_method_39_code
def yX6_pays : MethodName := ⟨RX6, "pays", "(I)Z"⟩
abbrev cX6_pass : ByteArray := prog_8_method_40_code
def yX6_pass : MethodName := ⟨RX6, "pass", "(I)I"⟩
abbrev cX6_day : ByteArray := prog_8_method_41_code
def yX6_day : MethodName := ⟨RX6, "day", "()I"⟩
def RJx145de : String := "java/io/Serializable"
def TJx145de : u_T := fun k => match k with
  | _ => ("", "", "", false)
def tyJx145de : Nat → FieldType := fun k => match k with
  | _ => .int
abbrev wsJx145de0 : List Cond := u_ws RJx145de TJx145de 0
theorem nmJx145de : ∀ a, a < 0 → ∀ b, b < 0 → a ≠ b → (TJx145de a).2.1 ≠ (TJx145de b).2.1 := by decide +kernel
theorem tyJx145de_ok : ∀ k, k < 0 → parseFieldDescriptor (TJx145de k).2.2.1 = some (tyJx145de k) := by decide +kernel
def RJx8e188 : String := "java/lang/Cloneable"
def TJx8e188 : u_T := fun k => match k with
  | _ => ("", "", "", false)
def tyJx8e188 : Nat → FieldType := fun k => match k with
  | _ => .int
abbrev wsJx8e1880 : List Cond := u_ws RJx8e188 TJx8e188 0
theorem nmJx8e188 : ∀ a, a < 0 → ∀ b, b < 0 → a ≠ b → (TJx8e188 a).2.1 ≠ (TJx8e188 b).2.1 := by decide +kernel
theorem tyJx8e188_ok : ∀ k, k < 0 → parseFieldDescriptor (TJx8e188 k).2.2.1 = some (tyJx8e188 k) := by decide +kernel
def RJxab1ab : String := "java/lang/Iterable"
def TJxab1ab : u_T := fun k => match k with
  | _ => ("", "", "", false)
def tyJxab1ab : Nat → FieldType := fun k => match k with
  | _ => .int
abbrev wsJxab1ab0 : List Cond := u_ws RJxab1ab TJxab1ab 0
theorem nmJxab1ab : ∀ a, a < 0 → ∀ b, b < 0 → a ≠ b → (TJxab1ab a).2.1 ≠ (TJxab1ab b).2.1 := by decide +kernel
theorem tyJxab1ab_ok : ∀ k, k < 0 → parseFieldDescriptor (TJxab1ab k).2.2.1 = some (tyJxab1ab k) := by decide +kernel
def RJ9 : String := "java/lang/Math"
def TJ9 : u_T := fun k => match k with
  | _ => ("", "", "", false)
def tyJ9 : Nat → FieldType := fun k => match k with
  | _ => .int
abbrev wsJ90 : List Cond := u_ws RJ9 TJ9 0
theorem nmJ9 : ∀ a, a < 0 → ∀ b, b < 0 → a ≠ b → (TJ9 a).2.1 ≠ (TJ9 b).2.1 := by decide +kernel
theorem tyJ9_ok : ∀ k, k < 0 → parseFieldDescriptor (TJ9 k).2.2.1 = some (tyJ9 k) := by decide +kernel
abbrev cJ9_max_7cf53 : ByteArray := prog_16_method_65_code
def yJ9_max_7cf53 : MethodName := ⟨RJ9, "max", "(II)I"⟩
abbrev cJ9_min_7cf53 : ByteArray := prog_16_method_69_code
def yJ9_min_7cf53 : MethodName := ⟨RJ9, "min", "(II)I"⟩
def RJ0 : String := "java/lang/String"
def TJ0 : u_T := fun k => match k with
  | _ => ("", "", "", false)
def tyJ0 : Nat → FieldType := fun k => match k with
  | _ => .int
abbrev wsJ00 : List Cond := u_ws RJ0 TJ0 0
theorem nmJ0 : ∀ a, a < 0 → ∀ b, b < 0 → a ≠ b → (TJ0 a).2.1 ≠ (TJ0 b).2.1 := by decide +kernel
theorem tyJ0_ok : ∀ k, k < 0 → parseFieldDescriptor (TJ0 k).2.2.1 = some (tyJ0 k) := by decide +kernel
def RJ10 : String := "java/lang/System"
def TJ10 : u_T := fun k => match k with
  | _ => ("", "", "", false)
def tyJ10 : Nat → FieldType := fun k => match k with
  | _ => .int
abbrev wsJ100 : List Cond := u_ws RJ10 TJ10 0
theorem nmJ10 : ∀ a, a < 0 → ∀ b, b < 0 → a ≠ b → (TJ10 a).2.1 ≠ (TJ10 b).2.1 := by decide +kernel
theorem tyJ10_ok : ∀ k, k < 0 → parseFieldDescriptor (TJ10 k).2.2.1 = some (tyJ10 k) := by decide +kernel
def RJxa1e45 : String := "java/util/AbstractCollection"
def TJxa1e45 : u_T := fun k => match k with
  | _ => ("", "", "", false)
def tyJxa1e45 : Nat → FieldType := fun k => match k with
  | _ => .int
abbrev wsJxa1e450 : List Cond := u_ws RJxa1e45 TJxa1e45 0
theorem nmJxa1e45 : ∀ a, a < 0 → ∀ b, b < 0 → a ≠ b → (TJxa1e45 a).2.1 ≠ (TJxa1e45 b).2.1 := by decide +kernel
theorem tyJxa1e45_ok : ∀ k, k < 0 → parseFieldDescriptor (TJxa1e45 k).2.2.1 = some (tyJxa1e45 k) := by decide +kernel
abbrev cJxa1e45_init_da8c8 : ByteArray := prog_21_method_1_code
def yJxa1e45_init_da8c8 : MethodName := ⟨RJxa1e45, "<init>", "()V"⟩
def RJxc12de : String := "java/util/AbstractList"
def TJxc12de : u_T := fun k => match k with
  | _ => ("", "", "", false)
def tyJxc12de : Nat → FieldType := fun k => match k with
  | _ => .int
abbrev wsJxc12de0 : List Cond := u_ws RJxc12de TJxc12de 0
theorem nmJxc12de : ∀ a, a < 0 → ∀ b, b < 0 → a ≠ b → (TJxc12de a).2.1 ≠ (TJxc12de b).2.1 := by decide +kernel
theorem tyJxc12de_ok : ∀ k, k < 0 → parseFieldDescriptor (TJxc12de k).2.2.1 = some (tyJxc12de k) := by decide +kernel
abbrev cJxc12de_init_da8c8 : ByteArray := prog_22_method_1_code
def yJxc12de_init_da8c8 : MethodName := ⟨RJxc12de, "<init>", "()V"⟩
def RJx4a65c : String := "java/util/ArrayList"
def TJx4a65c : u_T := fun k => match k with
  | 0 => ("java/util/AbstractList", "modCount", "I", false)
  | 1 => ("java/util/ArrayList", "elementData", "[Ljava/lang/Object;", false)
  | _ => ("java/util/ArrayList", "size", "I", false)
def tyJx4a65c : Nat → FieldType := fun k => match k with
  | 0 => .int
  | 1 => .array (.object "java/lang/Object")
  | _ => .int
abbrev wsJx4a65c0 : List Cond := u_ws RJx4a65c TJx4a65c 3
theorem nmJx4a65c : ∀ a, a < 3 → ∀ b, b < 3 → a ≠ b → (TJx4a65c a).2.1 ≠ (TJx4a65c b).2.1 := by decide +kernel
theorem tyJx4a65c_ok : ∀ k, k < 3 → parseFieldDescriptor (TJx4a65c k).2.2.1 = some (tyJx4a65c k) := by decide +kernel
abbrev cJx4a65c_init_da8c8 : ByteArray := prog_23_method_2_code
def yJx4a65c_init_da8c8 : MethodName := ⟨RJx4a65c, "<init>", "()V"⟩
abbrev cJx4a65c_grow_92f84 : ByteArray := prog_23_method_6_code
def yJx4a65c_grow_92f84 : MethodName := ⟨RJx4a65c, "grow", "(I)[Ljava/lang/Object;"⟩
abbrev cJx4a65c_grow_d5877 : ByteArray := prog_23_method_7_code
def yJx4a65c_grow_d5877 : MethodName := ⟨RJx4a65c, "grow", "()[Ljava/lang/Object;"⟩
abbrev cJx4a65c_size_8abf5 : ByteArray := prog_23_method_8_code
def yJx4a65c_size_8abf5 : MethodName := ⟨RJx4a65c, "size", "()I"⟩
abbrev cJx4a65c_elementData_915e3 : ByteArray := prog_23_method_18_code
def yJx4a65c_elementData_915e3 : MethodName := ⟨RJx4a65c, "elementData", "(I)Ljava/lang/Object;"⟩
abbrev cJx4a65c_get_915e3 : ByteArray := prog_23_method_20_code
def yJx4a65c_get_915e3 : MethodName := ⟨RJx4a65c, "get", "(I)Ljava/lang/Object;"⟩
abbrev cJx4a65c_add_72be8 : ByteArray := prog_23_method_24_code
def yJx4a65c_add_72be8 : MethodName := ⟨RJx4a65c, "add", "(Ljava/lang/Object;[Ljava/lang/Object;I)V"⟩
abbrev cJx4a65c_add_9ea2d : ByteArray := prog_23_method_25_code
def yJx4a65c_add_9ea2d : MethodName := ⟨RJx4a65c, "add", "(Ljava/lang/Object;)Z"⟩
def RJ7 : String := "java/util/Arrays"
def TJ7 : u_T := fun k => match k with
  | _ => ("", "", "", false)
def tyJ7 : Nat → FieldType := fun k => match k with
  | _ => .int
abbrev wsJ70 : List Cond := u_ws RJ7 TJ7 0
theorem nmJ7 : ∀ a, a < 0 → ∀ b, b < 0 → a ≠ b → (TJ7 a).2.1 ≠ (TJ7 b).2.1 := by decide +kernel
theorem tyJ7_ok : ∀ k, k < 0 → parseFieldDescriptor (TJ7 k).2.2.1 = some (tyJ7 k) := by decide +kernel
abbrev cJ7_copyOf_1904c : ByteArray := prog_24_method_119_code
def yJ7_copyOf_1904c : MethodName := ⟨RJ7, "copyOf", "([Ljava/lang/Object;I)[Ljava/lang/Object;"⟩
abbrev cJ7_copyOf_6403c : ByteArray := prog_24_method_120_code
def yJ7_copyOf_6403c : MethodName := ⟨RJ7, "copyOf", "([Ljava/lang/Object;ILjava/lang/Class;)[Ljava/lang/Object;"⟩
def RJx5ef63 : String := "java/util/Collection"
def TJx5ef63 : u_T := fun k => match k with
  | _ => ("", "", "", false)
def tyJx5ef63 : Nat → FieldType := fun k => match k with
  | _ => .int
abbrev wsJx5ef630 : List Cond := u_ws RJx5ef63 TJx5ef63 0
theorem nmJx5ef63 : ∀ a, a < 0 → ∀ b, b < 0 → a ≠ b → (TJx5ef63 a).2.1 ≠ (TJx5ef63 b).2.1 := by decide +kernel
theorem tyJx5ef63_ok : ∀ k, k < 0 → parseFieldDescriptor (TJx5ef63 k).2.2.1 = some (tyJx5ef63 k) := by decide +kernel
def RJxbd725 : String := "java/util/List"
def TJxbd725 : u_T := fun k => match k with
  | _ => ("", "", "", false)
def tyJxbd725 : Nat → FieldType := fun k => match k with
  | _ => .int
abbrev wsJxbd7250 : List Cond := u_ws RJxbd725 TJxbd725 0
theorem nmJxbd725 : ∀ a, a < 0 → ∀ b, b < 0 → a ≠ b → (TJxbd725 a).2.1 ≠ (TJxbd725 b).2.1 := by decide +kernel
theorem tyJxbd725_ok : ∀ k, k < 0 → parseFieldDescriptor (TJxbd725 k).2.2.1 = some (tyJxbd725 k) := by decide +kernel
def RJ15 : String := "java/util/Objects"
def TJ15 : u_T := fun k => match k with
  | _ => ("", "", "", false)
def tyJ15 : Nat → FieldType := fun k => match k with
  | _ => .int
abbrev wsJ150 : List Cond := u_ws RJ15 TJ15 0
theorem nmJ15 : ∀ a, a < 0 → ∀ b, b < 0 → a ≠ b → (TJ15 a).2.1 ≠ (TJ15 b).2.1 := by decide +kernel
theorem tyJ15_ok : ∀ k, k < 0 → parseFieldDescriptor (TJ15 k).2.2.1 = some (tyJ15 k) := by decide +kernel
abbrev cJ15_checkIndex_7cf53 : ByteArray := prog_27_method_17_code
def yJ15_checkIndex_7cf53 : MethodName := ⟨RJ15, "checkIndex", "(II)I"⟩
def RJxf0a74 : String := "java/util/RandomAccess"
def TJxf0a74 : u_T := fun k => match k with
  | _ => ("", "", "", false)
def tyJxf0a74 : Nat → FieldType := fun k => match k with
  | _ => .int
abbrev wsJxf0a740 : List Cond := u_ws RJxf0a74 TJxf0a74 0
theorem nmJxf0a74 : ∀ a, a < 0 → ∀ b, b < 0 → a ≠ b → (TJxf0a74 a).2.1 ≠ (TJxf0a74 b).2.1 := by decide +kernel
theorem tyJxf0a74_ok : ∀ k, k < 0 → parseFieldDescriptor (TJxf0a74 k).2.2.1 = some (tyJxf0a74 k) := by decide +kernel
def RJxa66e6 : String := "java/util/SequencedCollection"
def TJxa66e6 : u_T := fun k => match k with
  | _ => ("", "", "", false)
def tyJxa66e6 : Nat → FieldType := fun k => match k with
  | _ => .int
abbrev wsJxa66e60 : List Cond := u_ws RJxa66e6 TJxa66e6 0
theorem nmJxa66e6 : ∀ a, a < 0 → ∀ b, b < 0 → a ≠ b → (TJxa66e6 a).2.1 ≠ (TJxa66e6 b).2.1 := by decide +kernel
theorem tyJxa66e6_ok : ∀ k, k < 0 → parseFieldDescriptor (TJxa66e6 k).2.2.1 = some (tyJxa66e6 k) := by decide +kernel
def RJ8 : String := "jdk/internal/util/ArraysSupport"
def TJ8 : u_T := fun k => match k with
  | _ => ("", "", "", false)
def tyJ8 : Nat → FieldType := fun k => match k with
  | _ => .int
abbrev wsJ80 : List Cond := u_ws RJ8 TJ8 0
theorem nmJ8 : ∀ a, a < 0 → ∀ b, b < 0 → a ≠ b → (TJ8 a).2.1 ≠ (TJ8 b).2.1 := by decide +kernel
theorem tyJ8_ok : ∀ k, k < 0 → parseFieldDescriptor (TJ8 k).2.2.1 = some (tyJ8 k) := by decide +kernel
abbrev cJ8_newLength_cabcc : ByteArray := prog_30_method_27_code
def yJ8_newLength_cabcc : MethodName := ⟨RJ8, "newLength", "(III)I"⟩
abbrev cJ8_hugeLength_7cf53 : ByteArray := prog_30_method_28_code
def yJ8_hugeLength_7cf53 : MethodName := ⟨RJ8, "hugeLength", "(II)I"⟩
def RJ3 : String := "jdk/internal/util/Preconditions"
def TJ3 : u_T := fun k => match k with
  | _ => ("", "", "", false)
def tyJ3 : Nat → FieldType := fun k => match k with
  | _ => .int
abbrev wsJ30 : List Cond := u_ws RJ3 TJ3 0
theorem nmJ3 : ∀ a, a < 0 → ∀ b, b < 0 → a ≠ b → (TJ3 a).2.1 ≠ (TJ3 b).2.1 := by decide +kernel
theorem tyJ3_ok : ∀ k, k < 0 → parseFieldDescriptor (TJ3 k).2.2.1 = some (tyJ3 k) := by decide +kernel
abbrev cJ3_checkIndex_8e157 : ByteArray := prog_31_method_11_code
def yJ3_checkIndex_8e157 : MethodName := ⟨RJ3, "checkIndex", "(IILjava/util/function/BiFunction;)I"⟩
def RL : String := "ShopPaymasterLaw"
abbrev cL_setTax : ByteArray := method_3_code
def yL_setTax : MethodName := ⟨RL, "setTax", "(LShopPaymaster;IIZ[J)I"⟩
abbrev cL_addMaker : ByteArray := method_4_code
def yL_addMaker : MethodName := ⟨RL, "addMaker", "(LShopPaymaster;I[J)I"⟩
abbrev cL_addProduct : ByteArray := method_5_code
def yL_addProduct : MethodName := ⟨RL, "addProduct", "(LShopPaymaster;II[J)I"⟩
abbrev cL_setPrice : ByteArray := method_6_code
def yL_setPrice : MethodName := ⟨RL, "setPrice", "(LShopPaymaster;III[J)I"⟩
abbrev cL_buy : ByteArray := method_7_code
def yL_buy : MethodName := ⟨RL, "buy", "(LShopPaymaster;II[J)I"⟩
abbrev cL_refund : ByteArray := method_8_code
def yL_refund : MethodName := ⟨RL, "refund", "(LShopPaymaster;I[J)I"⟩
abbrev cL_paid : ByteArray := method_9_code
def yL_paid : MethodName := ⟨RL, "paid", "(LShopPaymaster;I[J)I"⟩
abbrev cL_tax : ByteArray := method_10_code
def yL_tax : MethodName := ⟨RL, "tax", "(LShopPaymaster;I[J)I"⟩
abbrev cL_shopShare : ByteArray := method_11_code
def yL_shopShare : MethodName := ⟨RL, "shopShare", "(LShopPaymaster;I[J)I"⟩
abbrev cL_makerPart : ByteArray := method_12_code
def yL_makerPart : MethodName := ⟨RL, "makerPart", "(LShopPaymaster;I[J)I"⟩
abbrev cL_subscribe : ByteArray := method_13_code
def yL_subscribe : MethodName := ⟨RL, "subscribe", "(LShopPaymaster;IIIZ[J)I"⟩
abbrev cL_move : ByteArray := method_14_code
def yL_move : MethodName := ⟨RL, "move", "(LShopPaymaster;II[J)I"⟩
abbrev cL_setFailing : ByteArray := method_15_code
def yL_setFailing : MethodName := ⟨RL, "setFailing", "(LShopPaymaster;IZ)I"⟩
abbrev cL_cancel : ByteArray := method_16_code
def yL_cancel : MethodName := ⟨RL, "cancel", "(LShopPaymaster;I[J)I"⟩
abbrev cL_payments : ByteArray := method_17_code
def yL_payments : MethodName := ⟨RL, "payments", "(LShopPaymaster;I[J)I"⟩
abbrev cL_next : ByteArray := method_18_code
def yL_next : MethodName := ⟨RL, "next", "(LShopPaymaster;I[J)I"⟩
abbrev cL_payout : ByteArray := method_19_code
def yL_payout : MethodName := ⟨RL, "payout", "(LShopPaymaster;II[J)I"⟩
abbrev cL_carried : ByteArray := method_20_code
def yL_carried : MethodName := ⟨RL, "carried", "(LShopPaymaster;I[J)I"⟩
abbrev cL_balance : ByteArray := method_21_code
def yL_balance : MethodName := ⟨RL, "balance", "(LShopPaymaster;I[J)I"⟩
abbrev cL_heldTax : ByteArray := method_22_code
def yL_heldTax : MethodName := ⟨RL, "heldTax", "(LShopPaymaster;I[J)I"⟩
abbrev cL_pass : ByteArray := method_23_code
def yL_pass : MethodName := ⟨RL, "pass", "(LShopPaymaster;I[J)I"⟩
abbrev cL_law : ByteArray := code
def yL_law : MethodName := ⟨RL, "law", "([I)Z"⟩
theorem dX0_init_0 : decode cX0_init 0 = .ok (.aload_n 0, 1) := by decide +kernel
theorem dX0_init_1 : decode cX0_init 1 = .ok (.invokespecial 1, 3) := by decide +kernel
theorem dX0_init_4 : decode cX0_init 4 = .ok (.aload_n 0, 1) := by decide +kernel
theorem dX0_init_5 : decode cX0_init 5 = .ok (.iconst 0, 1) := by decide +kernel
theorem dX0_init_6 : decode cX0_init 6 = .ok (.putfield 7, 3) := by decide +kernel
theorem dX0_init_9 : decode cX0_init 9 = .ok (.aload_n 0, 1) := by decide +kernel
theorem dX0_init_10 : decode cX0_init 10 = .ok (.iconst 1, 1) := by decide +kernel
theorem dX0_init_11 : decode cX0_init 11 = .ok (.putfield 13, 3) := by decide +kernel
theorem dX0_init_14 : decode cX0_init 14 = .ok (.aload_n 0, 1) := by decide +kernel
theorem dX0_init_15 : decode cX0_init 15 = .ok (.iconst 0, 1) := by decide +kernel
theorem dX0_init_16 : decode cX0_init 16 = .ok (.putfield 17, 3) := by decide +kernel
theorem dX0_init_19 : decode cX0_init 19 = .ok (.aload_n 0, 1) := by decide +kernel
theorem dX0_init_20 : decode cX0_init 20 = .ok (.iload_n 1, 1) := by decide +kernel
theorem dX0_init_21 : decode cX0_init 21 = .ok (.putfield 20, 3) := by decide +kernel
theorem dX0_init_24 : decode cX0_init 24 = .ok (.return_, 1) := by decide +kernel
theorem dX0_taxIn_0 : decode cX0_taxIn 0 = .ok (.iload_n 1, 1) := by decide +kernel
theorem dX0_taxIn_1 : decode cX0_taxIn 1 = .ok (.aload_n 0, 1) := by decide +kernel
theorem dX0_taxIn_2 : decode cX0_taxIn 2 = .ok (.getfield 7, 3) := by decide +kernel
theorem dX0_taxIn_5 : decode cX0_taxIn 5 = .ok (.imul, 1) := by decide +kernel
theorem dX0_taxIn_6 : decode cX0_taxIn 6 = .ok (.bipush 100, 2) := by decide +kernel
theorem dX0_taxIn_8 : decode cX0_taxIn 8 = .ok (.aload_n 0, 1) := by decide +kernel
theorem dX0_taxIn_9 : decode cX0_taxIn 9 = .ok (.getfield 7, 3) := by decide +kernel
theorem dX0_taxIn_12 : decode cX0_taxIn 12 = .ok (.iadd, 1) := by decide +kernel
theorem dX0_taxIn_13 : decode cX0_taxIn 13 = .ok (.idiv, 1) := by decide +kernel
theorem dX0_taxIn_14 : decode cX0_taxIn 14 = .ok (.ireturn, 1) := by decide +kernel
theorem dX1_init_0 : decode cX1_init 0 = .ok (.aload_n 0, 1) := by decide +kernel
theorem dX1_init_1 : decode cX1_init 1 = .ok (.invokespecial 3, 3) := by decide +kernel
theorem dX1_init_4 : decode cX1_init 4 = .ok (.aload_n 0, 1) := by decide +kernel
theorem dX1_init_5 : decode cX1_init 5 = .ok (.bipush 120, 2) := by decide +kernel
theorem dX1_init_7 : decode cX1_init 7 = .ok (.newarray .int, 2) := by decide +kernel
theorem dX1_init_9 : decode cX1_init 9 = .ok (.putfield 9, 3) := by decide +kernel
theorem dX1_init_12 : decode cX1_init 12 = .ok (.aload_n 0, 1) := by decide +kernel
theorem dX1_init_13 : decode cX1_init 13 = .ok (.iconst 0, 1) := by decide +kernel
theorem dX1_init_14 : decode cX1_init 14 = .ok (.putfield 15, 3) := by decide +kernel
theorem dX1_init_17 : decode cX1_init 17 = .ok (.aload_n 0, 1) := by decide +kernel
theorem dX1_init_18 : decode cX1_init 18 = .ok (.iconst 0, 1) := by decide +kernel
theorem dX1_init_19 : decode cX1_init 19 = .ok (.putfield 19, 3) := by decide +kernel
theorem dX1_init_22 : decode cX1_init 22 = .ok (.aload_n 0, 1) := by decide +kernel
theorem dX1_init_23 : decode cX1_init 23 = .ok (.iconst 0, 1) := by decide +kernel
theorem dX1_init_24 : decode cX1_init 24 = .ok (.putfield 22, 3) := by decide +kernel
theorem dX1_init_27 : decode cX1_init 27 = .ok (.aload_n 0, 1) := by decide +kernel
theorem dX1_init_28 : decode cX1_init 28 = .ok (.iload_n 1, 1) := by decide +kernel
theorem dX1_init_29 : decode cX1_init 29 = .ok (.putfield 25, 3) := by decide +kernel
theorem dX1_init_32 : decode cX1_init 32 = .ok (.return_, 1) := by decide +kernel
theorem dX1_currentBalance_0 : decode cX1_currentBalance 0 = .ok (.aload_n 0, 1) := by decide +kernel
theorem dX1_currentBalance_1 : decode cX1_currentBalance 1 = .ok (.getfield 15, 3) := by decide +kernel
theorem dX1_currentBalance_4 : decode cX1_currentBalance 4 = .ok (.aload_n 0, 1) := by decide +kernel
theorem dX1_currentBalance_5 : decode cX1_currentBalance 5 = .ok (.getfield 19, 3) := by decide +kernel
theorem dX1_currentBalance_8 : decode cX1_currentBalance 8 = .ok (.iadd, 1) := by decide +kernel
theorem dX1_currentBalance_9 : decode cX1_currentBalance 9 = .ok (.ireturn, 1) := by decide +kernel
theorem dX1_settle_0 : decode cX1_settle 0 = .ok (.aload_n 0, 1) := by decide +kernel
theorem dX1_settle_1 : decode cX1_settle 1 = .ok (.invokevirtual 28, 3) := by decide +kernel
theorem dX1_settle_4 : decode cX1_settle 4 = .ok (.istore_n 2, 1) := by decide +kernel
theorem dX1_settle_5 : decode cX1_settle 5 = .ok (.iload_n 2, 1) := by decide +kernel
theorem dX1_settle_6 : decode cX1_settle 6 = .ok (.ifCond .le 15, 3) := by decide +kernel
theorem dX1_settle_9 : decode cX1_settle 9 = .ok (.iload_n 2, 1) := by decide +kernel
theorem dX1_settle_10 : decode cX1_settle 10 = .ok (.aload_n 0, 1) := by decide +kernel
theorem dX1_settle_11 : decode cX1_settle 11 = .ok (.getfield 25, 3) := by decide +kernel
theorem dX1_settle_14 : decode cX1_settle 14 = .ok (.if_icmp .lt 7, 3) := by decide +kernel
theorem dX1_settle_17 : decode cX1_settle 17 = .ok (.iconst 1, 1) := by decide +kernel
theorem dX1_settle_18 : decode cX1_settle 18 = .ok (.goto 4, 3) := by decide +kernel
theorem dX1_settle_21 : decode cX1_settle 21 = .ok (.iconst 0, 1) := by decide +kernel
theorem dX1_settle_22 : decode cX1_settle 22 = .ok (.istore_n 3, 1) := by decide +kernel
theorem dX1_settle_23 : decode cX1_settle 23 = .ok (.iload_n 1, 1) := by decide +kernel
theorem dX1_settle_24 : decode cX1_settle 24 = .ok (.ifCond .lt 27, 3) := by decide +kernel
theorem dX1_settle_27 : decode cX1_settle 27 = .ok (.iload_n 1, 1) := by decide +kernel
theorem dX1_settle_28 : decode cX1_settle 28 = .ok (.aload_n 0, 1) := by decide +kernel
theorem dX1_settle_29 : decode cX1_settle 29 = .ok (.getfield 9, 3) := by decide +kernel
theorem dX1_settle_32 : decode cX1_settle 32 = .ok (.arraylength, 1) := by decide +kernel
theorem dX1_settle_33 : decode cX1_settle 33 = .ok (.if_icmp .ge 18, 3) := by decide +kernel
theorem dX1_settle_36 : decode cX1_settle 36 = .ok (.aload_n 0, 1) := by decide +kernel
theorem dX1_settle_37 : decode cX1_settle 37 = .ok (.getfield 9, 3) := by decide +kernel
theorem dX1_settle_40 : decode cX1_settle 40 = .ok (.iload_n 1, 1) := by decide +kernel
theorem dX1_settle_41 : decode cX1_settle 41 = .ok (.iload_n 3, 1) := by decide +kernel
theorem dX1_settle_42 : decode cX1_settle 42 = .ok (.ifCond .eq 7, 3) := by decide +kernel
theorem dX1_settle_45 : decode cX1_settle 45 = .ok (.iload_n 2, 1) := by decide +kernel
theorem dX1_settle_46 : decode cX1_settle 46 = .ok (.goto 4, 3) := by decide +kernel
theorem dX1_settle_49 : decode cX1_settle 49 = .ok (.iconst 0, 1) := by decide +kernel
theorem dX1_settle_50 : decode cX1_settle 50 = .ok (.iastore, 1) := by decide +kernel
theorem dX1_settle_51 : decode cX1_settle 51 = .ok (.aload_n 0, 1) := by decide +kernel
theorem dX1_settle_52 : decode cX1_settle 52 = .ok (.iload_n 3, 1) := by decide +kernel
theorem dX1_settle_53 : decode cX1_settle 53 = .ok (.ifCond .eq 7, 3) := by decide +kernel
theorem dX1_settle_56 : decode cX1_settle 56 = .ok (.iconst 0, 1) := by decide +kernel
theorem dX1_settle_57 : decode cX1_settle 57 = .ok (.goto 4, 3) := by decide +kernel
theorem dX1_settle_60 : decode cX1_settle 60 = .ok (.iload_n 2, 1) := by decide +kernel
theorem dX1_settle_61 : decode cX1_settle 61 = .ok (.putfield 15, 3) := by decide +kernel
theorem dX1_settle_64 : decode cX1_settle 64 = .ok (.aload_n 0, 1) := by decide +kernel
theorem dX1_settle_65 : decode cX1_settle 65 = .ok (.iconst 0, 1) := by decide +kernel
theorem dX1_settle_66 : decode cX1_settle 66 = .ok (.putfield 19, 3) := by decide +kernel
theorem dX1_settle_69 : decode cX1_settle 69 = .ok (.return_, 1) := by decide +kernel
theorem dX1_payoutOf_0 : decode cX1_payoutOf 0 = .ok (.iload_n 1, 1) := by decide +kernel
theorem dX1_payoutOf_1 : decode cX1_payoutOf 1 = .ok (.ifCond .lt 21, 3) := by decide +kernel
theorem dX1_payoutOf_4 : decode cX1_payoutOf 4 = .ok (.iload_n 1, 1) := by decide +kernel
theorem dX1_payoutOf_5 : decode cX1_payoutOf 5 = .ok (.aload_n 0, 1) := by decide +kernel
theorem dX1_payoutOf_6 : decode cX1_payoutOf 6 = .ok (.getfield 9, 3) := by decide +kernel
theorem dX1_payoutOf_9 : decode cX1_payoutOf 9 = .ok (.arraylength, 1) := by decide +kernel
theorem dX1_payoutOf_10 : decode cX1_payoutOf 10 = .ok (.if_icmp .ge 12, 3) := by decide +kernel
theorem dX1_payoutOf_13 : decode cX1_payoutOf 13 = .ok (.aload_n 0, 1) := by decide +kernel
theorem dX1_payoutOf_14 : decode cX1_payoutOf 14 = .ok (.getfield 9, 3) := by decide +kernel
theorem dX1_payoutOf_17 : decode cX1_payoutOf 17 = .ok (.iload_n 1, 1) := by decide +kernel
theorem dX1_payoutOf_18 : decode cX1_payoutOf 18 = .ok (.iaload, 1) := by decide +kernel
theorem dX1_payoutOf_19 : decode cX1_payoutOf 19 = .ok (.goto 4, 3) := by decide +kernel
theorem dX1_payoutOf_22 : decode cX1_payoutOf 22 = .ok (.iconst 0, 1) := by decide +kernel
theorem dX1_payoutOf_23 : decode cX1_payoutOf 23 = .ok (.ireturn, 1) := by decide +kernel
theorem dX2_init_0 : decode cX2_init 0 = .ok (.aload_n 0, 1) := by decide +kernel
theorem dX2_init_1 : decode cX2_init 1 = .ok (.invokespecial 3, 3) := by decide +kernel
theorem dX2_init_4 : decode cX2_init 4 = .ok (.aload_n 0, 1) := by decide +kernel
theorem dX2_init_5 : decode cX2_init 5 = .ok (.iconst 5, 1) := by decide +kernel
theorem dX2_init_6 : decode cX2_init 6 = .ok (.newarray .int, 2) := by decide +kernel
theorem dX2_init_8 : decode cX2_init 8 = .ok (.putfield 9, 3) := by decide +kernel
theorem dX2_init_11 : decode cX2_init 11 = .ok (.aload_n 0, 1) := by decide +kernel
theorem dX2_init_12 : decode cX2_init 12 = .ok (.iload_n 1, 1) := by decide +kernel
theorem dX2_init_13 : decode cX2_init 13 = .ok (.putfield 15, 3) := by decide +kernel
theorem dX2_init_16 : decode cX2_init 16 = .ok (.aload_n 0, 1) := by decide +kernel
theorem dX2_init_17 : decode cX2_init 17 = .ok (.aload_n 2, 1) := by decide +kernel
theorem dX2_init_18 : decode cX2_init 18 = .ok (.putfield 19, 3) := by decide +kernel
theorem dX2_init_21 : decode cX2_init 21 = .ok (.iconst 0, 1) := by decide +kernel
theorem dX2_init_22 : decode cX2_init 22 = .ok (.istore 4, 2) := by decide +kernel
theorem dX2_init_24 : decode cX2_init 24 = .ok (.iload 4, 2) := by decide +kernel
theorem dX2_init_26 : decode cX2_init 26 = .ok (.aload_n 0, 1) := by decide +kernel
theorem dX2_init_27 : decode cX2_init 27 = .ok (.getfield 9, 3) := by decide +kernel
theorem dX2_init_30 : decode cX2_init 30 = .ok (.arraylength, 1) := by decide +kernel
theorem dX2_init_31 : decode cX2_init 31 = .ok (.if_icmp .ge 17, 3) := by decide +kernel
theorem dX2_init_34 : decode cX2_init 34 = .ok (.aload_n 0, 1) := by decide +kernel
theorem dX2_init_35 : decode cX2_init 35 = .ok (.getfield 9, 3) := by decide +kernel
theorem dX2_init_38 : decode cX2_init 38 = .ok (.iload 4, 2) := by decide +kernel
theorem dX2_init_40 : decode cX2_init 40 = .ok (.iload_n 3, 1) := by decide +kernel
theorem dX2_init_41 : decode cX2_init 41 = .ok (.iastore, 1) := by decide +kernel
theorem dX2_init_42 : decode cX2_init 42 = .ok (.iinc 4 1, 3) := by decide +kernel
theorem dX2_init_45 : decode cX2_init 45 = .ok (.goto (-21), 3) := by decide +kernel
theorem dX2_init_48 : decode cX2_init 48 = .ok (.return_, 1) := by decide +kernel
theorem dX2_priceIn_0 : decode cX2_priceIn 0 = .ok (.aload_n 1, 1) := by decide +kernel
theorem dX2_priceIn_1 : decode cX2_priceIn 1 = .ok (.getfield 23, 3) := by decide +kernel
theorem dX2_priceIn_4 : decode cX2_priceIn 4 = .ok (.istore_n 2, 1) := by decide +kernel
theorem dX2_priceIn_5 : decode cX2_priceIn 5 = .ok (.iload_n 2, 1) := by decide +kernel
theorem dX2_priceIn_6 : decode cX2_priceIn 6 = .ok (.ifCond .lt 21, 3) := by decide +kernel
theorem dX2_priceIn_9 : decode cX2_priceIn 9 = .ok (.iload_n 2, 1) := by decide +kernel
theorem dX2_priceIn_10 : decode cX2_priceIn 10 = .ok (.aload_n 0, 1) := by decide +kernel
theorem dX2_priceIn_11 : decode cX2_priceIn 11 = .ok (.getfield 9, 3) := by decide +kernel
theorem dX2_priceIn_14 : decode cX2_priceIn 14 = .ok (.arraylength, 1) := by decide +kernel
theorem dX2_priceIn_15 : decode cX2_priceIn 15 = .ok (.if_icmp .ge 12, 3) := by decide +kernel
theorem dX2_priceIn_18 : decode cX2_priceIn 18 = .ok (.aload_n 0, 1) := by decide +kernel
theorem dX2_priceIn_19 : decode cX2_priceIn 19 = .ok (.getfield 9, 3) := by decide +kernel
theorem dX2_priceIn_22 : decode cX2_priceIn 22 = .ok (.iload_n 2, 1) := by decide +kernel
theorem dX2_priceIn_23 : decode cX2_priceIn 23 = .ok (.iaload, 1) := by decide +kernel
theorem dX2_priceIn_24 : decode cX2_priceIn 24 = .ok (.goto 4, 3) := by decide +kernel
theorem dX2_priceIn_27 : decode cX2_priceIn 27 = .ok (.iconst 0, 1) := by decide +kernel
theorem dX2_priceIn_28 : decode cX2_priceIn 28 = .ok (.ireturn, 1) := by decide +kernel
theorem dX2_changePrice_0 : decode cX2_changePrice 0 = .ok (.aload_n 0, 1) := by decide +kernel
theorem dX2_changePrice_1 : decode cX2_changePrice 1 = .ok (.aload_n 1, 1) := by decide +kernel
theorem dX2_changePrice_2 : decode cX2_changePrice 2 = .ok (.invokevirtual 26, 3) := by decide +kernel
theorem dX2_changePrice_5 : decode cX2_changePrice 5 = .ok (.istore_n 3, 1) := by decide +kernel
theorem dX2_changePrice_6 : decode cX2_changePrice 6 = .ok (.aload_n 1, 1) := by decide +kernel
theorem dX2_changePrice_7 : decode cX2_changePrice 7 = .ok (.getfield 23, 3) := by decide +kernel
theorem dX2_changePrice_10 : decode cX2_changePrice 10 = .ok (.istore 4, 2) := by decide +kernel
theorem dX2_changePrice_12 : decode cX2_changePrice 12 = .ok (.iload 4, 2) := by decide +kernel
theorem dX2_changePrice_14 : decode cX2_changePrice 14 = .ok (.ifCond .lt 21, 3) := by decide +kernel
theorem dX2_changePrice_17 : decode cX2_changePrice 17 = .ok (.iload 4, 2) := by decide +kernel
theorem dX2_changePrice_19 : decode cX2_changePrice 19 = .ok (.aload_n 0, 1) := by decide +kernel
theorem dX2_changePrice_20 : decode cX2_changePrice 20 = .ok (.getfield 9, 3) := by decide +kernel
theorem dX2_changePrice_23 : decode cX2_changePrice 23 = .ok (.arraylength, 1) := by decide +kernel
theorem dX2_changePrice_24 : decode cX2_changePrice 24 = .ok (.if_icmp .ge 11, 3) := by decide +kernel
theorem dX2_changePrice_27 : decode cX2_changePrice 27 = .ok (.aload_n 0, 1) := by decide +kernel
theorem dX2_changePrice_28 : decode cX2_changePrice 28 = .ok (.getfield 9, 3) := by decide +kernel
theorem dX2_changePrice_31 : decode cX2_changePrice 31 = .ok (.iload 4, 2) := by decide +kernel
theorem dX2_changePrice_33 : decode cX2_changePrice 33 = .ok (.iload_n 2, 1) := by decide +kernel
theorem dX2_changePrice_34 : decode cX2_changePrice 34 = .ok (.iastore, 1) := by decide +kernel
theorem dX2_changePrice_35 : decode cX2_changePrice 35 = .ok (.iload_n 3, 1) := by decide +kernel
theorem dX2_changePrice_36 : decode cX2_changePrice 36 = .ok (.ireturn, 1) := by decide +kernel
theorem dX3_init_0 : decode cX3_init 0 = .ok (.aload_n 0, 1) := by decide +kernel
theorem dX3_init_1 : decode cX3_init 1 = .ok (.invokespecial 1, 3) := by decide +kernel
theorem dX3_init_4 : decode cX3_init 4 = .ok (.aload_n 0, 1) := by decide +kernel
theorem dX3_init_5 : decode cX3_init 5 = .ok (.iconst 0, 1) := by decide +kernel
theorem dX3_init_6 : decode cX3_init 6 = .ok (.putfield 7, 3) := by decide +kernel
theorem dX3_init_9 : decode cX3_init 9 = .ok (.aload_n 0, 1) := by decide +kernel
theorem dX3_init_10 : decode cX3_init 10 = .ok (.aload_n 1, 1) := by decide +kernel
theorem dX3_init_11 : decode cX3_init 11 = .ok (.putfield 13, 3) := by decide +kernel
theorem dX3_init_14 : decode cX3_init 14 = .ok (.aload_n 0, 1) := by decide +kernel
theorem dX3_init_15 : decode cX3_init 15 = .ok (.aload_n 2, 1) := by decide +kernel
theorem dX3_init_16 : decode cX3_init 16 = .ok (.putfield 17, 3) := by decide +kernel
theorem dX3_init_19 : decode cX3_init 19 = .ok (.aload_n 0, 1) := by decide +kernel
theorem dX3_init_20 : decode cX3_init 20 = .ok (.iload_n 3, 1) := by decide +kernel
theorem dX3_init_21 : decode cX3_init 21 = .ok (.putfield 21, 3) := by decide +kernel
theorem dX3_init_24 : decode cX3_init 24 = .ok (.aload_n 0, 1) := by decide +kernel
theorem dX3_init_25 : decode cX3_init 25 = .ok (.iload 4, 2) := by decide +kernel
theorem dX3_init_27 : decode cX3_init 27 = .ok (.putfield 25, 3) := by decide +kernel
theorem dX3_init_30 : decode cX3_init 30 = .ok (.aload_n 0, 1) := by decide +kernel
theorem dX3_init_31 : decode cX3_init 31 = .ok (.aload_n 2, 1) := by decide +kernel
theorem dX3_init_32 : decode cX3_init 32 = .ok (.iload 4, 2) := by decide +kernel
theorem dX3_init_34 : decode cX3_init 34 = .ok (.invokevirtual 28, 3) := by decide +kernel
theorem dX3_init_37 : decode cX3_init 37 = .ok (.putfield 34, 3) := by decide +kernel
theorem dX3_init_40 : decode cX3_init 40 = .ok (.aload_n 0, 1) := by decide +kernel
theorem dX3_init_41 : decode cX3_init 41 = .ok (.aload_n 2, 1) := by decide +kernel
theorem dX3_init_42 : decode cX3_init 42 = .ok (.getfield 37, 3) := by decide +kernel
theorem dX3_init_45 : decode cX3_init 45 = .ok (.putfield 40, 3) := by decide +kernel
theorem dX3_init_48 : decode cX3_init 48 = .ok (.iload 4, 2) := by decide +kernel
theorem dX3_init_50 : decode cX3_init 50 = .ok (.aload_n 0, 1) := by decide +kernel
theorem dX3_init_51 : decode cX3_init 51 = .ok (.getfield 34, 3) := by decide +kernel
theorem dX3_init_54 : decode cX3_init 54 = .ok (.isub, 1) := by decide +kernel
theorem dX3_init_55 : decode cX3_init 55 = .ok (.istore 6, 2) := by decide +kernel
theorem dX3_init_57 : decode cX3_init 57 = .ok (.aload_n 0, 1) := by decide +kernel
theorem dX3_init_58 : decode cX3_init 58 = .ok (.iload 6, 2) := by decide +kernel
theorem dX3_init_60 : decode cX3_init 60 = .ok (.iload 5, 2) := by decide +kernel
theorem dX3_init_62 : decode cX3_init 62 = .ok (.imul, 1) := by decide +kernel
theorem dX3_init_63 : decode cX3_init 63 = .ok (.bipush 100, 2) := by decide +kernel
theorem dX3_init_65 : decode cX3_init 65 = .ok (.idiv, 1) := by decide +kernel
theorem dX3_init_66 : decode cX3_init 66 = .ok (.putfield 43, 3) := by decide +kernel
theorem dX3_init_69 : decode cX3_init 69 = .ok (.aload_n 0, 1) := by decide +kernel
theorem dX3_init_70 : decode cX3_init 70 = .ok (.iload 6, 2) := by decide +kernel
theorem dX3_init_72 : decode cX3_init 72 = .ok (.aload_n 0, 1) := by decide +kernel
theorem dX3_init_73 : decode cX3_init 73 = .ok (.getfield 43, 3) := by decide +kernel
theorem dX3_init_76 : decode cX3_init 76 = .ok (.isub, 1) := by decide +kernel
theorem dX3_init_77 : decode cX3_init 77 = .ok (.aload_n 0, 1) := by decide +kernel
theorem dX3_init_78 : decode cX3_init 78 = .ok (.getfield 40, 3) := by decide +kernel
theorem dX3_init_81 : decode cX3_init 81 = .ok (.ifCond .eq 7, 3) := by decide +kernel
theorem dX3_init_84 : decode cX3_init 84 = .ok (.iconst 0, 1) := by decide +kernel
theorem dX3_init_85 : decode cX3_init 85 = .ok (.goto 7, 3) := by decide +kernel
theorem dX3_init_88 : decode cX3_init 88 = .ok (.aload_n 0, 1) := by decide +kernel
theorem dX3_init_89 : decode cX3_init 89 = .ok (.getfield 34, 3) := by decide +kernel
theorem dX3_init_92 : decode cX3_init 92 = .ok (.iadd, 1) := by decide +kernel
theorem dX3_init_93 : decode cX3_init 93 = .ok (.putfield 46, 3) := by decide +kernel
theorem dX3_init_96 : decode cX3_init 96 = .ok (.return_, 1) := by decide +kernel
theorem dX4_init_0 : decode cX4_init 0 = .ok (.aload_n 0, 1) := by decide +kernel
theorem dX4_init_1 : decode cX4_init 1 = .ok (.invokespecial 3, 3) := by decide +kernel
theorem dX4_init_4 : decode cX4_init 4 = .ok (.aload_n 0, 1) := by decide +kernel
theorem dX4_init_5 : decode cX4_init 5 = .ok (.iconst 0, 1) := by decide +kernel
theorem dX4_init_6 : decode cX4_init 6 = .ok (.putfield 9, 3) := by decide +kernel
theorem dX4_init_9 : decode cX4_init 9 = .ok (.aload_n 0, 1) := by decide +kernel
theorem dX4_init_10 : decode cX4_init 10 = .ok (.iconst 0, 1) := by decide +kernel
theorem dX4_init_11 : decode cX4_init 11 = .ok (.putfield 15, 3) := by decide +kernel
theorem dX4_init_14 : decode cX4_init 14 = .ok (.aload_n 0, 1) := by decide +kernel
theorem dX4_init_15 : decode cX4_init 15 = .ok (.iconst 0, 1) := by decide +kernel
theorem dX4_init_16 : decode cX4_init 16 = .ok (.putfield 19, 3) := by decide +kernel
theorem dX4_init_19 : decode cX4_init 19 = .ok (.aload_n 0, 1) := by decide +kernel
theorem dX4_init_20 : decode cX4_init 20 = .ok (.aload_n 1, 1) := by decide +kernel
theorem dX4_init_21 : decode cX4_init 21 = .ok (.putfield 22, 3) := by decide +kernel
theorem dX4_init_24 : decode cX4_init 24 = .ok (.aload_n 0, 1) := by decide +kernel
theorem dX4_init_25 : decode cX4_init 25 = .ok (.aload_n 2, 1) := by decide +kernel
theorem dX4_init_26 : decode cX4_init 26 = .ok (.putfield 26, 3) := by decide +kernel
theorem dX4_init_29 : decode cX4_init 29 = .ok (.aload_n 0, 1) := by decide +kernel
theorem dX4_init_30 : decode cX4_init 30 = .ok (.iload 4, 2) := by decide +kernel
theorem dX4_init_32 : decode cX4_init 32 = .ok (.putfield 30, 3) := by decide +kernel
theorem dX4_init_35 : decode cX4_init 35 = .ok (.aload_n 0, 1) := by decide +kernel
theorem dX4_init_36 : decode cX4_init 36 = .ok (.iload_n 3, 1) := by decide +kernel
theorem dX4_init_37 : decode cX4_init 37 = .ok (.putfield 33, 3) := by decide +kernel
theorem dX4_init_40 : decode cX4_init 40 = .ok (.return_, 1) := by decide +kernel
theorem dX4_isEnded_0 : decode cX4_isEnded 0 = .ok (.aload_n 0, 1) := by decide +kernel
theorem dX4_isEnded_1 : decode cX4_isEnded 1 = .ok (.getfield 33, 3) := by decide +kernel
theorem dX4_isEnded_4 : decode cX4_isEnded 4 = .ok (.iconst (-1), 1) := by decide +kernel
theorem dX4_isEnded_5 : decode cX4_isEnded 5 = .ok (.if_icmp .ne 7, 3) := by decide +kernel
theorem dX4_isEnded_8 : decode cX4_isEnded 8 = .ok (.iconst 1, 1) := by decide +kernel
theorem dX4_isEnded_9 : decode cX4_isEnded 9 = .ok (.goto 4, 3) := by decide +kernel
theorem dX4_isEnded_12 : decode cX4_isEnded 12 = .ok (.iconst 0, 1) := by decide +kernel
theorem dX4_isEnded_13 : decode cX4_isEnded 13 = .ok (.ireturn, 1) := by decide +kernel
theorem dX4_end_0 : decode cX4_end 0 = .ok (.aload_n 0, 1) := by decide +kernel
theorem dX4_end_1 : decode cX4_end 1 = .ok (.iconst (-1), 1) := by decide +kernel
theorem dX4_end_2 : decode cX4_end 2 = .ok (.putfield 33, 3) := by decide +kernel
theorem dX4_end_5 : decode cX4_end 5 = .ok (.return_, 1) := by decide +kernel
theorem dX4_priceOfNext_0 : decode cX4_priceOfNext 0 = .ok (.aload_n 0, 1) := by decide +kernel
theorem dX4_priceOfNext_1 : decode cX4_priceOfNext 1 = .ok (.getfield 22, 3) := by decide +kernel
theorem dX4_priceOfNext_4 : decode cX4_priceOfNext 4 = .ok (.aload_n 0, 1) := by decide +kernel
theorem dX4_priceOfNext_5 : decode cX4_priceOfNext 5 = .ok (.getfield 26, 3) := by decide +kernel
theorem dX4_priceOfNext_8 : decode cX4_priceOfNext 8 = .ok (.invokevirtual 36, 3) := by decide +kernel
theorem dX4_priceOfNext_11 : decode cX4_priceOfNext 11 = .ok (.istore_n 1, 1) := by decide +kernel
theorem dX4_priceOfNext_12 : decode cX4_priceOfNext 12 = .ok (.aload_n 0, 1) := by decide +kernel
theorem dX4_priceOfNext_13 : decode cX4_priceOfNext 13 = .ok (.getfield 30, 3) := by decide +kernel
theorem dX4_priceOfNext_16 : decode cX4_priceOfNext 16 = .ok (.ifCond .eq 16, 3) := by decide +kernel
theorem dX4_priceOfNext_19 : decode cX4_priceOfNext 19 = .ok (.aload_n 0, 1) := by decide +kernel
theorem dX4_priceOfNext_20 : decode cX4_priceOfNext 20 = .ok (.getfield 19, 3) := by decide +kernel
theorem dX4_priceOfNext_23 : decode cX4_priceOfNext 23 = .ok (.ifCond .ne 9, 3) := by decide +kernel
theorem dX4_priceOfNext_26 : decode cX4_priceOfNext 26 = .ok (.iload_n 1, 1) := by decide +kernel
theorem dX4_priceOfNext_27 : decode cX4_priceOfNext 27 = .ok (.iconst 2, 1) := by decide +kernel
theorem dX4_priceOfNext_28 : decode cX4_priceOfNext 28 = .ok (.idiv, 1) := by decide +kernel
theorem dX4_priceOfNext_29 : decode cX4_priceOfNext 29 = .ok (.goto 4, 3) := by decide +kernel
theorem dX4_priceOfNext_32 : decode cX4_priceOfNext 32 = .ok (.iload_n 1, 1) := by decide +kernel
theorem dX4_priceOfNext_33 : decode cX4_priceOfNext 33 = .ok (.ireturn, 1) := by decide +kernel
theorem dX4_countPayment_0 : decode cX4_countPayment 0 = .ok (.aload_n 0, 1) := by decide +kernel
theorem dX4_countPayment_1 : decode cX4_countPayment 1 = .ok (.dup, 1) := by decide +kernel
theorem dX4_countPayment_2 : decode cX4_countPayment 2 = .ok (.getfield 19, 3) := by decide +kernel
theorem dX4_countPayment_5 : decode cX4_countPayment 5 = .ok (.iconst 1, 1) := by decide +kernel
theorem dX4_countPayment_6 : decode cX4_countPayment 6 = .ok (.iadd, 1) := by decide +kernel
theorem dX4_countPayment_7 : decode cX4_countPayment 7 = .ok (.putfield 19, 3) := by decide +kernel
theorem dX4_countPayment_10 : decode cX4_countPayment 10 = .ok (.aload_n 0, 1) := by decide +kernel
theorem dX4_countPayment_11 : decode cX4_countPayment 11 = .ok (.iconst 0, 1) := by decide +kernel
theorem dX4_countPayment_12 : decode cX4_countPayment 12 = .ok (.putfield 15, 3) := by decide +kernel
theorem dX4_countPayment_15 : decode cX4_countPayment 15 = .ok (.aload_n 0, 1) := by decide +kernel
theorem dX4_countPayment_16 : decode cX4_countPayment 16 = .ok (.iload_n 1, 1) := by decide +kernel
theorem dX4_countPayment_17 : decode cX4_countPayment 17 = .ok (.bipush 30, 2) := by decide +kernel
theorem dX4_countPayment_19 : decode cX4_countPayment 19 = .ok (.iadd, 1) := by decide +kernel
theorem dX4_countPayment_20 : decode cX4_countPayment 20 = .ok (.putfield 33, 3) := by decide +kernel
theorem dX4_countPayment_23 : decode cX4_countPayment 23 = .ok (.return_, 1) := by decide +kernel
theorem dX4_fail_0 : decode cX4_fail 0 = .ok (.aload_n 0, 1) := by decide +kernel
theorem dX4_fail_1 : decode cX4_fail 1 = .ok (.dup, 1) := by decide +kernel
theorem dX4_fail_2 : decode cX4_fail 2 = .ok (.getfield 15, 3) := by decide +kernel
theorem dX4_fail_5 : decode cX4_fail 5 = .ok (.iconst 1, 1) := by decide +kernel
theorem dX4_fail_6 : decode cX4_fail 6 = .ok (.iadd, 1) := by decide +kernel
theorem dX4_fail_7 : decode cX4_fail 7 = .ok (.putfield 15, 3) := by decide +kernel
theorem dX4_fail_10 : decode cX4_fail 10 = .ok (.aload_n 0, 1) := by decide +kernel
theorem dX4_fail_11 : decode cX4_fail 11 = .ok (.getfield 15, 3) := by decide +kernel
theorem dX4_fail_14 : decode cX4_fail 14 = .ok (.bipush 6, 2) := by decide +kernel
theorem dX4_fail_16 : decode cX4_fail 16 = .ok (.if_icmp .lt 10, 3) := by decide +kernel
theorem dX4_fail_19 : decode cX4_fail 19 = .ok (.aload_n 0, 1) := by decide +kernel
theorem dX4_fail_20 : decode cX4_fail 20 = .ok (.invokevirtual 42, 3) := by decide +kernel
theorem dX4_fail_23 : decode cX4_fail 23 = .ok (.goto 13, 3) := by decide +kernel
theorem dX4_fail_26 : decode cX4_fail 26 = .ok (.aload_n 0, 1) := by decide +kernel
theorem dX4_fail_27 : decode cX4_fail 27 = .ok (.dup, 1) := by decide +kernel
theorem dX4_fail_28 : decode cX4_fail 28 = .ok (.getfield 33, 3) := by decide +kernel
theorem dX4_fail_31 : decode cX4_fail 31 = .ok (.iconst 1, 1) := by decide +kernel
theorem dX4_fail_32 : decode cX4_fail 32 = .ok (.iadd, 1) := by decide +kernel
theorem dX4_fail_33 : decode cX4_fail 33 = .ok (.putfield 33, 3) := by decide +kernel
theorem dX4_fail_36 : decode cX4_fail 36 = .ok (.return_, 1) := by decide +kernel
theorem dX5_init_0 : decode cX5_init 0 = .ok (.aload_n 0, 1) := by decide +kernel
theorem dX5_init_1 : decode cX5_init 1 = .ok (.invokespecial 3, 3) := by decide +kernel
theorem dX5_init_4 : decode cX5_init 4 = .ok (.aload_n 0, 1) := by decide +kernel
theorem dX5_init_5 : decode cX5_init 5 = .ok (.iconst 5, 1) := by decide +kernel
theorem dX5_init_6 : decode cX5_init 6 = .ok (.anewarray 9, 3) := by decide +kernel
theorem dX5_init_9 : decode cX5_init 9 = .ok (.putfield 11, 3) := by decide +kernel
theorem dX5_init_12 : decode cX5_init 12 = .ok (.aload_n 0, 1) := by decide +kernel
theorem dX5_init_13 : decode cX5_init 13 = .ok (.new 15, 3) := by decide +kernel
theorem dX5_init_16 : decode cX5_init 16 = .ok (.dup, 1) := by decide +kernel
theorem dX5_init_17 : decode cX5_init 17 = .ok (.invokespecial 17, 3) := by decide +kernel
theorem dX5_init_20 : decode cX5_init 20 = .ok (.putfield 18, 3) := by decide +kernel
theorem dX5_init_23 : decode cX5_init 23 = .ok (.aload_n 0, 1) := by decide +kernel
theorem dX5_init_24 : decode cX5_init 24 = .ok (.new 15, 3) := by decide +kernel
theorem dX5_init_27 : decode cX5_init 27 = .ok (.dup, 1) := by decide +kernel
theorem dX5_init_28 : decode cX5_init 28 = .ok (.invokespecial 17, 3) := by decide +kernel
theorem dX5_init_31 : decode cX5_init 31 = .ok (.putfield 22, 3) := by decide +kernel
theorem dX5_init_34 : decode cX5_init 34 = .ok (.aload_n 0, 1) := by decide +kernel
theorem dX5_init_35 : decode cX5_init 35 = .ok (.new 15, 3) := by decide +kernel
theorem dX5_init_38 : decode cX5_init 38 = .ok (.dup, 1) := by decide +kernel
theorem dX5_init_39 : decode cX5_init 39 = .ok (.invokespecial 17, 3) := by decide +kernel
theorem dX5_init_42 : decode cX5_init 42 = .ok (.putfield 25, 3) := by decide +kernel
theorem dX5_init_45 : decode cX5_init 45 = .ok (.aload_n 0, 1) := by decide +kernel
theorem dX5_init_46 : decode cX5_init 46 = .ok (.new 15, 3) := by decide +kernel
theorem dX5_init_49 : decode cX5_init 49 = .ok (.dup, 1) := by decide +kernel
theorem dX5_init_50 : decode cX5_init 50 = .ok (.invokespecial 17, 3) := by decide +kernel
theorem dX5_init_53 : decode cX5_init 53 = .ok (.putfield 28, 3) := by decide +kernel
theorem dX5_init_56 : decode cX5_init 56 = .ok (.aload_n 0, 1) := by decide +kernel
theorem dX5_init_57 : decode cX5_init 57 = .ok (.iconst 0, 1) := by decide +kernel
theorem dX5_init_58 : decode cX5_init 58 = .ok (.putfield 31, 3) := by decide +kernel
theorem dX5_init_61 : decode cX5_init 61 = .ok (.aload_n 0, 1) := by decide +kernel
theorem dX5_init_62 : decode cX5_init 62 = .ok (.iconst 0, 1) := by decide +kernel
theorem dX5_init_63 : decode cX5_init 63 = .ok (.putfield 35, 3) := by decide +kernel
theorem dX5_init_66 : decode cX5_init 66 = .ok (.aload_n 0, 1) := by decide +kernel
theorem dX5_init_67 : decode cX5_init 67 = .ok (.iconst 0, 1) := by decide +kernel
theorem dX5_init_68 : decode cX5_init 68 = .ok (.putfield 38, 3) := by decide +kernel
theorem dX5_init_71 : decode cX5_init 71 = .ok (.iconst 0, 1) := by decide +kernel
theorem dX5_init_72 : decode cX5_init 72 = .ok (.istore_n 1, 1) := by decide +kernel
theorem dX5_init_73 : decode cX5_init 73 = .ok (.iload_n 1, 1) := by decide +kernel
theorem dX5_init_74 : decode cX5_init 74 = .ok (.aload_n 0, 1) := by decide +kernel
theorem dX5_init_75 : decode cX5_init 75 = .ok (.getfield 11, 3) := by decide +kernel
theorem dX5_init_78 : decode cX5_init 78 = .ok (.arraylength, 1) := by decide +kernel
theorem dX5_init_79 : decode cX5_init 79 = .ok (.if_icmp .ge 23, 3) := by decide +kernel
theorem dX5_init_82 : decode cX5_init 82 = .ok (.aload_n 0, 1) := by decide +kernel
theorem dX5_init_83 : decode cX5_init 83 = .ok (.getfield 11, 3) := by decide +kernel
theorem dX5_init_86 : decode cX5_init 86 = .ok (.iload_n 1, 1) := by decide +kernel
theorem dX5_init_87 : decode cX5_init 87 = .ok (.new 9, 3) := by decide +kernel
theorem dX5_init_90 : decode cX5_init 90 = .ok (.dup, 1) := by decide +kernel
theorem dX5_init_91 : decode cX5_init 91 = .ok (.iload_n 1, 1) := by decide +kernel
theorem dX5_init_92 : decode cX5_init 92 = .ok (.invokespecial 41, 3) := by decide +kernel
theorem dX5_init_95 : decode cX5_init 95 = .ok (.aastore, 1) := by decide +kernel
theorem dX5_init_96 : decode cX5_init 96 = .ok (.iinc 1 1, 3) := by decide +kernel
theorem dX5_init_99 : decode cX5_init 99 = .ok (.goto (-26), 3) := by decide +kernel
theorem dX5_init_102 : decode cX5_init 102 = .ok (.return_, 1) := by decide +kernel
theorem dX5_setTax_0 : decode cX5_setTax 0 = .ok (.aload_n 0, 1) := by decide +kernel
theorem dX5_setTax_1 : decode cX5_setTax 1 = .ok (.iload_n 1, 1) := by decide +kernel
theorem dX5_setTax_2 : decode cX5_setTax 2 = .ok (.invokevirtual 44, 3) := by decide +kernel
theorem dX5_setTax_5 : decode cX5_setTax 5 = .ok (.astore 4, 2) := by decide +kernel
theorem dX5_setTax_7 : decode cX5_setTax 7 = .ok (.iload_n 2, 1) := by decide +kernel
theorem dX5_setTax_8 : decode cX5_setTax 8 = .ok (.iconst 0, 1) := by decide +kernel
theorem dX5_setTax_9 : decode cX5_setTax 9 = .ok (.bipush 30, 2) := by decide +kernel
theorem dX5_setTax_11 : decode cX5_setTax 11 = .ok (.invokestatic 48, 3) := by decide +kernel
theorem dX5_setTax_14 : decode cX5_setTax 14 = .ok (.aload 4, 2) := by decide +kernel
theorem dX5_setTax_16 : decode cX5_setTax 16 = .ok (.getfield 52, 3) := by decide +kernel
theorem dX5_setTax_19 : decode cX5_setTax 19 = .ok (.istore 5, 2) := by decide +kernel
theorem dX5_setTax_21 : decode cX5_setTax 21 = .ok (.aload 4, 2) := by decide +kernel
theorem dX5_setTax_23 : decode cX5_setTax 23 = .ok (.iload_n 2, 1) := by decide +kernel
theorem dX5_setTax_24 : decode cX5_setTax 24 = .ok (.putfield 52, 3) := by decide +kernel
theorem dX5_setTax_27 : decode cX5_setTax 27 = .ok (.aload 4, 2) := by decide +kernel
theorem dX5_setTax_29 : decode cX5_setTax 29 = .ok (.iload_n 3, 1) := by decide +kernel
theorem dX5_setTax_30 : decode cX5_setTax 30 = .ok (.putfield 55, 3) := by decide +kernel
theorem dX5_setTax_33 : decode cX5_setTax 33 = .ok (.iload 5, 2) := by decide +kernel
theorem dX5_setTax_35 : decode cX5_setTax 35 = .ok (.ireturn, 1) := by decide +kernel
theorem dX5_addMaker_0 : decode cX5_addMaker 0 = .ok (.iload_n 1, 1) := by decide +kernel
theorem dX5_addMaker_1 : decode cX5_addMaker 1 = .ok (.iconst 0, 1) := by decide +kernel
theorem dX5_addMaker_2 : decode cX5_addMaker 2 = .ok (.ldc 59, 2) := by decide +kernel
theorem dX5_addMaker_4 : decode cX5_addMaker 4 = .ok (.invokestatic 48, 3) := by decide +kernel
theorem dX5_addMaker_7 : decode cX5_addMaker 7 = .ok (.aload_n 0, 1) := by decide +kernel
theorem dX5_addMaker_8 : decode cX5_addMaker 8 = .ok (.getfield 18, 3) := by decide +kernel
theorem dX5_addMaker_11 : decode cX5_addMaker 11 = .ok (.invokevirtual 60, 3) := by decide +kernel
theorem dX5_addMaker_14 : decode cX5_addMaker 14 = .ok (.bipush 6, 2) := by decide +kernel
theorem dX5_addMaker_16 : decode cX5_addMaker 16 = .ok (.invokestatic 64, 3) := by decide +kernel
theorem dX5_addMaker_19 : decode cX5_addMaker 19 = .ok (.aload_n 0, 1) := by decide +kernel
theorem dX5_addMaker_20 : decode cX5_addMaker 20 = .ok (.getfield 18, 3) := by decide +kernel
theorem dX5_addMaker_23 : decode cX5_addMaker 23 = .ok (.new 68, 3) := by decide +kernel
theorem dX5_addMaker_26 : decode cX5_addMaker 26 = .ok (.dup, 1) := by decide +kernel
theorem dX5_addMaker_27 : decode cX5_addMaker 27 = .ok (.iload_n 1, 1) := by decide +kernel
theorem dX5_addMaker_28 : decode cX5_addMaker 28 = .ok (.invokespecial 70, 3) := by decide +kernel
theorem dX5_addMaker_31 : decode cX5_addMaker 31 = .ok (.invokevirtual 71, 3) := by decide +kernel
theorem dX5_addMaker_34 : decode cX5_addMaker 34 = .ok (.pop, 1) := by decide +kernel
theorem dX5_addMaker_35 : decode cX5_addMaker 35 = .ok (.aload_n 0, 1) := by decide +kernel
theorem dX5_addMaker_36 : decode cX5_addMaker 36 = .ok (.getfield 18, 3) := by decide +kernel
theorem dX5_addMaker_39 : decode cX5_addMaker 39 = .ok (.invokevirtual 60, 3) := by decide +kernel
theorem dX5_addMaker_42 : decode cX5_addMaker 42 = .ok (.iconst 1, 1) := by decide +kernel
theorem dX5_addMaker_43 : decode cX5_addMaker 43 = .ok (.isub, 1) := by decide +kernel
theorem dX5_addMaker_44 : decode cX5_addMaker 44 = .ok (.ireturn, 1) := by decide +kernel
theorem dX5_addProduct_0 : decode cX5_addProduct 0 = .ok (.aload_n 0, 1) := by decide +kernel
theorem dX5_addProduct_1 : decode cX5_addProduct 1 = .ok (.iload_n 1, 1) := by decide +kernel
theorem dX5_addProduct_2 : decode cX5_addProduct 2 = .ok (.invokevirtual 75, 3) := by decide +kernel
theorem dX5_addProduct_5 : decode cX5_addProduct 5 = .ok (.astore_n 3, 1) := by decide +kernel
theorem dX5_addProduct_6 : decode cX5_addProduct 6 = .ok (.iload_n 2, 1) := by decide +kernel
theorem dX5_addProduct_7 : decode cX5_addProduct 7 = .ok (.iconst 0, 1) := by decide +kernel
theorem dX5_addProduct_8 : decode cX5_addProduct 8 = .ok (.ldc 79, 2) := by decide +kernel
theorem dX5_addProduct_10 : decode cX5_addProduct 10 = .ok (.invokestatic 48, 3) := by decide +kernel
theorem dX5_addProduct_13 : decode cX5_addProduct 13 = .ok (.aload_n 0, 1) := by decide +kernel
theorem dX5_addProduct_14 : decode cX5_addProduct 14 = .ok (.getfield 22, 3) := by decide +kernel
theorem dX5_addProduct_17 : decode cX5_addProduct 17 = .ok (.invokevirtual 60, 3) := by decide +kernel
theorem dX5_addProduct_20 : decode cX5_addProduct 20 = .ok (.bipush 20, 2) := by decide +kernel
theorem dX5_addProduct_22 : decode cX5_addProduct 22 = .ok (.invokestatic 64, 3) := by decide +kernel
theorem dX5_addProduct_25 : decode cX5_addProduct 25 = .ok (.aload_n 0, 1) := by decide +kernel
theorem dX5_addProduct_26 : decode cX5_addProduct 26 = .ok (.getfield 22, 3) := by decide +kernel
theorem dX5_addProduct_29 : decode cX5_addProduct 29 = .ok (.new 80, 3) := by decide +kernel
theorem dX5_addProduct_32 : decode cX5_addProduct 32 = .ok (.dup, 1) := by decide +kernel
theorem dX5_addProduct_33 : decode cX5_addProduct 33 = .ok (.aload_n 0, 1) := by decide +kernel
theorem dX5_addProduct_34 : decode cX5_addProduct 34 = .ok (.getfield 22, 3) := by decide +kernel
theorem dX5_addProduct_37 : decode cX5_addProduct 37 = .ok (.invokevirtual 60, 3) := by decide +kernel
theorem dX5_addProduct_40 : decode cX5_addProduct 40 = .ok (.aload_n 3, 1) := by decide +kernel
theorem dX5_addProduct_41 : decode cX5_addProduct 41 = .ok (.iload_n 2, 1) := by decide +kernel
theorem dX5_addProduct_42 : decode cX5_addProduct 42 = .ok (.invokespecial 82, 3) := by decide +kernel
theorem dX5_addProduct_45 : decode cX5_addProduct 45 = .ok (.invokevirtual 71, 3) := by decide +kernel
theorem dX5_addProduct_48 : decode cX5_addProduct 48 = .ok (.pop, 1) := by decide +kernel
theorem dX5_addProduct_49 : decode cX5_addProduct 49 = .ok (.aload_n 0, 1) := by decide +kernel
theorem dX5_addProduct_50 : decode cX5_addProduct 50 = .ok (.getfield 22, 3) := by decide +kernel
theorem dX5_addProduct_53 : decode cX5_addProduct 53 = .ok (.invokevirtual 60, 3) := by decide +kernel
theorem dX5_addProduct_56 : decode cX5_addProduct 56 = .ok (.iconst 1, 1) := by decide +kernel
theorem dX5_addProduct_57 : decode cX5_addProduct 57 = .ok (.isub, 1) := by decide +kernel
theorem dX5_addProduct_58 : decode cX5_addProduct 58 = .ok (.ireturn, 1) := by decide +kernel
theorem dX5_setPrice_0 : decode cX5_setPrice 0 = .ok (.aload_n 0, 1) := by decide +kernel
theorem dX5_setPrice_1 : decode cX5_setPrice 1 = .ok (.iload_n 1, 1) := by decide +kernel
theorem dX5_setPrice_2 : decode cX5_setPrice 2 = .ok (.invokevirtual 85, 3) := by decide +kernel
theorem dX5_setPrice_5 : decode cX5_setPrice 5 = .ok (.astore 4, 2) := by decide +kernel
theorem dX5_setPrice_7 : decode cX5_setPrice 7 = .ok (.aload_n 0, 1) := by decide +kernel
theorem dX5_setPrice_8 : decode cX5_setPrice 8 = .ok (.iload_n 2, 1) := by decide +kernel
theorem dX5_setPrice_9 : decode cX5_setPrice 9 = .ok (.invokevirtual 44, 3) := by decide +kernel
theorem dX5_setPrice_12 : decode cX5_setPrice 12 = .ok (.astore 5, 2) := by decide +kernel
theorem dX5_setPrice_14 : decode cX5_setPrice 14 = .ok (.iload_n 3, 1) := by decide +kernel
theorem dX5_setPrice_15 : decode cX5_setPrice 15 = .ok (.iconst 0, 1) := by decide +kernel
theorem dX5_setPrice_16 : decode cX5_setPrice 16 = .ok (.ldc 79, 2) := by decide +kernel
theorem dX5_setPrice_18 : decode cX5_setPrice 18 = .ok (.invokestatic 48, 3) := by decide +kernel
theorem dX5_setPrice_21 : decode cX5_setPrice 21 = .ok (.aload 4, 2) := by decide +kernel
theorem dX5_setPrice_23 : decode cX5_setPrice 23 = .ok (.aload 5, 2) := by decide +kernel
theorem dX5_setPrice_25 : decode cX5_setPrice 25 = .ok (.iload_n 3, 1) := by decide +kernel
theorem dX5_setPrice_26 : decode cX5_setPrice 26 = .ok (.invokevirtual 89, 3) := by decide +kernel
theorem dX5_setPrice_29 : decode cX5_setPrice 29 = .ok (.ireturn, 1) := by decide +kernel
theorem dX5_buy_0 : decode cX5_buy 0 = .ok (.aload_n 0, 1) := by decide +kernel
theorem dX5_buy_1 : decode cX5_buy 1 = .ok (.iload_n 1, 1) := by decide +kernel
theorem dX5_buy_2 : decode cX5_buy 2 = .ok (.invokevirtual 85, 3) := by decide +kernel
theorem dX5_buy_5 : decode cX5_buy 5 = .ok (.astore_n 3, 1) := by decide +kernel
theorem dX5_buy_6 : decode cX5_buy 6 = .ok (.aload_n 0, 1) := by decide +kernel
theorem dX5_buy_7 : decode cX5_buy 7 = .ok (.iload_n 2, 1) := by decide +kernel
theorem dX5_buy_8 : decode cX5_buy 8 = .ok (.invokevirtual 44, 3) := by decide +kernel
theorem dX5_buy_11 : decode cX5_buy 11 = .ok (.astore 4, 2) := by decide +kernel
theorem dX5_buy_13 : decode cX5_buy 13 = .ok (.aload_n 0, 1) := by decide +kernel
theorem dX5_buy_14 : decode cX5_buy 14 = .ok (.aload_n 3, 1) := by decide +kernel
theorem dX5_buy_15 : decode cX5_buy 15 = .ok (.aload 4, 2) := by decide +kernel
theorem dX5_buy_17 : decode cX5_buy 17 = .ok (.aload_n 3, 1) := by decide +kernel
theorem dX5_buy_18 : decode cX5_buy 18 = .ok (.aload 4, 2) := by decide +kernel
theorem dX5_buy_20 : decode cX5_buy 20 = .ok (.invokevirtual 93, 3) := by decide +kernel
theorem dX5_buy_23 : decode cX5_buy 23 = .ok (.iconst 0, 1) := by decide +kernel
theorem dX5_buy_24 : decode cX5_buy 24 = .ok (.invokevirtual 97, 3) := by decide +kernel
theorem dX5_buy_27 : decode cX5_buy 27 = .ok (.ireturn, 1) := by decide +kernel
theorem dX5_refund_0 : decode cX5_refund 0 = .ok (.aload_n 0, 1) := by decide +kernel
theorem dX5_refund_1 : decode cX5_refund 1 = .ok (.iload_n 1, 1) := by decide +kernel
theorem dX5_refund_2 : decode cX5_refund 2 = .ok (.invokevirtual 101, 3) := by decide +kernel
theorem dX5_refund_5 : decode cX5_refund 5 = .ok (.astore_n 2, 1) := by decide +kernel
theorem dX5_refund_6 : decode cX5_refund 6 = .ok (.aload_n 2, 1) := by decide +kernel
theorem dX5_refund_7 : decode cX5_refund 7 = .ok (.getfield 105, 3) := by decide +kernel
theorem dX5_refund_10 : decode cX5_refund 10 = .ok (.ifCond .eq 13, 3) := by decide +kernel
theorem dX5_refund_13 : decode cX5_refund 13 = .ok (.new 110, 3) := by decide +kernel
theorem dX5_refund_16 : decode cX5_refund 16 = .ok (.dup, 1) := by decide +kernel
theorem dX5_refund_17 : decode cX5_refund 17 = .ok (.ldc 112, 2) := by decide +kernel
theorem dX5_refund_19 : decode cX5_refund 19 = .ok (.invokespecial 114, 3) := by decide +kernel
theorem dX5_refund_22 : decode cX5_refund 22 = .ok (.athrow, 1) := by decide +kernel
theorem dX5_refund_23 : decode cX5_refund 23 = .ok (.aload_n 0, 1) := by decide +kernel
theorem dX5_refund_24 : decode cX5_refund 24 = .ok (.invokevirtual 117, 3) := by decide +kernel
theorem dX5_refund_27 : decode cX5_refund 27 = .ok (.aload_n 2, 1) := by decide +kernel
theorem dX5_refund_28 : decode cX5_refund 28 = .ok (.getfield 120, 3) := by decide +kernel
theorem dX5_refund_31 : decode cX5_refund 31 = .ok (.isub, 1) := by decide +kernel
theorem dX5_refund_32 : decode cX5_refund 32 = .ok (.iconst 3, 1) := by decide +kernel
theorem dX5_refund_33 : decode cX5_refund 33 = .ok (.if_icmp .le 13, 3) := by decide +kernel
theorem dX5_refund_36 : decode cX5_refund 36 = .ok (.new 110, 3) := by decide +kernel
theorem dX5_refund_39 : decode cX5_refund 39 = .ok (.dup, 1) := by decide +kernel
theorem dX5_refund_40 : decode cX5_refund 40 = .ok (.ldc 123, 2) := by decide +kernel
theorem dX5_refund_42 : decode cX5_refund 42 = .ok (.invokespecial 114, 3) := by decide +kernel
theorem dX5_refund_45 : decode cX5_refund 45 = .ok (.athrow, 1) := by decide +kernel
theorem dX5_refund_46 : decode cX5_refund 46 = .ok (.aload_n 2, 1) := by decide +kernel
theorem dX5_refund_47 : decode cX5_refund 47 = .ok (.iconst 1, 1) := by decide +kernel
theorem dX5_refund_48 : decode cX5_refund 48 = .ok (.putfield 105, 3) := by decide +kernel
theorem dX5_refund_51 : decode cX5_refund 51 = .ok (.aload_n 0, 1) := by decide +kernel
theorem dX5_refund_52 : decode cX5_refund 52 = .ok (.aload_n 2, 1) := by decide +kernel
theorem dX5_refund_53 : decode cX5_refund 53 = .ok (.iconst (-1), 1) := by decide +kernel
theorem dX5_refund_54 : decode cX5_refund 54 = .ok (.invokevirtual 125, 3) := by decide +kernel
theorem dX5_refund_57 : decode cX5_refund 57 = .ok (.aload_n 2, 1) := by decide +kernel
theorem dX5_refund_58 : decode cX5_refund 58 = .ok (.getfield 129, 3) := by decide +kernel
theorem dX5_refund_61 : decode cX5_refund 61 = .ok (.ireturn, 1) := by decide +kernel
theorem dX5_sales_0 : decode cX5_sales 0 = .ok (.aload_n 0, 1) := by decide +kernel
theorem dX5_sales_1 : decode cX5_sales 1 = .ok (.getfield 25, 3) := by decide +kernel
theorem dX5_sales_4 : decode cX5_sales 4 = .ok (.invokevirtual 60, 3) := by decide +kernel
theorem dX5_sales_7 : decode cX5_sales 7 = .ok (.ireturn, 1) := by decide +kernel
theorem dX5_paid_0 : decode cX5_paid 0 = .ok (.aload_n 0, 1) := by decide +kernel
theorem dX5_paid_1 : decode cX5_paid 1 = .ok (.iload_n 1, 1) := by decide +kernel
theorem dX5_paid_2 : decode cX5_paid 2 = .ok (.invokevirtual 101, 3) := by decide +kernel
theorem dX5_paid_5 : decode cX5_paid 5 = .ok (.getfield 129, 3) := by decide +kernel
theorem dX5_paid_8 : decode cX5_paid 8 = .ok (.ireturn, 1) := by decide +kernel
theorem dX5_tax_0 : decode cX5_tax 0 = .ok (.aload_n 0, 1) := by decide +kernel
theorem dX5_tax_1 : decode cX5_tax 1 = .ok (.iload_n 1, 1) := by decide +kernel
theorem dX5_tax_2 : decode cX5_tax 2 = .ok (.invokevirtual 101, 3) := by decide +kernel
theorem dX5_tax_5 : decode cX5_tax 5 = .ok (.getfield 132, 3) := by decide +kernel
theorem dX5_tax_8 : decode cX5_tax 8 = .ok (.ireturn, 1) := by decide +kernel
theorem dX5_shopShare_0 : decode cX5_shopShare 0 = .ok (.aload_n 0, 1) := by decide +kernel
theorem dX5_shopShare_1 : decode cX5_shopShare 1 = .ok (.iload_n 1, 1) := by decide +kernel
theorem dX5_shopShare_2 : decode cX5_shopShare 2 = .ok (.invokevirtual 101, 3) := by decide +kernel
theorem dX5_shopShare_5 : decode cX5_shopShare 5 = .ok (.getfield 135, 3) := by decide +kernel
theorem dX5_shopShare_8 : decode cX5_shopShare 8 = .ok (.ireturn, 1) := by decide +kernel
theorem dX5_makerPart_0 : decode cX5_makerPart 0 = .ok (.aload_n 0, 1) := by decide +kernel
theorem dX5_makerPart_1 : decode cX5_makerPart 1 = .ok (.iload_n 1, 1) := by decide +kernel
theorem dX5_makerPart_2 : decode cX5_makerPart 2 = .ok (.invokevirtual 101, 3) := by decide +kernel
theorem dX5_makerPart_5 : decode cX5_makerPart 5 = .ok (.getfield 138, 3) := by decide +kernel
theorem dX5_makerPart_8 : decode cX5_makerPart 8 = .ok (.ireturn, 1) := by decide +kernel
theorem dX5_subscribe_0 : decode cX5_subscribe 0 = .ok (.aload_n 0, 1) := by decide +kernel
theorem dX5_subscribe_1 : decode cX5_subscribe 1 = .ok (.iload_n 1, 1) := by decide +kernel
theorem dX5_subscribe_2 : decode cX5_subscribe 2 = .ok (.invokevirtual 85, 3) := by decide +kernel
theorem dX5_subscribe_5 : decode cX5_subscribe 5 = .ok (.astore 5, 2) := by decide +kernel
theorem dX5_subscribe_7 : decode cX5_subscribe 7 = .ok (.aload_n 0, 1) := by decide +kernel
theorem dX5_subscribe_8 : decode cX5_subscribe 8 = .ok (.iload_n 2, 1) := by decide +kernel
theorem dX5_subscribe_9 : decode cX5_subscribe 9 = .ok (.invokevirtual 44, 3) := by decide +kernel
theorem dX5_subscribe_12 : decode cX5_subscribe 12 = .ok (.astore 6, 2) := by decide +kernel
theorem dX5_subscribe_14 : decode cX5_subscribe 14 = .ok (.iload_n 3, 1) := by decide +kernel
theorem dX5_subscribe_15 : decode cX5_subscribe 15 = .ok (.iconst 1, 1) := by decide +kernel
theorem dX5_subscribe_16 : decode cX5_subscribe 16 = .ok (.bipush 60, 2) := by decide +kernel
theorem dX5_subscribe_18 : decode cX5_subscribe 18 = .ok (.invokestatic 48, 3) := by decide +kernel
theorem dX5_subscribe_21 : decode cX5_subscribe 21 = .ok (.aload_n 0, 1) := by decide +kernel
theorem dX5_subscribe_22 : decode cX5_subscribe 22 = .ok (.getfield 28, 3) := by decide +kernel
theorem dX5_subscribe_25 : decode cX5_subscribe 25 = .ok (.invokevirtual 60, 3) := by decide +kernel
theorem dX5_subscribe_28 : decode cX5_subscribe 28 = .ok (.bipush 40, 2) := by decide +kernel
theorem dX5_subscribe_30 : decode cX5_subscribe 30 = .ok (.invokestatic 64, 3) := by decide +kernel
theorem dX5_subscribe_33 : decode cX5_subscribe 33 = .ok (.aload_n 0, 1) := by decide +kernel
theorem dX5_subscribe_34 : decode cX5_subscribe 34 = .ok (.getfield 28, 3) := by decide +kernel
theorem dX5_subscribe_37 : decode cX5_subscribe 37 = .ok (.new 141, 3) := by decide +kernel
theorem dX5_subscribe_40 : decode cX5_subscribe 40 = .ok (.dup, 1) := by decide +kernel
theorem dX5_subscribe_41 : decode cX5_subscribe 41 = .ok (.aload 5, 2) := by decide +kernel
theorem dX5_subscribe_43 : decode cX5_subscribe 43 = .ok (.aload 6, 2) := by decide +kernel
theorem dX5_subscribe_45 : decode cX5_subscribe 45 = .ok (.aload_n 0, 1) := by decide +kernel
theorem dX5_subscribe_46 : decode cX5_subscribe 46 = .ok (.getfield 31, 3) := by decide +kernel
theorem dX5_subscribe_49 : decode cX5_subscribe 49 = .ok (.iload_n 3, 1) := by decide +kernel
theorem dX5_subscribe_50 : decode cX5_subscribe 50 = .ok (.iadd, 1) := by decide +kernel
theorem dX5_subscribe_51 : decode cX5_subscribe 51 = .ok (.iload 4, 2) := by decide +kernel
theorem dX5_subscribe_53 : decode cX5_subscribe 53 = .ok (.invokespecial 143, 3) := by decide +kernel
theorem dX5_subscribe_56 : decode cX5_subscribe 56 = .ok (.invokevirtual 71, 3) := by decide +kernel
theorem dX5_subscribe_59 : decode cX5_subscribe 59 = .ok (.pop, 1) := by decide +kernel
theorem dX5_subscribe_60 : decode cX5_subscribe 60 = .ok (.aload_n 0, 1) := by decide +kernel
theorem dX5_subscribe_61 : decode cX5_subscribe 61 = .ok (.getfield 28, 3) := by decide +kernel
theorem dX5_subscribe_64 : decode cX5_subscribe 64 = .ok (.invokevirtual 60, 3) := by decide +kernel
theorem dX5_subscribe_67 : decode cX5_subscribe 67 = .ok (.iconst 1, 1) := by decide +kernel
theorem dX5_subscribe_68 : decode cX5_subscribe 68 = .ok (.isub, 1) := by decide +kernel
theorem dX5_subscribe_69 : decode cX5_subscribe 69 = .ok (.ireturn, 1) := by decide +kernel
theorem dX5_move_0 : decode cX5_move 0 = .ok (.aload_n 0, 1) := by decide +kernel
theorem dX5_move_1 : decode cX5_move 1 = .ok (.iload_n 1, 1) := by decide +kernel
theorem dX5_move_2 : decode cX5_move 2 = .ok (.invokevirtual 146, 3) := by decide +kernel
theorem dX5_move_5 : decode cX5_move 5 = .ok (.astore_n 3, 1) := by decide +kernel
theorem dX5_move_6 : decode cX5_move 6 = .ok (.aload_n 0, 1) := by decide +kernel
theorem dX5_move_7 : decode cX5_move 7 = .ok (.iload_n 2, 1) := by decide +kernel
theorem dX5_move_8 : decode cX5_move 8 = .ok (.invokevirtual 85, 3) := by decide +kernel
theorem dX5_move_11 : decode cX5_move 11 = .ok (.astore 4, 2) := by decide +kernel
theorem dX5_move_13 : decode cX5_move 13 = .ok (.aload_n 3, 1) := by decide +kernel
theorem dX5_move_14 : decode cX5_move 14 = .ok (.getfield 150, 3) := by decide +kernel
theorem dX5_move_17 : decode cX5_move 17 = .ok (.astore 5, 2) := by decide +kernel
theorem dX5_move_19 : decode cX5_move 19 = .ok (.aload 4, 2) := by decide +kernel
theorem dX5_move_21 : decode cX5_move 21 = .ok (.aload 5, 2) := by decide +kernel
theorem dX5_move_23 : decode cX5_move 23 = .ok (.if_acmp .ne 13, 3) := by decide +kernel
theorem dX5_move_26 : decode cX5_move 26 = .ok (.new 154, 3) := by decide +kernel
theorem dX5_move_29 : decode cX5_move 29 = .ok (.dup, 1) := by decide +kernel
theorem dX5_move_30 : decode cX5_move 30 = .ok (.ldc 156, 2) := by decide +kernel
theorem dX5_move_32 : decode cX5_move 32 = .ok (.invokespecial 158, 3) := by decide +kernel
theorem dX5_move_35 : decode cX5_move 35 = .ok (.athrow, 1) := by decide +kernel
theorem dX5_move_36 : decode cX5_move 36 = .ok (.aload 4, 2) := by decide +kernel
theorem dX5_move_38 : decode cX5_move 38 = .ok (.getfield 159, 3) := by decide +kernel
theorem dX5_move_41 : decode cX5_move 41 = .ok (.aload 5, 2) := by decide +kernel
theorem dX5_move_43 : decode cX5_move 43 = .ok (.getfield 159, 3) := by decide +kernel
theorem dX5_move_46 : decode cX5_move 46 = .ok (.if_acmp .eq 13, 3) := by decide +kernel
theorem dX5_move_49 : decode cX5_move 49 = .ok (.new 154, 3) := by decide +kernel
theorem dX5_move_52 : decode cX5_move 52 = .ok (.dup, 1) := by decide +kernel
theorem dX5_move_53 : decode cX5_move 53 = .ok (.ldc 163, 2) := by decide +kernel
theorem dX5_move_55 : decode cX5_move 55 = .ok (.invokespecial 158, 3) := by decide +kernel
theorem dX5_move_58 : decode cX5_move 58 = .ok (.athrow, 1) := by decide +kernel
theorem dX5_move_59 : decode cX5_move 59 = .ok (.aload_n 3, 1) := by decide +kernel
theorem dX5_move_60 : decode cX5_move 60 = .ok (.invokestatic 165, 3) := by decide +kernel
theorem dX5_move_63 : decode cX5_move 63 = .ok (.aload_n 3, 1) := by decide +kernel
theorem dX5_move_64 : decode cX5_move 64 = .ok (.aload 4, 2) := by decide +kernel
theorem dX5_move_66 : decode cX5_move 66 = .ok (.putfield 150, 3) := by decide +kernel
theorem dX5_move_69 : decode cX5_move 69 = .ok (.aload 5, 2) := by decide +kernel
theorem dX5_move_71 : decode cX5_move 71 = .ok (.getfield 169, 3) := by decide +kernel
theorem dX5_move_74 : decode cX5_move 74 = .ok (.ireturn, 1) := by decide +kernel
theorem dX5_setFailing_0 : decode cX5_setFailing 0 = .ok (.aload_n 0, 1) := by decide +kernel
theorem dX5_setFailing_1 : decode cX5_setFailing 1 = .ok (.iload_n 1, 1) := by decide +kernel
theorem dX5_setFailing_2 : decode cX5_setFailing 2 = .ok (.invokevirtual 146, 3) := by decide +kernel
theorem dX5_setFailing_5 : decode cX5_setFailing 5 = .ok (.astore_n 3, 1) := by decide +kernel
theorem dX5_setFailing_6 : decode cX5_setFailing 6 = .ok (.aload_n 3, 1) := by decide +kernel
theorem dX5_setFailing_7 : decode cX5_setFailing 7 = .ok (.invokestatic 165, 3) := by decide +kernel
theorem dX5_setFailing_10 : decode cX5_setFailing 10 = .ok (.aload_n 3, 1) := by decide +kernel
theorem dX5_setFailing_11 : decode cX5_setFailing 11 = .ok (.iload_n 2, 1) := by decide +kernel
theorem dX5_setFailing_12 : decode cX5_setFailing 12 = .ok (.putfield 172, 3) := by decide +kernel
theorem dX5_setFailing_15 : decode cX5_setFailing 15 = .ok (.return_, 1) := by decide +kernel
theorem dX5_cancel_0 : decode cX5_cancel 0 = .ok (.aload_n 0, 1) := by decide +kernel
theorem dX5_cancel_1 : decode cX5_cancel 1 = .ok (.iload_n 1, 1) := by decide +kernel
theorem dX5_cancel_2 : decode cX5_cancel 2 = .ok (.invokevirtual 146, 3) := by decide +kernel
theorem dX5_cancel_5 : decode cX5_cancel 5 = .ok (.astore_n 2, 1) := by decide +kernel
theorem dX5_cancel_6 : decode cX5_cancel 6 = .ok (.aload_n 2, 1) := by decide +kernel
theorem dX5_cancel_7 : decode cX5_cancel 7 = .ok (.invokestatic 165, 3) := by decide +kernel
theorem dX5_cancel_10 : decode cX5_cancel 10 = .ok (.aload_n 2, 1) := by decide +kernel
theorem dX5_cancel_11 : decode cX5_cancel 11 = .ok (.invokevirtual 175, 3) := by decide +kernel
theorem dX5_cancel_14 : decode cX5_cancel 14 = .ok (.aload_n 2, 1) := by decide +kernel
theorem dX5_cancel_15 : decode cX5_cancel 15 = .ok (.getfield 178, 3) := by decide +kernel
theorem dX5_cancel_18 : decode cX5_cancel 18 = .ok (.ireturn, 1) := by decide +kernel
theorem dX5_payments_0 : decode cX5_payments 0 = .ok (.aload_n 0, 1) := by decide +kernel
theorem dX5_payments_1 : decode cX5_payments 1 = .ok (.iload_n 1, 1) := by decide +kernel
theorem dX5_payments_2 : decode cX5_payments 2 = .ok (.invokevirtual 146, 3) := by decide +kernel
theorem dX5_payments_5 : decode cX5_payments 5 = .ok (.getfield 178, 3) := by decide +kernel
theorem dX5_payments_8 : decode cX5_payments 8 = .ok (.ireturn, 1) := by decide +kernel
theorem dX5_next_0 : decode cX5_next 0 = .ok (.aload_n 0, 1) := by decide +kernel
theorem dX5_next_1 : decode cX5_next 1 = .ok (.iload_n 1, 1) := by decide +kernel
theorem dX5_next_2 : decode cX5_next 2 = .ok (.invokevirtual 146, 3) := by decide +kernel
theorem dX5_next_5 : decode cX5_next 5 = .ok (.getfield 181, 3) := by decide +kernel
theorem dX5_next_8 : decode cX5_next 8 = .ok (.ireturn, 1) := by decide +kernel
theorem dX5_payout_0 : decode cX5_payout 0 = .ok (.aload_n 0, 1) := by decide +kernel
theorem dX5_payout_1 : decode cX5_payout 1 = .ok (.iload_n 1, 1) := by decide +kernel
theorem dX5_payout_2 : decode cX5_payout 2 = .ok (.invokevirtual 75, 3) := by decide +kernel
theorem dX5_payout_5 : decode cX5_payout 5 = .ok (.astore_n 3, 1) := by decide +kernel
theorem dX5_payout_6 : decode cX5_payout 6 = .ok (.iload_n 2, 1) := by decide +kernel
theorem dX5_payout_7 : decode cX5_payout 7 = .ok (.iconst 0, 1) := by decide +kernel
theorem dX5_payout_8 : decode cX5_payout 8 = .ok (.aload_n 0, 1) := by decide +kernel
theorem dX5_payout_9 : decode cX5_payout 9 = .ok (.invokevirtual 117, 3) := by decide +kernel
theorem dX5_payout_12 : decode cX5_payout 12 = .ok (.iconst 1, 1) := by decide +kernel
theorem dX5_payout_13 : decode cX5_payout 13 = .ok (.isub, 1) := by decide +kernel
theorem dX5_payout_14 : decode cX5_payout 14 = .ok (.invokestatic 48, 3) := by decide +kernel
theorem dX5_payout_17 : decode cX5_payout 17 = .ok (.aload_n 3, 1) := by decide +kernel
theorem dX5_payout_18 : decode cX5_payout 18 = .ok (.iload_n 2, 1) := by decide +kernel
theorem dX5_payout_19 : decode cX5_payout 19 = .ok (.invokevirtual 184, 3) := by decide +kernel
theorem dX5_payout_22 : decode cX5_payout 22 = .ok (.ireturn, 1) := by decide +kernel
theorem dX5_carried_0 : decode cX5_carried 0 = .ok (.aload_n 0, 1) := by decide +kernel
theorem dX5_carried_1 : decode cX5_carried 1 = .ok (.iload_n 1, 1) := by decide +kernel
theorem dX5_carried_2 : decode cX5_carried 2 = .ok (.invokevirtual 75, 3) := by decide +kernel
theorem dX5_carried_5 : decode cX5_carried 5 = .ok (.getfield 188, 3) := by decide +kernel
theorem dX5_carried_8 : decode cX5_carried 8 = .ok (.ireturn, 1) := by decide +kernel
theorem dX5_balance_0 : decode cX5_balance 0 = .ok (.aload_n 0, 1) := by decide +kernel
theorem dX5_balance_1 : decode cX5_balance 1 = .ok (.iload_n 1, 1) := by decide +kernel
theorem dX5_balance_2 : decode cX5_balance 2 = .ok (.invokevirtual 75, 3) := by decide +kernel
theorem dX5_balance_5 : decode cX5_balance 5 = .ok (.invokevirtual 191, 3) := by decide +kernel
theorem dX5_balance_8 : decode cX5_balance 8 = .ok (.ireturn, 1) := by decide +kernel
theorem dX5_heldTax_0 : decode cX5_heldTax 0 = .ok (.aload_n 0, 1) := by decide +kernel
theorem dX5_heldTax_1 : decode cX5_heldTax 1 = .ok (.iload_n 1, 1) := by decide +kernel
theorem dX5_heldTax_2 : decode cX5_heldTax 2 = .ok (.invokevirtual 44, 3) := by decide +kernel
theorem dX5_heldTax_5 : decode cX5_heldTax 5 = .ok (.getfield 194, 3) := by decide +kernel
theorem dX5_heldTax_8 : decode cX5_heldTax 8 = .ok (.ireturn, 1) := by decide +kernel
theorem dX5_shop_0 : decode cX5_shop 0 = .ok (.aload_n 0, 1) := by decide +kernel
theorem dX5_shop_1 : decode cX5_shop 1 = .ok (.getfield 35, 3) := by decide +kernel
theorem dX5_shop_4 : decode cX5_shop 4 = .ok (.ireturn, 1) := by decide +kernel
theorem dX5_takings_0 : decode cX5_takings 0 = .ok (.aload_n 0, 1) := by decide +kernel
theorem dX5_takings_1 : decode cX5_takings 1 = .ok (.getfield 38, 3) := by decide +kernel
theorem dX5_takings_4 : decode cX5_takings 4 = .ok (.ireturn, 1) := by decide +kernel
theorem dX5_pass_0 : decode cX5_pass 0 = .ok (.iload_n 1, 1) := by decide +kernel
theorem dX5_pass_1 : decode cX5_pass 1 = .ok (.iconst 1, 1) := by decide +kernel
theorem dX5_pass_2 : decode cX5_pass 2 = .ok (.sipush 400, 3) := by decide +kernel
theorem dX5_pass_5 : decode cX5_pass 5 = .ok (.invokestatic 48, 3) := by decide +kernel
theorem dX5_pass_8 : decode cX5_pass 8 = .ok (.aload_n 0, 1) := by decide +kernel
theorem dX5_pass_9 : decode cX5_pass 9 = .ok (.getfield 31, 3) := by decide +kernel
theorem dX5_pass_12 : decode cX5_pass 12 = .ok (.iload_n 1, 1) := by decide +kernel
theorem dX5_pass_13 : decode cX5_pass 13 = .ok (.iadd, 1) := by decide +kernel
theorem dX5_pass_14 : decode cX5_pass 14 = .ok (.sipush 3600, 3) := by decide +kernel
theorem dX5_pass_17 : decode cX5_pass 17 = .ok (.if_icmp .le 13, 3) := by decide +kernel
theorem dX5_pass_20 : decode cX5_pass 20 = .ok (.new 110, 3) := by decide +kernel
theorem dX5_pass_23 : decode cX5_pass 23 = .ok (.dup, 1) := by decide +kernel
theorem dX5_pass_24 : decode cX5_pass 24 = .ok (.ldc 197, 2) := by decide +kernel
theorem dX5_pass_26 : decode cX5_pass 26 = .ok (.invokespecial 114, 3) := by decide +kernel
theorem dX5_pass_29 : decode cX5_pass 29 = .ok (.athrow, 1) := by decide +kernel
theorem dX5_pass_30 : decode cX5_pass 30 = .ok (.iconst 0, 1) := by decide +kernel
theorem dX5_pass_31 : decode cX5_pass 31 = .ok (.istore_n 2, 1) := by decide +kernel
theorem dX5_pass_32 : decode cX5_pass 32 = .ok (.iconst 0, 1) := by decide +kernel
theorem dX5_pass_33 : decode cX5_pass 33 = .ok (.istore_n 3, 1) := by decide +kernel
theorem dX5_pass_34 : decode cX5_pass 34 = .ok (.iload_n 3, 1) := by decide +kernel
theorem dX5_pass_35 : decode cX5_pass 35 = .ok (.iload_n 1, 1) := by decide +kernel
theorem dX5_pass_36 : decode cX5_pass 36 = .ok (.if_icmp .ge 16, 3) := by decide +kernel
theorem dX5_pass_39 : decode cX5_pass 39 = .ok (.iload_n 2, 1) := by decide +kernel
theorem dX5_pass_40 : decode cX5_pass 40 = .ok (.aload_n 0, 1) := by decide +kernel
theorem dX5_pass_41 : decode cX5_pass 41 = .ok (.invokevirtual 199, 3) := by decide +kernel
theorem dX5_pass_44 : decode cX5_pass 44 = .ok (.iadd, 1) := by decide +kernel
theorem dX5_pass_45 : decode cX5_pass 45 = .ok (.istore_n 2, 1) := by decide +kernel
theorem dX5_pass_46 : decode cX5_pass 46 = .ok (.iinc 3 1, 3) := by decide +kernel
theorem dX5_pass_49 : decode cX5_pass 49 = .ok (.goto (-15), 3) := by decide +kernel
theorem dX5_pass_52 : decode cX5_pass 52 = .ok (.iload_n 2, 1) := by decide +kernel
theorem dX5_pass_53 : decode cX5_pass 53 = .ok (.ireturn, 1) := by decide +kernel
theorem dX5_day_0 : decode cX5_day 0 = .ok (.aload_n 0, 1) := by decide +kernel
theorem dX5_day_1 : decode cX5_day 1 = .ok (.getfield 31, 3) := by decide +kernel
theorem dX5_day_4 : decode cX5_day 4 = .ok (.ireturn, 1) := by decide +kernel
theorem dX5_landAt_0 : decode cX5_landAt 0 = .ok (.iload_n 1, 1) := by decide +kernel
theorem dX5_landAt_1 : decode cX5_landAt 1 = .ok (.ifCond .lt 12, 3) := by decide +kernel
theorem dX5_landAt_4 : decode cX5_landAt 4 = .ok (.iload_n 1, 1) := by decide +kernel
theorem dX5_landAt_5 : decode cX5_landAt 5 = .ok (.aload_n 0, 1) := by decide +kernel
theorem dX5_landAt_6 : decode cX5_landAt 6 = .ok (.getfield 11, 3) := by decide +kernel
theorem dX5_landAt_9 : decode cX5_landAt 9 = .ok (.arraylength, 1) := by decide +kernel
theorem dX5_landAt_10 : decode cX5_landAt 10 = .ok (.if_icmp .lt 13, 3) := by decide +kernel
theorem dX5_landAt_13 : decode cX5_landAt 13 = .ok (.new 154, 3) := by decide +kernel
theorem dX5_landAt_16 : decode cX5_landAt 16 = .ok (.dup, 1) := by decide +kernel
theorem dX5_landAt_17 : decode cX5_landAt 17 = .ok (.ldc 202, 2) := by decide +kernel
theorem dX5_landAt_19 : decode cX5_landAt 19 = .ok (.invokespecial 158, 3) := by decide +kernel
theorem dX5_landAt_22 : decode cX5_landAt 22 = .ok (.athrow, 1) := by decide +kernel
theorem dX5_landAt_23 : decode cX5_landAt 23 = .ok (.aload_n 0, 1) := by decide +kernel
theorem dX5_landAt_24 : decode cX5_landAt 24 = .ok (.getfield 11, 3) := by decide +kernel
theorem dX5_landAt_27 : decode cX5_landAt 27 = .ok (.iload_n 1, 1) := by decide +kernel
theorem dX5_landAt_28 : decode cX5_landAt 28 = .ok (.aaload, 1) := by decide +kernel
theorem dX5_landAt_29 : decode cX5_landAt 29 = .ok (.areturn, 1) := by decide +kernel
theorem dX5_makerAt_0 : decode cX5_makerAt 0 = .ok (.iload_n 1, 1) := by decide +kernel
theorem dX5_makerAt_1 : decode cX5_makerAt 1 = .ok (.ifCond .lt 14, 3) := by decide +kernel
theorem dX5_makerAt_4 : decode cX5_makerAt 4 = .ok (.iload_n 1, 1) := by decide +kernel
theorem dX5_makerAt_5 : decode cX5_makerAt 5 = .ok (.aload_n 0, 1) := by decide +kernel
theorem dX5_makerAt_6 : decode cX5_makerAt 6 = .ok (.getfield 18, 3) := by decide +kernel
theorem dX5_makerAt_9 : decode cX5_makerAt 9 = .ok (.invokevirtual 60, 3) := by decide +kernel
theorem dX5_makerAt_12 : decode cX5_makerAt 12 = .ok (.if_icmp .lt 13, 3) := by decide +kernel
theorem dX5_makerAt_15 : decode cX5_makerAt 15 = .ok (.new 204, 3) := by decide +kernel
theorem dX5_makerAt_18 : decode cX5_makerAt 18 = .ok (.dup, 1) := by decide +kernel
theorem dX5_makerAt_19 : decode cX5_makerAt 19 = .ok (.ldc 206, 2) := by decide +kernel
theorem dX5_makerAt_21 : decode cX5_makerAt 21 = .ok (.invokespecial 208, 3) := by decide +kernel
theorem dX5_makerAt_24 : decode cX5_makerAt 24 = .ok (.athrow, 1) := by decide +kernel
theorem dX5_makerAt_25 : decode cX5_makerAt 25 = .ok (.aload_n 0, 1) := by decide +kernel
theorem dX5_makerAt_26 : decode cX5_makerAt 26 = .ok (.getfield 18, 3) := by decide +kernel
theorem dX5_makerAt_29 : decode cX5_makerAt 29 = .ok (.iload_n 1, 1) := by decide +kernel
theorem dX5_makerAt_30 : decode cX5_makerAt 30 = .ok (.invokevirtual 209, 3) := by decide +kernel
theorem dX5_makerAt_33 : decode cX5_makerAt 33 = .ok (.checkcast 68, 3) := by decide +kernel
theorem dX5_makerAt_36 : decode cX5_makerAt 36 = .ok (.areturn, 1) := by decide +kernel
theorem dX5_productAt_0 : decode cX5_productAt 0 = .ok (.iload_n 1, 1) := by decide +kernel
theorem dX5_productAt_1 : decode cX5_productAt 1 = .ok (.ifCond .lt 14, 3) := by decide +kernel
theorem dX5_productAt_4 : decode cX5_productAt 4 = .ok (.iload_n 1, 1) := by decide +kernel
theorem dX5_productAt_5 : decode cX5_productAt 5 = .ok (.aload_n 0, 1) := by decide +kernel
theorem dX5_productAt_6 : decode cX5_productAt 6 = .ok (.getfield 22, 3) := by decide +kernel
theorem dX5_productAt_9 : decode cX5_productAt 9 = .ok (.invokevirtual 60, 3) := by decide +kernel
theorem dX5_productAt_12 : decode cX5_productAt 12 = .ok (.if_icmp .lt 13, 3) := by decide +kernel
theorem dX5_productAt_15 : decode cX5_productAt 15 = .ok (.new 204, 3) := by decide +kernel
theorem dX5_productAt_18 : decode cX5_productAt 18 = .ok (.dup, 1) := by decide +kernel
theorem dX5_productAt_19 : decode cX5_productAt 19 = .ok (.ldc 213, 2) := by decide +kernel
theorem dX5_productAt_21 : decode cX5_productAt 21 = .ok (.invokespecial 208, 3) := by decide +kernel
theorem dX5_productAt_24 : decode cX5_productAt 24 = .ok (.athrow, 1) := by decide +kernel
theorem dX5_productAt_25 : decode cX5_productAt 25 = .ok (.aload_n 0, 1) := by decide +kernel
theorem dX5_productAt_26 : decode cX5_productAt 26 = .ok (.getfield 22, 3) := by decide +kernel
theorem dX5_productAt_29 : decode cX5_productAt 29 = .ok (.iload_n 1, 1) := by decide +kernel
theorem dX5_productAt_30 : decode cX5_productAt 30 = .ok (.invokevirtual 209, 3) := by decide +kernel
theorem dX5_productAt_33 : decode cX5_productAt 33 = .ok (.checkcast 80, 3) := by decide +kernel
theorem dX5_productAt_36 : decode cX5_productAt 36 = .ok (.areturn, 1) := by decide +kernel
theorem dX5_saleAt_0 : decode cX5_saleAt 0 = .ok (.iload_n 1, 1) := by decide +kernel
theorem dX5_saleAt_1 : decode cX5_saleAt 1 = .ok (.ifCond .lt 14, 3) := by decide +kernel
theorem dX5_saleAt_4 : decode cX5_saleAt 4 = .ok (.iload_n 1, 1) := by decide +kernel
theorem dX5_saleAt_5 : decode cX5_saleAt 5 = .ok (.aload_n 0, 1) := by decide +kernel
theorem dX5_saleAt_6 : decode cX5_saleAt 6 = .ok (.getfield 25, 3) := by decide +kernel
theorem dX5_saleAt_9 : decode cX5_saleAt 9 = .ok (.invokevirtual 60, 3) := by decide +kernel
theorem dX5_saleAt_12 : decode cX5_saleAt 12 = .ok (.if_icmp .lt 13, 3) := by decide +kernel
theorem dX5_saleAt_15 : decode cX5_saleAt 15 = .ok (.new 204, 3) := by decide +kernel
theorem dX5_saleAt_18 : decode cX5_saleAt 18 = .ok (.dup, 1) := by decide +kernel
theorem dX5_saleAt_19 : decode cX5_saleAt 19 = .ok (.ldc 215, 2) := by decide +kernel
theorem dX5_saleAt_21 : decode cX5_saleAt 21 = .ok (.invokespecial 208, 3) := by decide +kernel
theorem dX5_saleAt_24 : decode cX5_saleAt 24 = .ok (.athrow, 1) := by decide +kernel
theorem dX5_saleAt_25 : decode cX5_saleAt 25 = .ok (.aload_n 0, 1) := by decide +kernel
theorem dX5_saleAt_26 : decode cX5_saleAt 26 = .ok (.getfield 25, 3) := by decide +kernel
theorem dX5_saleAt_29 : decode cX5_saleAt 29 = .ok (.iload_n 1, 1) := by decide +kernel
theorem dX5_saleAt_30 : decode cX5_saleAt 30 = .ok (.invokevirtual 209, 3) := by decide +kernel
theorem dX5_saleAt_33 : decode cX5_saleAt 33 = .ok (.checkcast 106, 3) := by decide +kernel
theorem dX5_saleAt_36 : decode cX5_saleAt 36 = .ok (.areturn, 1) := by decide +kernel
theorem dX5_subscriptionAt_0 : decode cX5_subscriptionAt 0 = .ok (.iload_n 1, 1) := by decide +kernel
theorem dX5_subscriptionAt_1 : decode cX5_subscriptionAt 1 = .ok (.ifCond .lt 14, 3) := by decide +kernel
theorem dX5_subscriptionAt_4 : decode cX5_subscriptionAt 4 = .ok (.iload_n 1, 1) := by decide +kernel
theorem dX5_subscriptionAt_5 : decode cX5_subscriptionAt 5 = .ok (.aload_n 0, 1) := by decide +kernel
theorem dX5_subscriptionAt_6 : decode cX5_subscriptionAt 6 = .ok (.getfield 28, 3) := by decide +kernel
theorem dX5_subscriptionAt_9 : decode cX5_subscriptionAt 9 = .ok (.invokevirtual 60, 3) := by decide +kernel
theorem dX5_subscriptionAt_12 : decode cX5_subscriptionAt 12 = .ok (.if_icmp .lt 13, 3) := by decide +kernel
theorem dX5_subscriptionAt_15 : decode cX5_subscriptionAt 15 = .ok (.new 204, 3) := by decide +kernel
theorem dX5_subscriptionAt_18 : decode cX5_subscriptionAt 18 = .ok (.dup, 1) := by decide +kernel
theorem dX5_subscriptionAt_19 : decode cX5_subscriptionAt 19 = .ok (.ldc 217, 2) := by decide +kernel
theorem dX5_subscriptionAt_21 : decode cX5_subscriptionAt 21 = .ok (.invokespecial 208, 3) := by decide +kernel
theorem dX5_subscriptionAt_24 : decode cX5_subscriptionAt 24 = .ok (.athrow, 1) := by decide +kernel
theorem dX5_subscriptionAt_25 : decode cX5_subscriptionAt 25 = .ok (.aload_n 0, 1) := by decide +kernel
theorem dX5_subscriptionAt_26 : decode cX5_subscriptionAt 26 = .ok (.getfield 28, 3) := by decide +kernel
theorem dX5_subscriptionAt_29 : decode cX5_subscriptionAt 29 = .ok (.iload_n 1, 1) := by decide +kernel
theorem dX5_subscriptionAt_30 : decode cX5_subscriptionAt 30 = .ok (.invokevirtual 209, 3) := by decide +kernel
theorem dX5_subscriptionAt_33 : decode cX5_subscriptionAt 33 = .ok (.checkcast 141, 3) := by decide +kernel
theorem dX5_subscriptionAt_36 : decode cX5_subscriptionAt 36 = .ok (.areturn, 1) := by decide +kernel
theorem dX5_requireRange_0 : decode cX5_requireRange 0 = .ok (.iload_n 0, 1) := by decide +kernel
theorem dX5_requireRange_1 : decode cX5_requireRange 1 = .ok (.iload_n 1, 1) := by decide +kernel
theorem dX5_requireRange_2 : decode cX5_requireRange 2 = .ok (.if_icmp .lt 8, 3) := by decide +kernel
theorem dX5_requireRange_5 : decode cX5_requireRange 5 = .ok (.iload_n 0, 1) := by decide +kernel
theorem dX5_requireRange_6 : decode cX5_requireRange 6 = .ok (.iload_n 2, 1) := by decide +kernel
theorem dX5_requireRange_7 : decode cX5_requireRange 7 = .ok (.if_icmp .le 13, 3) := by decide +kernel
theorem dX5_requireRange_10 : decode cX5_requireRange 10 = .ok (.new 154, 3) := by decide +kernel
theorem dX5_requireRange_13 : decode cX5_requireRange 13 = .ok (.dup, 1) := by decide +kernel
theorem dX5_requireRange_14 : decode cX5_requireRange 14 = .ok (.ldc 219, 2) := by decide +kernel
theorem dX5_requireRange_16 : decode cX5_requireRange 16 = .ok (.invokespecial 158, 3) := by decide +kernel
theorem dX5_requireRange_19 : decode cX5_requireRange 19 = .ok (.athrow, 1) := by decide +kernel
theorem dX5_requireRange_20 : decode cX5_requireRange 20 = .ok (.return_, 1) := by decide +kernel
theorem dX5_requireRoom_0 : decode cX5_requireRoom 0 = .ok (.iload_n 0, 1) := by decide +kernel
theorem dX5_requireRoom_1 : decode cX5_requireRoom 1 = .ok (.iload_n 1, 1) := by decide +kernel
theorem dX5_requireRoom_2 : decode cX5_requireRoom 2 = .ok (.if_icmp .lt 13, 3) := by decide +kernel
theorem dX5_requireRoom_5 : decode cX5_requireRoom 5 = .ok (.new 110, 3) := by decide +kernel
theorem dX5_requireRoom_8 : decode cX5_requireRoom 8 = .ok (.dup, 1) := by decide +kernel
theorem dX5_requireRoom_9 : decode cX5_requireRoom 9 = .ok (.ldc 221, 2) := by decide +kernel
theorem dX5_requireRoom_11 : decode cX5_requireRoom 11 = .ok (.invokespecial 114, 3) := by decide +kernel
theorem dX5_requireRoom_14 : decode cX5_requireRoom 14 = .ok (.athrow, 1) := by decide +kernel
theorem dX5_requireRoom_15 : decode cX5_requireRoom 15 = .ok (.return_, 1) := by decide +kernel
theorem dX5_requireRunning_0 : decode cX5_requireRunning 0 = .ok (.aload_n 0, 1) := by decide +kernel
theorem dX5_requireRunning_1 : decode cX5_requireRunning 1 = .ok (.invokevirtual 223, 3) := by decide +kernel
theorem dX5_requireRunning_4 : decode cX5_requireRunning 4 = .ok (.ifCond .eq 13, 3) := by decide +kernel
theorem dX5_requireRunning_7 : decode cX5_requireRunning 7 = .ok (.new 110, 3) := by decide +kernel
theorem dX5_requireRunning_10 : decode cX5_requireRunning 10 = .ok (.dup, 1) := by decide +kernel
theorem dX5_requireRunning_11 : decode cX5_requireRunning 11 = .ok (.ldc 227, 2) := by decide +kernel
theorem dX5_requireRunning_13 : decode cX5_requireRunning 13 = .ok (.invokespecial 114, 3) := by decide +kernel
theorem dX5_requireRunning_16 : decode cX5_requireRunning 16 = .ok (.athrow, 1) := by decide +kernel
theorem dX5_requireRunning_17 : decode cX5_requireRunning 17 = .ok (.return_, 1) := by decide +kernel
theorem dX5_currentMonth_0 : decode cX5_currentMonth 0 = .ok (.aload_n 0, 1) := by decide +kernel
theorem dX5_currentMonth_1 : decode cX5_currentMonth 1 = .ok (.getfield 31, 3) := by decide +kernel
theorem dX5_currentMonth_4 : decode cX5_currentMonth 4 = .ok (.bipush 30, 2) := by decide +kernel
theorem dX5_currentMonth_6 : decode cX5_currentMonth 6 = .ok (.idiv, 1) := by decide +kernel
theorem dX5_currentMonth_7 : decode cX5_currentMonth 7 = .ok (.ireturn, 1) := by decide +kernel
theorem dX5_sell_0 : decode cX5_sell 0 = .ok (.aload_n 0, 1) := by decide +kernel
theorem dX5_sell_1 : decode cX5_sell 1 = .ok (.getfield 25, 3) := by decide +kernel
theorem dX5_sell_4 : decode cX5_sell 4 = .ok (.invokevirtual 60, 3) := by decide +kernel
theorem dX5_sell_7 : decode cX5_sell 7 = .ok (.sipush 6000, 3) := by decide +kernel
theorem dX5_sell_10 : decode cX5_sell 10 = .ok (.if_icmp .lt 5, 3) := by decide +kernel
theorem dX5_sell_13 : decode cX5_sell 13 = .ok (.iconst (-1), 1) := by decide +kernel
theorem dX5_sell_14 : decode cX5_sell 14 = .ok (.ireturn, 1) := by decide +kernel
theorem dX5_sell_15 : decode cX5_sell 15 = .ok (.aload_n 1, 1) := by decide +kernel
theorem dX5_sell_16 : decode cX5_sell 16 = .ok (.getfield 159, 3) := by decide +kernel
theorem dX5_sell_19 : decode cX5_sell 19 = .ok (.astore 5, 2) := by decide +kernel
theorem dX5_sell_21 : decode cX5_sell 21 = .ok (.iload 4, 2) := by decide +kernel
theorem dX5_sell_23 : decode cX5_sell 23 = .ok (.ifCond .ne 13, 3) := by decide +kernel
theorem dX5_sell_26 : decode cX5_sell 26 = .ok (.aload 5, 2) := by decide +kernel
theorem dX5_sell_28 : decode cX5_sell 28 = .ok (.getfield 229, 3) := by decide +kernel
theorem dX5_sell_31 : decode cX5_sell 31 = .ok (.ldc 59, 2) := by decide +kernel
theorem dX5_sell_33 : decode cX5_sell 33 = .ok (.if_icmp .ge 7, 3) := by decide +kernel
theorem dX5_sell_36 : decode cX5_sell 36 = .ok (.iconst 1, 1) := by decide +kernel
theorem dX5_sell_37 : decode cX5_sell 37 = .ok (.goto 4, 3) := by decide +kernel
theorem dX5_sell_40 : decode cX5_sell 40 = .ok (.iconst 0, 1) := by decide +kernel
theorem dX5_sell_41 : decode cX5_sell 41 = .ok (.istore 6, 2) := by decide +kernel
theorem dX5_sell_43 : decode cX5_sell 43 = .ok (.new 106, 3) := by decide +kernel
theorem dX5_sell_46 : decode cX5_sell 46 = .ok (.dup, 1) := by decide +kernel
theorem dX5_sell_47 : decode cX5_sell 47 = .ok (.aload 5, 2) := by decide +kernel
theorem dX5_sell_49 : decode cX5_sell 49 = .ok (.aload_n 2, 1) := by decide +kernel
theorem dX5_sell_50 : decode cX5_sell 50 = .ok (.aload_n 0, 1) := by decide +kernel
theorem dX5_sell_51 : decode cX5_sell 51 = .ok (.invokevirtual 117, 3) := by decide +kernel
theorem dX5_sell_54 : decode cX5_sell 54 = .ok (.iload_n 3, 1) := by decide +kernel
theorem dX5_sell_55 : decode cX5_sell 55 = .ok (.iload 6, 2) := by decide +kernel
theorem dX5_sell_57 : decode cX5_sell 57 = .ok (.ifCond .eq 8, 3) := by decide +kernel
theorem dX5_sell_60 : decode cX5_sell 60 = .ok (.bipush 15, 2) := by decide +kernel
theorem dX5_sell_62 : decode cX5_sell 62 = .ok (.goto 5, 3) := by decide +kernel
theorem dX5_sell_65 : decode cX5_sell 65 = .ok (.bipush 30, 2) := by decide +kernel
theorem dX5_sell_67 : decode cX5_sell 67 = .ok (.invokespecial 232, 3) := by decide +kernel
theorem dX5_sell_70 : decode cX5_sell 70 = .ok (.astore 7, 2) := by decide +kernel
theorem dX5_sell_72 : decode cX5_sell 72 = .ok (.aload 5, 2) := by decide +kernel
theorem dX5_sell_74 : decode cX5_sell 74 = .ok (.dup, 1) := by decide +kernel
theorem dX5_sell_75 : decode cX5_sell 75 = .ok (.getfield 229, 3) := by decide +kernel
theorem dX5_sell_78 : decode cX5_sell 78 = .ok (.iload_n 3, 1) := by decide +kernel
theorem dX5_sell_79 : decode cX5_sell 79 = .ok (.aload 7, 2) := by decide +kernel
theorem dX5_sell_81 : decode cX5_sell 81 = .ok (.getfield 132, 3) := by decide +kernel
theorem dX5_sell_84 : decode cX5_sell 84 = .ok (.isub, 1) := by decide +kernel
theorem dX5_sell_85 : decode cX5_sell 85 = .ok (.iadd, 1) := by decide +kernel
theorem dX5_sell_86 : decode cX5_sell 86 = .ok (.putfield 229, 3) := by decide +kernel
theorem dX5_sell_89 : decode cX5_sell 89 = .ok (.aload_n 0, 1) := by decide +kernel
theorem dX5_sell_90 : decode cX5_sell 90 = .ok (.aload 7, 2) := by decide +kernel
theorem dX5_sell_92 : decode cX5_sell 92 = .ok (.iconst 1, 1) := by decide +kernel
theorem dX5_sell_93 : decode cX5_sell 93 = .ok (.invokevirtual 125, 3) := by decide +kernel
theorem dX5_sell_96 : decode cX5_sell 96 = .ok (.aload_n 0, 1) := by decide +kernel
theorem dX5_sell_97 : decode cX5_sell 97 = .ok (.getfield 25, 3) := by decide +kernel
theorem dX5_sell_100 : decode cX5_sell 100 = .ok (.aload 7, 2) := by decide +kernel
theorem dX5_sell_102 : decode cX5_sell 102 = .ok (.invokevirtual 71, 3) := by decide +kernel
theorem dX5_sell_105 : decode cX5_sell 105 = .ok (.pop, 1) := by decide +kernel
theorem dX5_sell_106 : decode cX5_sell 106 = .ok (.aload_n 0, 1) := by decide +kernel
theorem dX5_sell_107 : decode cX5_sell 107 = .ok (.getfield 25, 3) := by decide +kernel
theorem dX5_sell_110 : decode cX5_sell 110 = .ok (.invokevirtual 60, 3) := by decide +kernel
theorem dX5_sell_113 : decode cX5_sell 113 = .ok (.iconst 1, 1) := by decide +kernel
theorem dX5_sell_114 : decode cX5_sell 114 = .ok (.isub, 1) := by decide +kernel
theorem dX5_sell_115 : decode cX5_sell 115 = .ok (.ireturn, 1) := by decide +kernel
theorem dX5_book_0 : decode cX5_book 0 = .ok (.aload_n 0, 1) := by decide +kernel
theorem dX5_book_1 : decode cX5_book 1 = .ok (.dup, 1) := by decide +kernel
theorem dX5_book_2 : decode cX5_book 2 = .ok (.getfield 38, 3) := by decide +kernel
theorem dX5_book_5 : decode cX5_book 5 = .ok (.iload_n 2, 1) := by decide +kernel
theorem dX5_book_6 : decode cX5_book 6 = .ok (.aload_n 1, 1) := by decide +kernel
theorem dX5_book_7 : decode cX5_book 7 = .ok (.getfield 129, 3) := by decide +kernel
theorem dX5_book_10 : decode cX5_book 10 = .ok (.imul, 1) := by decide +kernel
theorem dX5_book_11 : decode cX5_book 11 = .ok (.iadd, 1) := by decide +kernel
theorem dX5_book_12 : decode cX5_book 12 = .ok (.putfield 38, 3) := by decide +kernel
theorem dX5_book_15 : decode cX5_book 15 = .ok (.aload_n 0, 1) := by decide +kernel
theorem dX5_book_16 : decode cX5_book 16 = .ok (.dup, 1) := by decide +kernel
theorem dX5_book_17 : decode cX5_book 17 = .ok (.getfield 35, 3) := by decide +kernel
theorem dX5_book_20 : decode cX5_book 20 = .ok (.iload_n 2, 1) := by decide +kernel
theorem dX5_book_21 : decode cX5_book 21 = .ok (.aload_n 1, 1) := by decide +kernel
theorem dX5_book_22 : decode cX5_book 22 = .ok (.getfield 135, 3) := by decide +kernel
theorem dX5_book_25 : decode cX5_book 25 = .ok (.imul, 1) := by decide +kernel
theorem dX5_book_26 : decode cX5_book 26 = .ok (.iadd, 1) := by decide +kernel
theorem dX5_book_27 : decode cX5_book 27 = .ok (.putfield 35, 3) := by decide +kernel
theorem dX5_book_30 : decode cX5_book 30 = .ok (.aload_n 1, 1) := by decide +kernel
theorem dX5_book_31 : decode cX5_book 31 = .ok (.getfield 235, 3) := by decide +kernel
theorem dX5_book_34 : decode cX5_book 34 = .ok (.dup, 1) := by decide +kernel
theorem dX5_book_35 : decode cX5_book 35 = .ok (.getfield 236, 3) := by decide +kernel
theorem dX5_book_38 : decode cX5_book 38 = .ok (.iload_n 2, 1) := by decide +kernel
theorem dX5_book_39 : decode cX5_book 39 = .ok (.aload_n 1, 1) := by decide +kernel
theorem dX5_book_40 : decode cX5_book 40 = .ok (.getfield 138, 3) := by decide +kernel
theorem dX5_book_43 : decode cX5_book 43 = .ok (.imul, 1) := by decide +kernel
theorem dX5_book_44 : decode cX5_book 44 = .ok (.iadd, 1) := by decide +kernel
theorem dX5_book_45 : decode cX5_book 45 = .ok (.putfield 236, 3) := by decide +kernel
theorem dX5_book_48 : decode cX5_book 48 = .ok (.aload_n 1, 1) := by decide +kernel
theorem dX5_book_49 : decode cX5_book 49 = .ok (.getfield 239, 3) := by decide +kernel
theorem dX5_book_52 : decode cX5_book 52 = .ok (.ifCond .eq 21, 3) := by decide +kernel
theorem dX5_book_55 : decode cX5_book 55 = .ok (.aload_n 1, 1) := by decide +kernel
theorem dX5_book_56 : decode cX5_book 56 = .ok (.getfield 242, 3) := by decide +kernel
theorem dX5_book_59 : decode cX5_book 59 = .ok (.dup, 1) := by decide +kernel
theorem dX5_book_60 : decode cX5_book 60 = .ok (.getfield 194, 3) := by decide +kernel
theorem dX5_book_63 : decode cX5_book 63 = .ok (.iload_n 2, 1) := by decide +kernel
theorem dX5_book_64 : decode cX5_book 64 = .ok (.aload_n 1, 1) := by decide +kernel
theorem dX5_book_65 : decode cX5_book 65 = .ok (.getfield 132, 3) := by decide +kernel
theorem dX5_book_68 : decode cX5_book 68 = .ok (.imul, 1) := by decide +kernel
theorem dX5_book_69 : decode cX5_book 69 = .ok (.iadd, 1) := by decide +kernel
theorem dX5_book_70 : decode cX5_book 70 = .ok (.putfield 194, 3) := by decide +kernel
theorem dX5_book_73 : decode cX5_book 73 = .ok (.return_, 1) := by decide +kernel
theorem dX5_beginNextDay_0 : decode cX5_beginNextDay 0 = .ok (.aload_n 0, 1) := by decide +kernel
theorem dX5_beginNextDay_1 : decode cX5_beginNextDay 1 = .ok (.dup, 1) := by decide +kernel
theorem dX5_beginNextDay_2 : decode cX5_beginNextDay 2 = .ok (.getfield 31, 3) := by decide +kernel
theorem dX5_beginNextDay_5 : decode cX5_beginNextDay 5 = .ok (.iconst 1, 1) := by decide +kernel
theorem dX5_beginNextDay_6 : decode cX5_beginNextDay 6 = .ok (.iadd, 1) := by decide +kernel
theorem dX5_beginNextDay_7 : decode cX5_beginNextDay 7 = .ok (.putfield 31, 3) := by decide +kernel
theorem dX5_beginNextDay_10 : decode cX5_beginNextDay 10 = .ok (.aload_n 0, 1) := by decide +kernel
theorem dX5_beginNextDay_11 : decode cX5_beginNextDay 11 = .ok (.getfield 31, 3) := by decide +kernel
theorem dX5_beginNextDay_14 : decode cX5_beginNextDay 14 = .ok (.bipush 30, 2) := by decide +kernel
theorem dX5_beginNextDay_16 : decode cX5_beginNextDay 16 = .ok (.irem, 1) := by decide +kernel
theorem dX5_beginNextDay_17 : decode cX5_beginNextDay 17 = .ok (.ifCond .ne 13, 3) := by decide +kernel
theorem dX5_beginNextDay_20 : decode cX5_beginNextDay 20 = .ok (.aload_n 0, 1) := by decide +kernel
theorem dX5_beginNextDay_21 : decode cX5_beginNextDay 21 = .ok (.aload_n 0, 1) := by decide +kernel
theorem dX5_beginNextDay_22 : decode cX5_beginNextDay 22 = .ok (.invokevirtual 117, 3) := by decide +kernel
theorem dX5_beginNextDay_25 : decode cX5_beginNextDay 25 = .ok (.iconst 1, 1) := by decide +kernel
theorem dX5_beginNextDay_26 : decode cX5_beginNextDay 26 = .ok (.isub, 1) := by decide +kernel
theorem dX5_beginNextDay_27 : decode cX5_beginNextDay 27 = .ok (.invokevirtual 246, 3) := by decide +kernel
theorem dX5_beginNextDay_30 : decode cX5_beginNextDay 30 = .ok (.aload_n 0, 1) := by decide +kernel
theorem dX5_beginNextDay_31 : decode cX5_beginNextDay 31 = .ok (.getfield 31, 3) := by decide +kernel
theorem dX5_beginNextDay_34 : decode cX5_beginNextDay 34 = .ok (.sipush 360, 3) := by decide +kernel
theorem dX5_beginNextDay_37 : decode cX5_beginNextDay 37 = .ok (.irem, 1) := by decide +kernel
theorem dX5_beginNextDay_38 : decode cX5_beginNextDay 38 = .ok (.ifCond .ne 7, 3) := by decide +kernel
theorem dX5_beginNextDay_41 : decode cX5_beginNextDay 41 = .ok (.aload_n 0, 1) := by decide +kernel
theorem dX5_beginNextDay_42 : decode cX5_beginNextDay 42 = .ok (.invokevirtual 249, 3) := by decide +kernel
theorem dX5_beginNextDay_45 : decode cX5_beginNextDay 45 = .ok (.aload_n 0, 1) := by decide +kernel
theorem dX5_beginNextDay_46 : decode cX5_beginNextDay 46 = .ok (.invokevirtual 252, 3) := by decide +kernel
theorem dX5_beginNextDay_49 : decode cX5_beginNextDay 49 = .ok (.ireturn, 1) := by decide +kernel
theorem dX5_closeMonth_0 : decode cX5_closeMonth 0 = .ok (.iconst 0, 1) := by decide +kernel
theorem dX5_closeMonth_1 : decode cX5_closeMonth 1 = .ok (.istore_n 2, 1) := by decide +kernel
theorem dX5_closeMonth_2 : decode cX5_closeMonth 2 = .ok (.iload_n 2, 1) := by decide +kernel
theorem dX5_closeMonth_3 : decode cX5_closeMonth 3 = .ok (.aload_n 0, 1) := by decide +kernel
theorem dX5_closeMonth_4 : decode cX5_closeMonth 4 = .ok (.getfield 18, 3) := by decide +kernel
theorem dX5_closeMonth_7 : decode cX5_closeMonth 7 = .ok (.invokevirtual 60, 3) := by decide +kernel
theorem dX5_closeMonth_10 : decode cX5_closeMonth 10 = .ok (.if_icmp .ge 24, 3) := by decide +kernel
theorem dX5_closeMonth_13 : decode cX5_closeMonth 13 = .ok (.aload_n 0, 1) := by decide +kernel
theorem dX5_closeMonth_14 : decode cX5_closeMonth 14 = .ok (.getfield 18, 3) := by decide +kernel
theorem dX5_closeMonth_17 : decode cX5_closeMonth 17 = .ok (.iload_n 2, 1) := by decide +kernel
theorem dX5_closeMonth_18 : decode cX5_closeMonth 18 = .ok (.invokevirtual 209, 3) := by decide +kernel
theorem dX5_closeMonth_21 : decode cX5_closeMonth 21 = .ok (.checkcast 68, 3) := by decide +kernel
theorem dX5_closeMonth_24 : decode cX5_closeMonth 24 = .ok (.iload_n 1, 1) := by decide +kernel
theorem dX5_closeMonth_25 : decode cX5_closeMonth 25 = .ok (.invokevirtual 255, 3) := by decide +kernel
theorem dX5_closeMonth_28 : decode cX5_closeMonth 28 = .ok (.iinc 2 1, 3) := by decide +kernel
theorem dX5_closeMonth_31 : decode cX5_closeMonth 31 = .ok (.goto (-29), 3) := by decide +kernel
theorem dX5_closeMonth_34 : decode cX5_closeMonth 34 = .ok (.return_, 1) := by decide +kernel
theorem dX5_beginYear_0 : decode cX5_beginYear 0 = .ok (.iconst 0, 1) := by decide +kernel
theorem dX5_beginYear_1 : decode cX5_beginYear 1 = .ok (.istore_n 1, 1) := by decide +kernel
theorem dX5_beginYear_2 : decode cX5_beginYear 2 = .ok (.iload_n 1, 1) := by decide +kernel
theorem dX5_beginYear_3 : decode cX5_beginYear 3 = .ok (.aload_n 0, 1) := by decide +kernel
theorem dX5_beginYear_4 : decode cX5_beginYear 4 = .ok (.getfield 18, 3) := by decide +kernel
theorem dX5_beginYear_7 : decode cX5_beginYear 7 = .ok (.invokevirtual 60, 3) := by decide +kernel
theorem dX5_beginYear_10 : decode cX5_beginYear 10 = .ok (.if_icmp .ge 24, 3) := by decide +kernel
theorem dX5_beginYear_13 : decode cX5_beginYear 13 = .ok (.aload_n 0, 1) := by decide +kernel
theorem dX5_beginYear_14 : decode cX5_beginYear 14 = .ok (.getfield 18, 3) := by decide +kernel
theorem dX5_beginYear_17 : decode cX5_beginYear 17 = .ok (.iload_n 1, 1) := by decide +kernel
theorem dX5_beginYear_18 : decode cX5_beginYear 18 = .ok (.invokevirtual 209, 3) := by decide +kernel
theorem dX5_beginYear_21 : decode cX5_beginYear 21 = .ok (.checkcast 68, 3) := by decide +kernel
theorem dX5_beginYear_24 : decode cX5_beginYear 24 = .ok (.iconst 0, 1) := by decide +kernel
theorem dX5_beginYear_25 : decode cX5_beginYear 25 = .ok (.putfield 229, 3) := by decide +kernel
theorem dX5_beginYear_28 : decode cX5_beginYear 28 = .ok (.iinc 1 1, 3) := by decide +kernel
theorem dX5_beginYear_31 : decode cX5_beginYear 31 = .ok (.goto (-29), 3) := by decide +kernel
theorem dX5_beginYear_34 : decode cX5_beginYear 34 = .ok (.return_, 1) := by decide +kernel
theorem dX5_collectPayments_0 : decode cX5_collectPayments 0 = .ok (.iconst 0, 1) := by decide +kernel
theorem dX5_collectPayments_1 : decode cX5_collectPayments 1 = .ok (.istore_n 1, 1) := by decide +kernel
theorem dX5_collectPayments_2 : decode cX5_collectPayments 2 = .ok (.iconst 0, 1) := by decide +kernel
theorem dX5_collectPayments_3 : decode cX5_collectPayments 3 = .ok (.istore_n 2, 1) := by decide +kernel
theorem dX5_collectPayments_4 : decode cX5_collectPayments 4 = .ok (.iload_n 2, 1) := by decide +kernel
theorem dX5_collectPayments_5 : decode cX5_collectPayments 5 = .ok (.aload_n 0, 1) := by decide +kernel
theorem dX5_collectPayments_6 : decode cX5_collectPayments 6 = .ok (.getfield 28, 3) := by decide +kernel
theorem dX5_collectPayments_9 : decode cX5_collectPayments 9 = .ok (.invokevirtual 60, 3) := by decide +kernel
theorem dX5_collectPayments_12 : decode cX5_collectPayments 12 = .ok (.if_icmp .ge 43, 3) := by decide +kernel
theorem dX5_collectPayments_15 : decode cX5_collectPayments 15 = .ok (.aload_n 0, 1) := by decide +kernel
theorem dX5_collectPayments_16 : decode cX5_collectPayments 16 = .ok (.getfield 28, 3) := by decide +kernel
theorem dX5_collectPayments_19 : decode cX5_collectPayments 19 = .ok (.iload_n 2, 1) := by decide +kernel
theorem dX5_collectPayments_20 : decode cX5_collectPayments 20 = .ok (.invokevirtual 209, 3) := by decide +kernel
theorem dX5_collectPayments_23 : decode cX5_collectPayments 23 = .ok (.checkcast 141, 3) := by decide +kernel
theorem dX5_collectPayments_26 : decode cX5_collectPayments 26 = .ok (.astore_n 3, 1) := by decide +kernel
theorem dX5_collectPayments_27 : decode cX5_collectPayments 27 = .ok (.aload_n 3, 1) := by decide +kernel
theorem dX5_collectPayments_28 : decode cX5_collectPayments 28 = .ok (.getfield 181, 3) := by decide +kernel
theorem dX5_collectPayments_31 : decode cX5_collectPayments 31 = .ok (.aload_n 0, 1) := by decide +kernel
theorem dX5_collectPayments_32 : decode cX5_collectPayments 32 = .ok (.getfield 31, 3) := by decide +kernel
theorem dX5_collectPayments_35 : decode cX5_collectPayments 35 = .ok (.if_icmp .ne 14, 3) := by decide +kernel
theorem dX5_collectPayments_38 : decode cX5_collectPayments 38 = .ok (.aload_n 0, 1) := by decide +kernel
theorem dX5_collectPayments_39 : decode cX5_collectPayments 39 = .ok (.aload_n 3, 1) := by decide +kernel
theorem dX5_collectPayments_40 : decode cX5_collectPayments 40 = .ok (.invokevirtual 258, 3) := by decide +kernel
theorem dX5_collectPayments_43 : decode cX5_collectPayments 43 = .ok (.ifCond .eq 6, 3) := by decide +kernel
theorem dX5_collectPayments_46 : decode cX5_collectPayments 46 = .ok (.iinc 1 1, 3) := by decide +kernel
theorem dX5_collectPayments_49 : decode cX5_collectPayments 49 = .ok (.iinc 2 1, 3) := by decide +kernel
theorem dX5_collectPayments_52 : decode cX5_collectPayments 52 = .ok (.goto (-48), 3) := by decide +kernel
theorem dX5_collectPayments_55 : decode cX5_collectPayments 55 = .ok (.iload_n 1, 1) := by decide +kernel
theorem dX5_collectPayments_56 : decode cX5_collectPayments 56 = .ok (.ireturn, 1) := by decide +kernel
theorem dX5_tryPayment_0 : decode cX5_tryPayment 0 = .ok (.aload_n 1, 1) := by decide +kernel
theorem dX5_tryPayment_1 : decode cX5_tryPayment 1 = .ok (.getfield 172, 3) := by decide +kernel
theorem dX5_tryPayment_4 : decode cX5_tryPayment 4 = .ok (.ifCond .eq 9, 3) := by decide +kernel
theorem dX5_tryPayment_7 : decode cX5_tryPayment 7 = .ok (.aload_n 1, 1) := by decide +kernel
theorem dX5_tryPayment_8 : decode cX5_tryPayment 8 = .ok (.invokevirtual 262, 3) := by decide +kernel
theorem dX5_tryPayment_11 : decode cX5_tryPayment 11 = .ok (.iconst 0, 1) := by decide +kernel
theorem dX5_tryPayment_12 : decode cX5_tryPayment 12 = .ok (.ireturn, 1) := by decide +kernel
theorem dX5_tryPayment_13 : decode cX5_tryPayment 13 = .ok (.aload_n 1, 1) := by decide +kernel
theorem dX5_tryPayment_14 : decode cX5_tryPayment 14 = .ok (.invokevirtual 265, 3) := by decide +kernel
theorem dX5_tryPayment_17 : decode cX5_tryPayment 17 = .ok (.istore_n 2, 1) := by decide +kernel
theorem dX5_tryPayment_18 : decode cX5_tryPayment 18 = .ok (.aload_n 1, 1) := by decide +kernel
theorem dX5_tryPayment_19 : decode cX5_tryPayment 19 = .ok (.aload_n 0, 1) := by decide +kernel
theorem dX5_tryPayment_20 : decode cX5_tryPayment 20 = .ok (.getfield 31, 3) := by decide +kernel
theorem dX5_tryPayment_23 : decode cX5_tryPayment 23 = .ok (.invokevirtual 268, 3) := by decide +kernel
theorem dX5_tryPayment_26 : decode cX5_tryPayment 26 = .ok (.aload_n 1, 1) := by decide +kernel
theorem dX5_tryPayment_27 : decode cX5_tryPayment 27 = .ok (.getfield 178, 3) := by decide +kernel
theorem dX5_tryPayment_30 : decode cX5_tryPayment 30 = .ok (.bipush 13, 2) := by decide +kernel
theorem dX5_tryPayment_32 : decode cX5_tryPayment 32 = .ok (.if_icmp .lt 7, 3) := by decide +kernel
theorem dX5_tryPayment_35 : decode cX5_tryPayment 35 = .ok (.iconst 1, 1) := by decide +kernel
theorem dX5_tryPayment_36 : decode cX5_tryPayment 36 = .ok (.goto 4, 3) := by decide +kernel
theorem dX5_tryPayment_39 : decode cX5_tryPayment 39 = .ok (.iconst 0, 1) := by decide +kernel
theorem dX5_tryPayment_40 : decode cX5_tryPayment 40 = .ok (.istore_n 3, 1) := by decide +kernel
theorem dX5_tryPayment_41 : decode cX5_tryPayment 41 = .ok (.aload_n 0, 1) := by decide +kernel
theorem dX5_tryPayment_42 : decode cX5_tryPayment 42 = .ok (.aload_n 1, 1) := by decide +kernel
theorem dX5_tryPayment_43 : decode cX5_tryPayment 43 = .ok (.getfield 150, 3) := by decide +kernel
theorem dX5_tryPayment_46 : decode cX5_tryPayment 46 = .ok (.aload_n 1, 1) := by decide +kernel
theorem dX5_tryPayment_47 : decode cX5_tryPayment 47 = .ok (.getfield 271, 3) := by decide +kernel
theorem dX5_tryPayment_50 : decode cX5_tryPayment 50 = .ok (.iload_n 2, 1) := by decide +kernel
theorem dX5_tryPayment_51 : decode cX5_tryPayment 51 = .ok (.iload_n 3, 1) := by decide +kernel
theorem dX5_tryPayment_52 : decode cX5_tryPayment 52 = .ok (.invokevirtual 97, 3) := by decide +kernel
theorem dX5_tryPayment_55 : decode cX5_tryPayment 55 = .ok (.pop, 1) := by decide +kernel
theorem dX5_tryPayment_56 : decode cX5_tryPayment 56 = .ok (.iconst 1, 1) := by decide +kernel
theorem dX5_tryPayment_57 : decode cX5_tryPayment 57 = .ok (.ireturn, 1) := by decide +kernel
theorem dJ9_max_7cf53_0 : decode cJ9_max_7cf53 0 = .ok (.iload_n 0, 1) := by decide +kernel
theorem dJ9_max_7cf53_1 : decode cJ9_max_7cf53 1 = .ok (.iload_n 1, 1) := by decide +kernel
theorem dJ9_max_7cf53_2 : decode cJ9_max_7cf53 2 = .ok (.if_icmp .lt 7, 3) := by decide +kernel
theorem dJ9_max_7cf53_5 : decode cJ9_max_7cf53 5 = .ok (.iload_n 0, 1) := by decide +kernel
theorem dJ9_max_7cf53_6 : decode cJ9_max_7cf53 6 = .ok (.goto 4, 3) := by decide +kernel
theorem dJ9_max_7cf53_9 : decode cJ9_max_7cf53 9 = .ok (.iload_n 1, 1) := by decide +kernel
theorem dJ9_max_7cf53_10 : decode cJ9_max_7cf53 10 = .ok (.ireturn, 1) := by decide +kernel
theorem dJ9_min_7cf53_0 : decode cJ9_min_7cf53 0 = .ok (.iload_n 0, 1) := by decide +kernel
theorem dJ9_min_7cf53_1 : decode cJ9_min_7cf53 1 = .ok (.iload_n 1, 1) := by decide +kernel
theorem dJ9_min_7cf53_2 : decode cJ9_min_7cf53 2 = .ok (.if_icmp .gt 7, 3) := by decide +kernel
theorem dJ9_min_7cf53_5 : decode cJ9_min_7cf53 5 = .ok (.iload_n 0, 1) := by decide +kernel
theorem dJ9_min_7cf53_6 : decode cJ9_min_7cf53 6 = .ok (.goto 4, 3) := by decide +kernel
theorem dJ9_min_7cf53_9 : decode cJ9_min_7cf53 9 = .ok (.iload_n 1, 1) := by decide +kernel
theorem dJ9_min_7cf53_10 : decode cJ9_min_7cf53 10 = .ok (.ireturn, 1) := by decide +kernel
theorem dJxa1e45_init_da8c8_0 : decode cJxa1e45_init_da8c8 0 = .ok (.aload_n 0, 1) := by decide +kernel
theorem dJxa1e45_init_da8c8_1 : decode cJxa1e45_init_da8c8 1 = .ok (.invokespecial 1, 3) := by decide +kernel
theorem dJxa1e45_init_da8c8_4 : decode cJxa1e45_init_da8c8 4 = .ok (.return_, 1) := by decide +kernel
theorem dJxc12de_init_da8c8_0 : decode cJxc12de_init_da8c8 0 = .ok (.aload_n 0, 1) := by decide +kernel
theorem dJxc12de_init_da8c8_1 : decode cJxc12de_init_da8c8 1 = .ok (.invokespecial 1, 3) := by decide +kernel
theorem dJxc12de_init_da8c8_4 : decode cJxc12de_init_da8c8 4 = .ok (.aload_n 0, 1) := by decide +kernel
theorem dJxc12de_init_da8c8_5 : decode cJxc12de_init_da8c8 5 = .ok (.iconst 0, 1) := by decide +kernel
theorem dJxc12de_init_da8c8_6 : decode cJxc12de_init_da8c8 6 = .ok (.putfield 7, 3) := by decide +kernel
theorem dJxc12de_init_da8c8_9 : decode cJxc12de_init_da8c8 9 = .ok (.return_, 1) := by decide +kernel
theorem dJx4a65c_init_da8c8_0 : decode cJx4a65c_init_da8c8 0 = .ok (.aload_n 0, 1) := by decide +kernel
theorem dJx4a65c_init_da8c8_1 : decode cJx4a65c_init_da8c8 1 = .ok (.invokespecial 1, 3) := by decide +kernel
theorem dJx4a65c_init_da8c8_4 : decode cJx4a65c_init_da8c8 4 = .ok (.aload_n 0, 1) := by decide +kernel
theorem dJx4a65c_init_da8c8_5 : decode cJx4a65c_init_da8c8 5 = .ok (.getstatic 39, 3) := by decide +kernel
theorem dJx4a65c_init_da8c8_8 : decode cJx4a65c_init_da8c8 8 = .ok (.putfield 9, 3) := by decide +kernel
theorem dJx4a65c_init_da8c8_11 : decode cJx4a65c_init_da8c8 11 = .ok (.return_, 1) := by decide +kernel
theorem dJx4a65c_grow_92f84_0 : decode cJx4a65c_grow_92f84 0 = .ok (.aload_n 0, 1) := by decide +kernel
theorem dJx4a65c_grow_92f84_1 : decode cJx4a65c_grow_92f84 1 = .ok (.getfield 9, 3) := by decide +kernel
theorem dJx4a65c_grow_92f84_4 : decode cJx4a65c_grow_92f84 4 = .ok (.arraylength, 1) := by decide +kernel
theorem dJx4a65c_grow_92f84_5 : decode cJx4a65c_grow_92f84 5 = .ok (.istore_n 2, 1) := by decide +kernel
theorem dJx4a65c_grow_92f84_6 : decode cJx4a65c_grow_92f84 6 = .ok (.iload_n 2, 1) := by decide +kernel
theorem dJx4a65c_grow_92f84_7 : decode cJx4a65c_grow_92f84 7 = .ok (.ifCond .gt 13, 3) := by decide +kernel
theorem dJx4a65c_grow_92f84_10 : decode cJx4a65c_grow_92f84 10 = .ok (.aload_n 0, 1) := by decide +kernel
theorem dJx4a65c_grow_92f84_11 : decode cJx4a65c_grow_92f84 11 = .ok (.getfield 9, 3) := by decide +kernel
theorem dJx4a65c_grow_92f84_14 : decode cJx4a65c_grow_92f84 14 = .ok (.getstatic 39, 3) := by decide +kernel
theorem dJx4a65c_grow_92f84_17 : decode cJx4a65c_grow_92f84 17 = .ok (.if_acmp .eq 28, 3) := by decide +kernel
theorem dJx4a65c_grow_92f84_20 : decode cJx4a65c_grow_92f84 20 = .ok (.iload_n 2, 1) := by decide +kernel
theorem dJx4a65c_grow_92f84_21 : decode cJx4a65c_grow_92f84 21 = .ok (.iload_n 1, 1) := by decide +kernel
theorem dJx4a65c_grow_92f84_22 : decode cJx4a65c_grow_92f84 22 = .ok (.iload_n 2, 1) := by decide +kernel
theorem dJx4a65c_grow_92f84_23 : decode cJx4a65c_grow_92f84 23 = .ok (.isub, 1) := by decide +kernel
theorem dJx4a65c_grow_92f84_24 : decode cJx4a65c_grow_92f84 24 = .ok (.iload_n 2, 1) := by decide +kernel
theorem dJx4a65c_grow_92f84_25 : decode cJx4a65c_grow_92f84 25 = .ok (.iconst 1, 1) := by decide +kernel
theorem dJx4a65c_grow_92f84_26 : decode cJx4a65c_grow_92f84 26 = .ok (.ishr, 1) := by decide +kernel
theorem dJx4a65c_grow_92f84_27 : decode cJx4a65c_grow_92f84 27 = .ok (.invokestatic 73, 3) := by decide +kernel
theorem dJx4a65c_grow_92f84_30 : decode cJx4a65c_grow_92f84 30 = .ok (.istore_n 3, 1) := by decide +kernel
theorem dJx4a65c_grow_92f84_31 : decode cJx4a65c_grow_92f84 31 = .ok (.aload_n 0, 1) := by decide +kernel
theorem dJx4a65c_grow_92f84_32 : decode cJx4a65c_grow_92f84 32 = .ok (.aload_n 0, 1) := by decide +kernel
theorem dJx4a65c_grow_92f84_33 : decode cJx4a65c_grow_92f84 33 = .ok (.getfield 9, 3) := by decide +kernel
theorem dJx4a65c_grow_92f84_36 : decode cJx4a65c_grow_92f84 36 = .ok (.iload_n 3, 1) := by decide +kernel
theorem dJx4a65c_grow_92f84_37 : decode cJx4a65c_grow_92f84 37 = .ok (.invokestatic 66, 3) := by decide +kernel
theorem dJx4a65c_grow_92f84_40 : decode cJx4a65c_grow_92f84 40 = .ok (.dup_x1, 1) := by decide +kernel
theorem dJx4a65c_grow_92f84_41 : decode cJx4a65c_grow_92f84 41 = .ok (.putfield 9, 3) := by decide +kernel
theorem dJx4a65c_grow_92f84_44 : decode cJx4a65c_grow_92f84 44 = .ok (.areturn, 1) := by decide +kernel
theorem dJx4a65c_grow_92f84_45 : decode cJx4a65c_grow_92f84 45 = .ok (.aload_n 0, 1) := by decide +kernel
theorem dJx4a65c_grow_92f84_46 : decode cJx4a65c_grow_92f84 46 = .ok (.bipush 10, 2) := by decide +kernel
theorem dJx4a65c_grow_92f84_48 : decode cJx4a65c_grow_92f84 48 = .ok (.iload_n 1, 1) := by decide +kernel
theorem dJx4a65c_grow_92f84_49 : decode cJx4a65c_grow_92f84 49 = .ok (.invokestatic 79, 3) := by decide +kernel
theorem dJx4a65c_grow_92f84_52 : decode cJx4a65c_grow_92f84 52 = .ok (.anewarray 7, 3) := by decide +kernel
theorem dJx4a65c_grow_92f84_55 : decode cJx4a65c_grow_92f84 55 = .ok (.dup_x1, 1) := by decide +kernel
theorem dJx4a65c_grow_92f84_56 : decode cJx4a65c_grow_92f84 56 = .ok (.putfield 9, 3) := by decide +kernel
theorem dJx4a65c_grow_92f84_59 : decode cJx4a65c_grow_92f84 59 = .ok (.areturn, 1) := by decide +kernel
theorem dJx4a65c_grow_d5877_0 : decode cJx4a65c_grow_d5877 0 = .ok (.aload_n 0, 1) := by decide +kernel
theorem dJx4a65c_grow_d5877_1 : decode cJx4a65c_grow_d5877 1 = .ok (.aload_n 0, 1) := by decide +kernel
theorem dJx4a65c_grow_d5877_2 : decode cJx4a65c_grow_d5877 2 = .ok (.getfield 48, 3) := by decide +kernel
theorem dJx4a65c_grow_d5877_5 : decode cJx4a65c_grow_d5877 5 = .ok (.iconst 1, 1) := by decide +kernel
theorem dJx4a65c_grow_d5877_6 : decode cJx4a65c_grow_d5877 6 = .ok (.iadd, 1) := by decide +kernel
theorem dJx4a65c_grow_d5877_7 : decode cJx4a65c_grow_d5877 7 = .ok (.invokevirtual 69, 3) := by decide +kernel
theorem dJx4a65c_grow_d5877_10 : decode cJx4a65c_grow_d5877 10 = .ok (.areturn, 1) := by decide +kernel
theorem dJx4a65c_size_8abf5_0 : decode cJx4a65c_size_8abf5 0 = .ok (.aload_n 0, 1) := by decide +kernel
theorem dJx4a65c_size_8abf5_1 : decode cJx4a65c_size_8abf5 1 = .ok (.getfield 48, 3) := by decide +kernel
theorem dJx4a65c_size_8abf5_4 : decode cJx4a65c_size_8abf5 4 = .ok (.ireturn, 1) := by decide +kernel
theorem dJx4a65c_elementData_915e3_0 : decode cJx4a65c_elementData_915e3 0 = .ok (.aload_n 0, 1) := by decide +kernel
theorem dJx4a65c_elementData_915e3_1 : decode cJx4a65c_elementData_915e3 1 = .ok (.getfield 9, 3) := by decide +kernel
theorem dJx4a65c_elementData_915e3_4 : decode cJx4a65c_elementData_915e3 4 = .ok (.iload_n 1, 1) := by decide +kernel
theorem dJx4a65c_elementData_915e3_5 : decode cJx4a65c_elementData_915e3 5 = .ok (.aaload, 1) := by decide +kernel
theorem dJx4a65c_elementData_915e3_6 : decode cJx4a65c_elementData_915e3 6 = .ok (.areturn, 1) := by decide +kernel
theorem dJx4a65c_get_915e3_0 : decode cJx4a65c_get_915e3 0 = .ok (.iload_n 1, 1) := by decide +kernel
theorem dJx4a65c_get_915e3_1 : decode cJx4a65c_get_915e3 1 = .ok (.aload_n 0, 1) := by decide +kernel
theorem dJx4a65c_get_915e3_2 : decode cJx4a65c_get_915e3 2 = .ok (.getfield 48, 3) := by decide +kernel
theorem dJx4a65c_get_915e3_5 : decode cJx4a65c_get_915e3 5 = .ok (.invokestatic 118, 3) := by decide +kernel
theorem dJx4a65c_get_915e3_8 : decode cJx4a65c_get_915e3 8 = .ok (.pop, 1) := by decide +kernel
theorem dJx4a65c_get_915e3_9 : decode cJx4a65c_get_915e3 9 = .ok (.aload_n 0, 1) := by decide +kernel
theorem dJx4a65c_get_915e3_10 : decode cJx4a65c_get_915e3 10 = .ok (.iload_n 1, 1) := by decide +kernel
theorem dJx4a65c_get_915e3_11 : decode cJx4a65c_get_915e3 11 = .ok (.invokevirtual 123, 3) := by decide +kernel
theorem dJx4a65c_get_915e3_14 : decode cJx4a65c_get_915e3 14 = .ok (.areturn, 1) := by decide +kernel
theorem dJx4a65c_add_72be8_0 : decode cJx4a65c_add_72be8 0 = .ok (.iload_n 3, 1) := by decide +kernel
theorem dJx4a65c_add_72be8_1 : decode cJx4a65c_add_72be8 1 = .ok (.aload_n 2, 1) := by decide +kernel
theorem dJx4a65c_add_72be8_2 : decode cJx4a65c_add_72be8 2 = .ok (.arraylength, 1) := by decide +kernel
theorem dJx4a65c_add_72be8_3 : decode cJx4a65c_add_72be8 3 = .ok (.if_icmp .ne 8, 3) := by decide +kernel
theorem dJx4a65c_add_72be8_6 : decode cJx4a65c_add_72be8 6 = .ok (.aload_n 0, 1) := by decide +kernel
theorem dJx4a65c_add_72be8_7 : decode cJx4a65c_add_72be8 7 = .ok (.invokevirtual 129, 3) := by decide +kernel
theorem dJx4a65c_add_72be8_10 : decode cJx4a65c_add_72be8 10 = .ok (.astore_n 2, 1) := by decide +kernel
theorem dJx4a65c_add_72be8_11 : decode cJx4a65c_add_72be8 11 = .ok (.aload_n 2, 1) := by decide +kernel
theorem dJx4a65c_add_72be8_12 : decode cJx4a65c_add_72be8 12 = .ok (.iload_n 3, 1) := by decide +kernel
theorem dJx4a65c_add_72be8_13 : decode cJx4a65c_add_72be8 13 = .ok (.aload_n 1, 1) := by decide +kernel
theorem dJx4a65c_add_72be8_14 : decode cJx4a65c_add_72be8 14 = .ok (.aastore, 1) := by decide +kernel
theorem dJx4a65c_add_72be8_15 : decode cJx4a65c_add_72be8 15 = .ok (.aload_n 0, 1) := by decide +kernel
theorem dJx4a65c_add_72be8_16 : decode cJx4a65c_add_72be8 16 = .ok (.iload_n 3, 1) := by decide +kernel
theorem dJx4a65c_add_72be8_17 : decode cJx4a65c_add_72be8 17 = .ok (.iconst 1, 1) := by decide +kernel
theorem dJx4a65c_add_72be8_18 : decode cJx4a65c_add_72be8 18 = .ok (.iadd, 1) := by decide +kernel
theorem dJx4a65c_add_72be8_19 : decode cJx4a65c_add_72be8 19 = .ok (.putfield 48, 3) := by decide +kernel
theorem dJx4a65c_add_72be8_22 : decode cJx4a65c_add_72be8 22 = .ok (.return_, 1) := by decide +kernel
theorem dJx4a65c_add_9ea2d_0 : decode cJx4a65c_add_9ea2d 0 = .ok (.aload_n 0, 1) := by decide +kernel
theorem dJx4a65c_add_9ea2d_1 : decode cJx4a65c_add_9ea2d 1 = .ok (.dup, 1) := by decide +kernel
theorem dJx4a65c_add_9ea2d_2 : decode cJx4a65c_add_9ea2d 2 = .ok (.getfield 63, 3) := by decide +kernel
theorem dJx4a65c_add_9ea2d_5 : decode cJx4a65c_add_9ea2d 5 = .ok (.iconst 1, 1) := by decide +kernel
theorem dJx4a65c_add_9ea2d_6 : decode cJx4a65c_add_9ea2d 6 = .ok (.iadd, 1) := by decide +kernel
theorem dJx4a65c_add_9ea2d_7 : decode cJx4a65c_add_9ea2d 7 = .ok (.putfield 63, 3) := by decide +kernel
theorem dJx4a65c_add_9ea2d_10 : decode cJx4a65c_add_9ea2d 10 = .ok (.aload_n 0, 1) := by decide +kernel
theorem dJx4a65c_add_9ea2d_11 : decode cJx4a65c_add_9ea2d 11 = .ok (.aload_n 1, 1) := by decide +kernel
theorem dJx4a65c_add_9ea2d_12 : decode cJx4a65c_add_9ea2d 12 = .ok (.aload_n 0, 1) := by decide +kernel
theorem dJx4a65c_add_9ea2d_13 : decode cJx4a65c_add_9ea2d 13 = .ok (.getfield 9, 3) := by decide +kernel
theorem dJx4a65c_add_9ea2d_16 : decode cJx4a65c_add_9ea2d 16 = .ok (.aload_n 0, 1) := by decide +kernel
theorem dJx4a65c_add_9ea2d_17 : decode cJx4a65c_add_9ea2d 17 = .ok (.getfield 48, 3) := by decide +kernel
theorem dJx4a65c_add_9ea2d_20 : decode cJx4a65c_add_9ea2d 20 = .ok (.invokevirtual 131, 3) := by decide +kernel
theorem dJx4a65c_add_9ea2d_23 : decode cJx4a65c_add_9ea2d 23 = .ok (.iconst 1, 1) := by decide +kernel
theorem dJx4a65c_add_9ea2d_24 : decode cJx4a65c_add_9ea2d 24 = .ok (.ireturn, 1) := by decide +kernel
theorem dJ7_copyOf_1904c_0 : decode cJ7_copyOf_1904c 0 = .ok (.aload_n 0, 1) := by decide +kernel
theorem dJ7_copyOf_1904c_1 : decode cJ7_copyOf_1904c 1 = .ok (.iload_n 1, 1) := by decide +kernel
theorem dJ7_copyOf_1904c_2 : decode cJ7_copyOf_1904c 2 = .ok (.aload_n 0, 1) := by decide +kernel
theorem dJ7_copyOf_1904c_3 : decode cJ7_copyOf_1904c 3 = .ok (.invokevirtual 86, 3) := by decide +kernel
theorem dJ7_copyOf_1904c_6 : decode cJ7_copyOf_1904c 6 = .ok (.invokestatic 300, 3) := by decide +kernel
theorem dJ7_copyOf_1904c_9 : decode cJ7_copyOf_1904c 9 = .ok (.areturn, 1) := by decide +kernel
theorem dJ7_copyOf_6403c_0 : decode cJ7_copyOf_6403c 0 = .ok (.aload_n 2, 1) := by decide +kernel
theorem dJ7_copyOf_6403c_1 : decode cJ7_copyOf_6403c 1 = .ok (.ldc 110, 2) := by decide +kernel
theorem dJ7_copyOf_6403c_3 : decode cJ7_copyOf_6403c 3 = .ok (.if_acmp .ne 10, 3) := by decide +kernel
theorem dJ7_copyOf_6403c_6 : decode cJ7_copyOf_6403c 6 = .ok (.iload_n 1, 1) := by decide +kernel
theorem dJ7_copyOf_6403c_7 : decode cJ7_copyOf_6403c 7 = .ok (.anewarray 2, 3) := by decide +kernel
theorem dJ7_copyOf_6403c_10 : decode cJ7_copyOf_6403c 10 = .ok (.goto 14, 3) := by decide +kernel
theorem dJ7_copyOf_6403c_13 : decode cJ7_copyOf_6403c 13 = .ok (.aload_n 2, 1) := by decide +kernel
theorem dJ7_copyOf_6403c_14 : decode cJ7_copyOf_6403c 14 = .ok (.invokevirtual 90, 3) := by decide +kernel
theorem dJ7_copyOf_6403c_17 : decode cJ7_copyOf_6403c 17 = .ok (.iload_n 1, 1) := by decide +kernel
theorem dJ7_copyOf_6403c_18 : decode cJ7_copyOf_6403c 18 = .ok (.invokestatic 95, 3) := by decide +kernel
theorem dJ7_copyOf_6403c_21 : decode cJ7_copyOf_6403c 21 = .ok (.checkcast 110, 3) := by decide +kernel
theorem dJ7_copyOf_6403c_24 : decode cJ7_copyOf_6403c 24 = .ok (.astore_n 3, 1) := by decide +kernel
theorem dJ7_copyOf_6403c_25 : decode cJ7_copyOf_6403c 25 = .ok (.aload_n 0, 1) := by decide +kernel
theorem dJ7_copyOf_6403c_26 : decode cJ7_copyOf_6403c 26 = .ok (.iconst 0, 1) := by decide +kernel
theorem dJ7_copyOf_6403c_27 : decode cJ7_copyOf_6403c 27 = .ok (.aload_n 3, 1) := by decide +kernel
theorem dJ7_copyOf_6403c_28 : decode cJ7_copyOf_6403c 28 = .ok (.iconst 0, 1) := by decide +kernel
theorem dJ7_copyOf_6403c_29 : decode cJ7_copyOf_6403c 29 = .ok (.aload_n 0, 1) := by decide +kernel
theorem dJ7_copyOf_6403c_30 : decode cJ7_copyOf_6403c 30 = .ok (.arraylength, 1) := by decide +kernel
theorem dJ7_copyOf_6403c_31 : decode cJ7_copyOf_6403c 31 = .ok (.iload_n 1, 1) := by decide +kernel
theorem dJ7_copyOf_6403c_32 : decode cJ7_copyOf_6403c 32 = .ok (.invokestatic 304, 3) := by decide +kernel
theorem dJ7_copyOf_6403c_35 : decode cJ7_copyOf_6403c 35 = .ok (.invokestatic 150, 3) := by decide +kernel
theorem dJ7_copyOf_6403c_38 : decode cJ7_copyOf_6403c 38 = .ok (.aload_n 3, 1) := by decide +kernel
theorem dJ7_copyOf_6403c_39 : decode cJ7_copyOf_6403c 39 = .ok (.areturn, 1) := by decide +kernel
theorem dJ15_checkIndex_7cf53_0 : decode cJ15_checkIndex_7cf53 0 = .ok (.iload_n 0, 1) := by decide +kernel
theorem dJ15_checkIndex_7cf53_1 : decode cJ15_checkIndex_7cf53 1 = .ok (.iload_n 1, 1) := by decide +kernel
theorem dJ15_checkIndex_7cf53_2 : decode cJ15_checkIndex_7cf53 2 = .ok (.aconst_null, 1) := by decide +kernel
theorem dJ15_checkIndex_7cf53_3 : decode cJ15_checkIndex_7cf53 3 = .ok (.invokestatic 105, 3) := by decide +kernel
theorem dJ15_checkIndex_7cf53_6 : decode cJ15_checkIndex_7cf53 6 = .ok (.ireturn, 1) := by decide +kernel
theorem dJ8_newLength_cabcc_0 : decode cJ8_newLength_cabcc 0 = .ok (.iload_n 0, 1) := by decide +kernel
theorem dJ8_newLength_cabcc_1 : decode cJ8_newLength_cabcc 1 = .ok (.iload_n 1, 1) := by decide +kernel
theorem dJ8_newLength_cabcc_2 : decode cJ8_newLength_cabcc 2 = .ok (.iload_n 2, 1) := by decide +kernel
theorem dJ8_newLength_cabcc_3 : decode cJ8_newLength_cabcc 3 = .ok (.invokestatic 194, 3) := by decide +kernel
theorem dJ8_newLength_cabcc_6 : decode cJ8_newLength_cabcc 6 = .ok (.iadd, 1) := by decide +kernel
theorem dJ8_newLength_cabcc_7 : decode cJ8_newLength_cabcc 7 = .ok (.istore_n 3, 1) := by decide +kernel
theorem dJ8_newLength_cabcc_8 : decode cJ8_newLength_cabcc 8 = .ok (.iconst 0, 1) := by decide +kernel
theorem dJ8_newLength_cabcc_9 : decode cJ8_newLength_cabcc 9 = .ok (.iload_n 3, 1) := by decide +kernel
theorem dJ8_newLength_cabcc_10 : decode cJ8_newLength_cabcc 10 = .ok (.if_icmp .ge 11, 3) := by decide +kernel
theorem dJ8_newLength_cabcc_13 : decode cJ8_newLength_cabcc 13 = .ok (.iload_n 3, 1) := by decide +kernel
theorem dJ8_newLength_cabcc_14 : decode cJ8_newLength_cabcc 14 = .ok (.ldc 200, 2) := by decide +kernel
theorem dJ8_newLength_cabcc_16 : decode cJ8_newLength_cabcc 16 = .ok (.if_icmp .gt 5, 3) := by decide +kernel
theorem dJ8_newLength_cabcc_19 : decode cJ8_newLength_cabcc 19 = .ok (.iload_n 3, 1) := by decide +kernel
theorem dJ8_newLength_cabcc_20 : decode cJ8_newLength_cabcc 20 = .ok (.ireturn, 1) := by decide +kernel
theorem dJ8_newLength_cabcc_21 : decode cJ8_newLength_cabcc 21 = .ok (.iload_n 0, 1) := by decide +kernel
theorem dJ8_newLength_cabcc_22 : decode cJ8_newLength_cabcc 22 = .ok (.iload_n 1, 1) := by decide +kernel
theorem dJ8_newLength_cabcc_23 : decode cJ8_newLength_cabcc 23 = .ok (.invokestatic 201, 3) := by decide +kernel
theorem dJ8_newLength_cabcc_26 : decode cJ8_newLength_cabcc 26 = .ok (.ireturn, 1) := by decide +kernel
theorem dJ8_hugeLength_7cf53_0 : decode cJ8_hugeLength_7cf53 0 = .ok (.iload_n 0, 1) := by decide +kernel
theorem dJ8_hugeLength_7cf53_1 : decode cJ8_hugeLength_7cf53 1 = .ok (.iload_n 1, 1) := by decide +kernel
theorem dJ8_hugeLength_7cf53_2 : decode cJ8_hugeLength_7cf53 2 = .ok (.iadd, 1) := by decide +kernel
theorem dJ8_hugeLength_7cf53_3 : decode cJ8_hugeLength_7cf53 3 = .ok (.istore_n 2, 1) := by decide +kernel
theorem dJ8_hugeLength_7cf53_4 : decode cJ8_hugeLength_7cf53 4 = .ok (.iload_n 2, 1) := by decide +kernel
theorem dJ8_hugeLength_7cf53_5 : decode cJ8_hugeLength_7cf53 5 = .ok (.ifCond .ge 44, 3) := by decide +kernel
theorem dJ8_hugeLength_7cf53_8 : decode cJ8_hugeLength_7cf53 8 = .ok (.new 204, 3) := by decide +kernel
theorem dJ8_hugeLength_7cf53_11 : decode cJ8_hugeLength_7cf53 11 = .ok (.dup, 1) := by decide +kernel
theorem dJ8_hugeLength_7cf53_12 : decode cJ8_hugeLength_7cf53 12 = .ok (.new 89, 3) := by decide +kernel
theorem dJ8_hugeLength_7cf53_15 : decode cJ8_hugeLength_7cf53 15 = .ok (.dup, 1) := by decide +kernel
theorem dJ8_hugeLength_7cf53_16 : decode cJ8_hugeLength_7cf53 16 = .ok (.invokespecial 91, 3) := by decide +kernel
theorem dJ8_hugeLength_7cf53_19 : decode cJ8_hugeLength_7cf53 19 = .ok (.ldc 206, 2) := by decide +kernel
theorem dJ8_hugeLength_7cf53_21 : decode cJ8_hugeLength_7cf53 21 = .ok (.invokevirtual 94, 3) := by decide +kernel
theorem dJ8_hugeLength_7cf53_24 : decode cJ8_hugeLength_7cf53 24 = .ok (.iload_n 0, 1) := by decide +kernel
theorem dJ8_hugeLength_7cf53_25 : decode cJ8_hugeLength_7cf53 25 = .ok (.invokevirtual 98, 3) := by decide +kernel
theorem dJ8_hugeLength_7cf53_28 : decode cJ8_hugeLength_7cf53 28 = .ok (.ldc 208, 2) := by decide +kernel
theorem dJ8_hugeLength_7cf53_30 : decode cJ8_hugeLength_7cf53 30 = .ok (.invokevirtual 94, 3) := by decide +kernel
theorem dJ8_hugeLength_7cf53_33 : decode cJ8_hugeLength_7cf53 33 = .ok (.iload_n 1, 1) := by decide +kernel
theorem dJ8_hugeLength_7cf53_34 : decode cJ8_hugeLength_7cf53 34 = .ok (.invokevirtual 98, 3) := by decide +kernel
theorem dJ8_hugeLength_7cf53_37 : decode cJ8_hugeLength_7cf53 37 = .ok (.ldc 210, 2) := by decide +kernel
theorem dJ8_hugeLength_7cf53_39 : decode cJ8_hugeLength_7cf53 39 = .ok (.invokevirtual 94, 3) := by decide +kernel
theorem dJ8_hugeLength_7cf53_42 : decode cJ8_hugeLength_7cf53 42 = .ok (.invokevirtual 101, 3) := by decide +kernel
theorem dJ8_hugeLength_7cf53_45 : decode cJ8_hugeLength_7cf53 45 = .ok (.invokespecial 212, 3) := by decide +kernel
theorem dJ8_hugeLength_7cf53_48 : decode cJ8_hugeLength_7cf53 48 = .ok (.athrow, 1) := by decide +kernel
theorem dJ8_hugeLength_7cf53_49 : decode cJ8_hugeLength_7cf53 49 = .ok (.iload_n 2, 1) := by decide +kernel
theorem dJ8_hugeLength_7cf53_50 : decode cJ8_hugeLength_7cf53 50 = .ok (.ldc 200, 2) := by decide +kernel
theorem dJ8_hugeLength_7cf53_52 : decode cJ8_hugeLength_7cf53 52 = .ok (.if_icmp .gt 6, 3) := by decide +kernel
theorem dJ8_hugeLength_7cf53_55 : decode cJ8_hugeLength_7cf53 55 = .ok (.ldc 200, 2) := by decide +kernel
theorem dJ8_hugeLength_7cf53_57 : decode cJ8_hugeLength_7cf53 57 = .ok (.ireturn, 1) := by decide +kernel
theorem dJ8_hugeLength_7cf53_58 : decode cJ8_hugeLength_7cf53 58 = .ok (.iload_n 2, 1) := by decide +kernel
theorem dJ8_hugeLength_7cf53_59 : decode cJ8_hugeLength_7cf53 59 = .ok (.ireturn, 1) := by decide +kernel
theorem dJ3_checkIndex_8e157_0 : decode cJ3_checkIndex_8e157 0 = .ok (.iload_n 0, 1) := by decide +kernel
theorem dJ3_checkIndex_8e157_1 : decode cJ3_checkIndex_8e157 1 = .ok (.ifCond .lt 8, 3) := by decide +kernel
theorem dJ3_checkIndex_8e157_4 : decode cJ3_checkIndex_8e157 4 = .ok (.iload_n 0, 1) := by decide +kernel
theorem dJ3_checkIndex_8e157_5 : decode cJ3_checkIndex_8e157 5 = .ok (.iload_n 1, 1) := by decide +kernel
theorem dJ3_checkIndex_8e157_6 : decode cJ3_checkIndex_8e157 6 = .ok (.if_icmp .lt 10, 3) := by decide +kernel
theorem dJ3_checkIndex_8e157_9 : decode cJ3_checkIndex_8e157 9 = .ok (.aload_n 2, 1) := by decide +kernel
theorem dJ3_checkIndex_8e157_10 : decode cJ3_checkIndex_8e157 10 = .ok (.iload_n 0, 1) := by decide +kernel
theorem dJ3_checkIndex_8e157_11 : decode cJ3_checkIndex_8e157 11 = .ok (.iload_n 1, 1) := by decide +kernel
theorem dJ3_checkIndex_8e157_12 : decode cJ3_checkIndex_8e157 12 = .ok (.invokestatic 95, 3) := by decide +kernel
theorem dJ3_checkIndex_8e157_15 : decode cJ3_checkIndex_8e157 15 = .ok (.athrow, 1) := by decide +kernel
theorem dJ3_checkIndex_8e157_16 : decode cJ3_checkIndex_8e157 16 = .ok (.iload_n 0, 1) := by decide +kernel
theorem dJ3_checkIndex_8e157_17 : decode cJ3_checkIndex_8e157 17 = .ok (.ireturn, 1) := by decide +kernel
abbrev vwCl : List vw_C := [(RJx4a65c, TJx4a65c, 3), (RX0, TX0, 4), (RX1, TX1, 5), (RX2, TX2, 3), (RX3, TX3, 9), (RX4, TX4, 7), (RX5, TX5, 8), (RX6, TX6, 26)]
/-- the good ones of the tables' words: what every contract asks -/
def TT : List Cond := lw_tbl.filter goodWord
theorem TT_lw (w : Cond) (h : w ∈ TT) : w ∈ lw_tbl := (List.mem_filter.mp h).1
theorem TT_gd (w : Cond) (h : w ∈ TT) : goodWord w = true := (List.mem_filter.mp h).2
theorem tt_of {w : Cond} (h : w ∈ tables_1) (g : goodWord w = true) : w ∈ TT := List.mem_filter.mpr ⟨List.mem_append_right _ h, g⟩
theorem tA {w : Cond} (i : Nat) (h : tables_1_1[i]? = some w) (g : goodWord w = true) : w ∈ TT := tt_of (List.mem_append_left _ (List.mem_of_getElem? h)) g
theorem tB {w : Cond} (i : Nat) (h : tables_1_2[i]? = some w) (g : goodWord w = true) : w ∈ TT := tt_of (List.mem_append_right _ (List.mem_append_left _ (List.mem_of_getElem? h))) g
theorem tC {w : Cond} (i : Nat) (h : tables_1_3[i]? = some w) (g : goodWord w = true) : w ∈ TT := tt_of (List.mem_append_right _ (List.mem_append_right _ (List.mem_append_left _ (List.mem_of_getElem? h)))) g
theorem tD {w : Cond} (i : Nat) (h : tables_1_4[i]? = some w) (g : goodWord w = true) : w ∈ TT := tt_of (List.mem_append_right _ (List.mem_append_right _ (List.mem_append_right _ (List.mem_of_getElem? h)))) g
theorem tP {y : MethodName} (i : Nat) (h : (lw_privs[i]?).map (fun q => q.1) = some y) : Cond.selects y.cls y y ∈ TT := by
  obtain ⟨q, hq, e⟩ := Option.map_eq_some_iff.mp h
  subst e
  exact List.mem_filter.mpr ⟨List.mem_append_left _ (List.mem_map.mpr ⟨q, List.mem_of_getElem? hq, rfl⟩), rfl⟩
theorem inX0 : ∀ w ∈ wsX00, w ∈ TT := (List.forall_mem_cons.mpr ⟨(tA 73 rfl rfl), (List.forall_mem_cons.mpr ⟨(tA 75 rfl rfl), (List.forall_mem_cons.mpr ⟨(tA 77 rfl rfl), (List.forall_mem_cons.mpr ⟨(tA 79 rfl rfl), (fun _ h => absurd h List.not_mem_nil)⟩)⟩)⟩)⟩)
theorem inX1 : ∀ w ∈ wsX10, w ∈ TT := (List.forall_mem_cons.mpr ⟨(tB 13 rfl rfl), (List.forall_mem_cons.mpr ⟨(tB 15 rfl rfl), (List.forall_mem_cons.mpr ⟨(tB 17 rfl rfl), (List.forall_mem_cons.mpr ⟨(tB 19 rfl rfl), (List.forall_mem_cons.mpr ⟨(tB 21 rfl rfl), (fun _ h => absurd h List.not_mem_nil)⟩)⟩)⟩)⟩)⟩)
theorem inX2 : ∀ w ∈ wsX20, w ∈ TT := (List.forall_mem_cons.mpr ⟨(tB 137 rfl rfl), (List.forall_mem_cons.mpr ⟨(tB 139 rfl rfl), (List.forall_mem_cons.mpr ⟨(tB 141 rfl rfl), (fun _ h => absurd h List.not_mem_nil)⟩)⟩)⟩)
theorem inX3 : ∀ w ∈ wsX30, w ∈ TT := (List.forall_mem_cons.mpr ⟨(tB 208 rfl rfl), (List.forall_mem_cons.mpr ⟨(tB 210 rfl rfl), (List.forall_mem_cons.mpr ⟨(tB 212 rfl rfl), (List.forall_mem_cons.mpr ⟨(tB 214 rfl rfl), (List.forall_mem_cons.mpr ⟨(tB 216 rfl rfl), (List.forall_mem_cons.mpr ⟨(tB 218 rfl rfl), (List.forall_mem_cons.mpr ⟨(tB 220 rfl rfl), (List.forall_mem_cons.mpr ⟨(tB 222 rfl rfl), (List.forall_mem_cons.mpr ⟨(tB 224 rfl rfl), (fun _ h => absurd h List.not_mem_nil)⟩)⟩)⟩)⟩)⟩)⟩)⟩)⟩)⟩)
theorem inX4 : ∀ w ∈ wsX40, w ∈ TT := (List.forall_mem_cons.mpr ⟨(tC 58 rfl rfl), (List.forall_mem_cons.mpr ⟨(tC 60 rfl rfl), (List.forall_mem_cons.mpr ⟨(tC 62 rfl rfl), (List.forall_mem_cons.mpr ⟨(tC 64 rfl rfl), (List.forall_mem_cons.mpr ⟨(tC 66 rfl rfl), (List.forall_mem_cons.mpr ⟨(tC 68 rfl rfl), (List.forall_mem_cons.mpr ⟨(tC 70 rfl rfl), (fun _ h => absurd h List.not_mem_nil)⟩)⟩)⟩)⟩)⟩)⟩)⟩)
theorem inX5 : ∀ w ∈ wsX50, w ∈ TT := (List.forall_mem_cons.mpr ⟨(tA 90 rfl rfl), (List.forall_mem_cons.mpr ⟨(tA 92 rfl rfl), (List.forall_mem_cons.mpr ⟨(tA 94 rfl rfl), (List.forall_mem_cons.mpr ⟨(tA 96 rfl rfl), (List.forall_mem_cons.mpr ⟨(tA 98 rfl rfl), (List.forall_mem_cons.mpr ⟨(tA 100 rfl rfl), (List.forall_mem_cons.mpr ⟨(tA 102 rfl rfl), (List.forall_mem_cons.mpr ⟨(tA 104 rfl rfl), (fun _ h => absurd h List.not_mem_nil)⟩)⟩)⟩)⟩)⟩)⟩)⟩)⟩)
theorem inX6 : ∀ w ∈ wsX60, w ∈ TT := (List.forall_mem_cons.mpr ⟨(tD 2 rfl rfl), (List.forall_mem_cons.mpr ⟨(tD 4 rfl rfl), (List.forall_mem_cons.mpr ⟨(tD 6 rfl rfl), (List.forall_mem_cons.mpr ⟨(tD 8 rfl rfl), (List.forall_mem_cons.mpr ⟨(tD 10 rfl rfl), (List.forall_mem_cons.mpr ⟨(tD 12 rfl rfl), (List.forall_mem_cons.mpr ⟨(tD 14 rfl rfl), (List.forall_mem_cons.mpr ⟨(tD 16 rfl rfl), (List.forall_mem_cons.mpr ⟨(tD 18 rfl rfl), (List.forall_mem_cons.mpr ⟨(tD 20 rfl rfl), (List.forall_mem_cons.mpr ⟨(tD 22 rfl rfl), (List.forall_mem_cons.mpr ⟨(tD 24 rfl rfl), (List.forall_mem_cons.mpr ⟨(tD 26 rfl rfl), (List.forall_mem_cons.mpr ⟨(tD 28 rfl rfl), (List.forall_mem_cons.mpr ⟨(tD 30 rfl rfl), (List.forall_mem_cons.mpr ⟨(tD 32 rfl rfl), (List.forall_mem_cons.mpr ⟨(tD 34 rfl rfl), (List.forall_mem_cons.mpr ⟨(tD 36 rfl rfl), (List.forall_mem_cons.mpr ⟨(tD 38 rfl rfl), (List.forall_mem_cons.mpr ⟨(tD 40 rfl rfl), (List.forall_mem_cons.mpr ⟨(tD 42 rfl rfl), (List.forall_mem_cons.mpr ⟨(tD 44 rfl rfl), (List.forall_mem_cons.mpr ⟨(tD 46 rfl rfl), (List.forall_mem_cons.mpr ⟨(tD 48 rfl rfl), (List.forall_mem_cons.mpr ⟨(tD 50 rfl rfl), (List.forall_mem_cons.mpr ⟨(tD 52 rfl rfl), (fun _ h => absurd h List.not_mem_nil)⟩)⟩)⟩)⟩)⟩)⟩)⟩)⟩)⟩)⟩)⟩)⟩)⟩)⟩)⟩)⟩)⟩)⟩)⟩)⟩)⟩)⟩)⟩)⟩)⟩)⟩)
theorem inJx4a65c : ∀ w ∈ wsJx4a65c0, w ∈ TT := (List.forall_mem_cons.mpr ⟨(tA 56 rfl rfl), (List.forall_mem_cons.mpr ⟨(tA 52 rfl rfl), (List.forall_mem_cons.mpr ⟨(tA 54 rfl rfl), (fun _ h => absurd h List.not_mem_nil)⟩)⟩)⟩)
def kD0 : MethodName := ⟨"java/lang/RuntimeException", "<init>", "(Ljava/lang/String;)V"⟩
def kD1 : MethodName := ⟨"java/lang/Exception", "<init>", "(Ljava/lang/String;)V"⟩
def kD2 : MethodName := ⟨"java/lang/Throwable", "<init>", "(Ljava/lang/String;)V"⟩
theorem in_x0 : ∀ w ∈ (vx_atS RX5 158 "java/lang/IllegalArgumentException" ["java/lang/RuntimeException", "java/lang/Exception"]).filter goodWord, w ∈ TT := fun w h => List.mem_filter.mpr ⟨(show ∀ w ∈ (vx_atS RX5 158 "java/lang/IllegalArgumentException" ["java/lang/RuntimeException", "java/lang/Exception"]).filter goodWord, w ∈ lw_tbl by decide +kernel) w h, (List.mem_filter.mp h).2⟩
theorem in_y0 : ∀ w ∈ (vx_atS RX5 158 "java/lang/IllegalArgumentException" ["java/lang/RuntimeException", "java/lang/Exception"]).filter (fun w => !goodWord w), w ∈ [Cond.castable "java/lang/IllegalArgumentException" "java/lang/IllegalArgumentException", .declares kD0, .declares kD1, .declares kD2] := by decide +kernel
theorem in_z0 : ∀ w ∈ Cond.classLink RX5 154 "java/lang/IllegalArgumentException" :: Cond.initialized "java/lang/IllegalArgumentException" :: vx_atS RX5 158 "java/lang/IllegalArgumentException" ["java/lang/RuntimeException", "java/lang/Exception"], vx_ot w = true := by decide +kernel
theorem in_x1 : ∀ w ∈ (vx_atS RX5 114 "java/lang/IllegalStateException" ["java/lang/RuntimeException", "java/lang/Exception"]).filter goodWord, w ∈ TT := fun w h => List.mem_filter.mpr ⟨(show ∀ w ∈ (vx_atS RX5 114 "java/lang/IllegalStateException" ["java/lang/RuntimeException", "java/lang/Exception"]).filter goodWord, w ∈ lw_tbl by decide +kernel) w h, (List.mem_filter.mp h).2⟩
theorem in_y1 : ∀ w ∈ (vx_atS RX5 114 "java/lang/IllegalStateException" ["java/lang/RuntimeException", "java/lang/Exception"]).filter (fun w => !goodWord w), w ∈ [Cond.castable "java/lang/IllegalStateException" "java/lang/IllegalStateException", .declares kD0, .declares kD1, .declares kD2] := by decide +kernel
theorem in_z1 : ∀ w ∈ Cond.classLink RX5 110 "java/lang/IllegalStateException" :: Cond.initialized "java/lang/IllegalStateException" :: vx_atS RX5 114 "java/lang/IllegalStateException" ["java/lang/RuntimeException", "java/lang/Exception"], vx_ot w = true := by decide +kernel
theorem in_x2 : ∀ w ∈ (vx_atS RX5 208 "java/lang/IndexOutOfBoundsException" ["java/lang/RuntimeException", "java/lang/Exception"]).filter goodWord, w ∈ TT := fun w h => List.mem_filter.mpr ⟨(show ∀ w ∈ (vx_atS RX5 208 "java/lang/IndexOutOfBoundsException" ["java/lang/RuntimeException", "java/lang/Exception"]).filter goodWord, w ∈ lw_tbl by decide +kernel) w h, (List.mem_filter.mp h).2⟩
theorem in_y2 : ∀ w ∈ (vx_atS RX5 208 "java/lang/IndexOutOfBoundsException" ["java/lang/RuntimeException", "java/lang/Exception"]).filter (fun w => !goodWord w), w ∈ [Cond.castable "java/lang/IndexOutOfBoundsException" "java/lang/IndexOutOfBoundsException", .declares kD0, .declares kD1, .declares kD2] := by decide +kernel
theorem in_z2 : ∀ w ∈ Cond.classLink RX5 204 "java/lang/IndexOutOfBoundsException" :: Cond.initialized "java/lang/IndexOutOfBoundsException" :: vx_atS RX5 208 "java/lang/IndexOutOfBoundsException" ["java/lang/RuntimeException", "java/lang/Exception"], vx_ot w = true := by decide +kernel
end
section
theorem dX6_init_0 : decode cX6_init 0 = .ok (.aload_n 0, 1) := by decide +kernel
theorem dX6_init_1 : decode cX6_init 1 = .ok (.invokespecial 1, 3) := by decide +kernel
theorem dX6_init_4 : decode cX6_init 4 = .ok (.aload_n 0, 1) := by decide +kernel
theorem dX6_init_5 : decode cX6_init 5 = .ok (.iconst 5, 1) := by decide +kernel
theorem dX6_init_6 : decode cX6_init 6 = .ok (.newarray .int, 2) := by decide +kernel
theorem dX6_init_8 : decode cX6_init 8 = .ok (.putfield 7, 3) := by decide +kernel
theorem dX6_init_11 : decode cX6_init 11 = .ok (.aload_n 0, 1) := by decide +kernel
theorem dX6_init_12 : decode cX6_init 12 = .ok (.iconst 5, 1) := by decide +kernel
theorem dX6_init_13 : decode cX6_init 13 = .ok (.newarray .int, 2) := by decide +kernel
theorem dX6_init_15 : decode cX6_init 15 = .ok (.putfield 13, 3) := by decide +kernel
theorem dX6_init_18 : decode cX6_init 18 = .ok (.aload_n 0, 1) := by decide +kernel
theorem dX6_init_19 : decode cX6_init 19 = .ok (.iconst 5, 1) := by decide +kernel
theorem dX6_init_20 : decode cX6_init 20 = .ok (.newarray .int, 2) := by decide +kernel
theorem dX6_init_22 : decode cX6_init 22 = .ok (.putfield 16, 3) := by decide +kernel
theorem dX6_init_25 : decode cX6_init 25 = .ok (.aload_n 0, 1) := by decide +kernel
theorem dX6_init_26 : decode cX6_init 26 = .ok (.bipush 6, 2) := by decide +kernel
theorem dX6_init_28 : decode cX6_init 28 = .ok (.newarray .int, 2) := by decide +kernel
theorem dX6_init_30 : decode cX6_init 30 = .ok (.putfield 19, 3) := by decide +kernel
theorem dX6_init_33 : decode cX6_init 33 = .ok (.aload_n 0, 1) := by decide +kernel
theorem dX6_init_34 : decode cX6_init 34 = .ok (.bipush 6, 2) := by decide +kernel
theorem dX6_init_36 : decode cX6_init 36 = .ok (.newarray .int, 2) := by decide +kernel
theorem dX6_init_38 : decode cX6_init 38 = .ok (.putfield 22, 3) := by decide +kernel
theorem dX6_init_41 : decode cX6_init 41 = .ok (.aload_n 0, 1) := by decide +kernel
theorem dX6_init_42 : decode cX6_init 42 = .ok (.bipush 6, 2) := by decide +kernel
theorem dX6_init_44 : decode cX6_init 44 = .ok (.newarray .int, 2) := by decide +kernel
theorem dX6_init_46 : decode cX6_init 46 = .ok (.putfield 25, 3) := by decide +kernel
theorem dX6_init_49 : decode cX6_init 49 = .ok (.aload_n 0, 1) := by decide +kernel
theorem dX6_init_50 : decode cX6_init 50 = .ok (.bipush 6, 2) := by decide +kernel
theorem dX6_init_52 : decode cX6_init 52 = .ok (.newarray .int, 2) := by decide +kernel
theorem dX6_init_54 : decode cX6_init 54 = .ok (.putfield 28, 3) := by decide +kernel
theorem dX6_init_57 : decode cX6_init 57 = .ok (.aload_n 0, 1) := by decide +kernel
theorem dX6_init_58 : decode cX6_init 58 = .ok (.sipush 720, 3) := by decide +kernel
theorem dX6_init_61 : decode cX6_init 61 = .ok (.newarray .int, 2) := by decide +kernel
theorem dX6_init_63 : decode cX6_init 63 = .ok (.putfield 31, 3) := by decide +kernel
theorem dX6_init_66 : decode cX6_init 66 = .ok (.aload_n 0, 1) := by decide +kernel
theorem dX6_init_67 : decode cX6_init 67 = .ok (.bipush 20, 2) := by decide +kernel
theorem dX6_init_69 : decode cX6_init 69 = .ok (.newarray .int, 2) := by decide +kernel
theorem dX6_init_71 : decode cX6_init 71 = .ok (.putfield 34, 3) := by decide +kernel
theorem dX6_init_74 : decode cX6_init 74 = .ok (.aload_n 0, 1) := by decide +kernel
theorem dX6_init_75 : decode cX6_init 75 = .ok (.bipush 100, 2) := by decide +kernel
theorem dX6_init_77 : decode cX6_init 77 = .ok (.newarray .int, 2) := by decide +kernel
theorem dX6_init_79 : decode cX6_init 79 = .ok (.putfield 37, 3) := by decide +kernel
theorem dX6_init_82 : decode cX6_init 82 = .ok (.aload_n 0, 1) := by decide +kernel
theorem dX6_init_83 : decode cX6_init 83 = .ok (.sipush 5400, 3) := by decide +kernel
theorem dX6_init_86 : decode cX6_init 86 = .ok (.newarray .long, 2) := by decide +kernel
theorem dX6_init_88 : decode cX6_init 88 = .ok (.putfield 40, 3) := by decide +kernel
theorem dX6_init_91 : decode cX6_init 91 = .ok (.aload_n 0, 1) := by decide +kernel
theorem dX6_init_92 : decode cX6_init 92 = .ok (.bipush 40, 2) := by decide +kernel
theorem dX6_init_94 : decode cX6_init 94 = .ok (.newarray .int, 2) := by decide +kernel
theorem dX6_init_96 : decode cX6_init 96 = .ok (.putfield 44, 3) := by decide +kernel
theorem dX6_init_99 : decode cX6_init 99 = .ok (.aload_n 0, 1) := by decide +kernel
theorem dX6_init_100 : decode cX6_init 100 = .ok (.bipush 40, 2) := by decide +kernel
theorem dX6_init_102 : decode cX6_init 102 = .ok (.newarray .int, 2) := by decide +kernel
theorem dX6_init_104 : decode cX6_init 104 = .ok (.putfield 47, 3) := by decide +kernel
theorem dX6_init_107 : decode cX6_init 107 = .ok (.aload_n 0, 1) := by decide +kernel
theorem dX6_init_108 : decode cX6_init 108 = .ok (.bipush 40, 2) := by decide +kernel
theorem dX6_init_110 : decode cX6_init 110 = .ok (.newarray .int, 2) := by decide +kernel
theorem dX6_init_112 : decode cX6_init 112 = .ok (.putfield 50, 3) := by decide +kernel
theorem dX6_init_115 : decode cX6_init 115 = .ok (.aload_n 0, 1) := by decide +kernel
theorem dX6_init_116 : decode cX6_init 116 = .ok (.bipush 40, 2) := by decide +kernel
theorem dX6_init_118 : decode cX6_init 118 = .ok (.newarray .int, 2) := by decide +kernel
theorem dX6_init_120 : decode cX6_init 120 = .ok (.putfield 53, 3) := by decide +kernel
theorem dX6_init_123 : decode cX6_init 123 = .ok (.aload_n 0, 1) := by decide +kernel
theorem dX6_init_124 : decode cX6_init 124 = .ok (.bipush 40, 2) := by decide +kernel
theorem dX6_init_126 : decode cX6_init 126 = .ok (.newarray .int, 2) := by decide +kernel
theorem dX6_init_128 : decode cX6_init 128 = .ok (.putfield 56, 3) := by decide +kernel
theorem dX6_init_131 : decode cX6_init 131 = .ok (.aload_n 0, 1) := by decide +kernel
theorem dX6_init_132 : decode cX6_init 132 = .ok (.bipush 40, 2) := by decide +kernel
theorem dX6_init_134 : decode cX6_init 134 = .ok (.newarray .int, 2) := by decide +kernel
theorem dX6_init_136 : decode cX6_init 136 = .ok (.putfield 59, 3) := by decide +kernel
theorem dX6_init_139 : decode cX6_init 139 = .ok (.aload_n 0, 1) := by decide +kernel
theorem dX6_init_140 : decode cX6_init 140 = .ok (.bipush 40, 2) := by decide +kernel
theorem dX6_init_142 : decode cX6_init 142 = .ok (.newarray .int, 2) := by decide +kernel
theorem dX6_init_144 : decode cX6_init 144 = .ok (.putfield 62, 3) := by decide +kernel
theorem dX6_init_147 : decode cX6_init 147 = .ok (.return_, 1) := by decide +kernel
theorem dX6_thrown_0 : decode cX6_thrown 0 = .ok (.aload_n 0, 1) := by decide +kernel
theorem dX6_thrown_1 : decode cX6_thrown 1 = .ok (.getfield 65, 3) := by decide +kernel
theorem dX6_thrown_4 : decode cX6_thrown 4 = .ok (.ireturn, 1) := by decide +kernel
theorem dX6_fails_0 : decode cX6_fails 0 = .ok (.aload_n 0, 1) := by decide +kernel
theorem dX6_fails_1 : decode cX6_fails 1 = .ok (.iload_n 1, 1) := by decide +kernel
theorem dX6_fails_2 : decode cX6_fails 2 = .ok (.putfield 65, 3) := by decide +kernel
theorem dX6_fails_5 : decode cX6_fails 5 = .ok (.iconst 0, 1) := by decide +kernel
theorem dX6_fails_6 : decode cX6_fails 6 = .ok (.ireturn, 1) := by decide +kernel
theorem dX6_in_0 : decode cX6_in 0 = .ok (.iload_n 0, 1) := by decide +kernel
theorem dX6_in_1 : decode cX6_in 1 = .ok (.iload_n 1, 1) := by decide +kernel
theorem dX6_in_2 : decode cX6_in 2 = .ok (.if_icmp .lt 12, 3) := by decide +kernel
theorem dX6_in_5 : decode cX6_in 5 = .ok (.iload_n 0, 1) := by decide +kernel
theorem dX6_in_6 : decode cX6_in 6 = .ok (.iload_n 2, 1) := by decide +kernel
theorem dX6_in_7 : decode cX6_in 7 = .ok (.if_icmp .gt 7, 3) := by decide +kernel
theorem dX6_in_10 : decode cX6_in 10 = .ok (.iconst 1, 1) := by decide +kernel
theorem dX6_in_11 : decode cX6_in 11 = .ok (.goto 4, 3) := by decide +kernel
theorem dX6_in_14 : decode cX6_in 14 = .ok (.iconst 0, 1) := by decide +kernel
theorem dX6_in_15 : decode cX6_in 15 = .ok (.ireturn, 1) := by decide +kernel
theorem dX6_setTax_0 : decode cX6_setTax 0 = .ok (.aload_n 0, 1) := by decide +kernel
theorem dX6_setTax_1 : decode cX6_setTax 1 = .ok (.iload_n 1, 1) := by decide +kernel
theorem dX6_setTax_2 : decode cX6_setTax 2 = .ok (.iconst 0, 1) := by decide +kernel
theorem dX6_setTax_3 : decode cX6_setTax 3 = .ok (.iconst 4, 1) := by decide +kernel
theorem dX6_setTax_4 : decode cX6_setTax 4 = .ok (.invokestatic 69, 3) := by decide +kernel
theorem dX6_setTax_7 : decode cX6_setTax 7 = .ok (.ifCond .eq 17, 3) := by decide +kernel
theorem dX6_setTax_10 : decode cX6_setTax 10 = .ok (.iload_n 2, 1) := by decide +kernel
theorem dX6_setTax_11 : decode cX6_setTax 11 = .ok (.iconst 0, 1) := by decide +kernel
theorem dX6_setTax_12 : decode cX6_setTax 12 = .ok (.bipush 30, 2) := by decide +kernel
theorem dX6_setTax_14 : decode cX6_setTax 14 = .ok (.invokestatic 69, 3) := by decide +kernel
theorem dX6_setTax_17 : decode cX6_setTax 17 = .ok (.ifCond .eq 7, 3) := by decide +kernel
theorem dX6_setTax_20 : decode cX6_setTax 20 = .ok (.iconst 0, 1) := by decide +kernel
theorem dX6_setTax_21 : decode cX6_setTax 21 = .ok (.goto 4, 3) := by decide +kernel
theorem dX6_setTax_24 : decode cX6_setTax 24 = .ok (.iconst 1, 1) := by decide +kernel
theorem dX6_setTax_25 : decode cX6_setTax 25 = .ok (.putfield 65, 3) := by decide +kernel
theorem dX6_setTax_28 : decode cX6_setTax 28 = .ok (.aload_n 0, 1) := by decide +kernel
theorem dX6_setTax_29 : decode cX6_setTax 29 = .ok (.getfield 65, 3) := by decide +kernel
theorem dX6_setTax_32 : decode cX6_setTax 32 = .ok (.ifCond .le 5, 3) := by decide +kernel
theorem dX6_setTax_35 : decode cX6_setTax 35 = .ok (.iconst 0, 1) := by decide +kernel
theorem dX6_setTax_36 : decode cX6_setTax 36 = .ok (.ireturn, 1) := by decide +kernel
theorem dX6_setTax_37 : decode cX6_setTax 37 = .ok (.aload_n 0, 1) := by decide +kernel
theorem dX6_setTax_38 : decode cX6_setTax 38 = .ok (.getfield 7, 3) := by decide +kernel
theorem dX6_setTax_41 : decode cX6_setTax 41 = .ok (.iload_n 1, 1) := by decide +kernel
theorem dX6_setTax_42 : decode cX6_setTax 42 = .ok (.iaload, 1) := by decide +kernel
theorem dX6_setTax_43 : decode cX6_setTax 43 = .ok (.istore 4, 2) := by decide +kernel
theorem dX6_setTax_45 : decode cX6_setTax 45 = .ok (.aload_n 0, 1) := by decide +kernel
theorem dX6_setTax_46 : decode cX6_setTax 46 = .ok (.getfield 7, 3) := by decide +kernel
theorem dX6_setTax_49 : decode cX6_setTax 49 = .ok (.iload_n 1, 1) := by decide +kernel
theorem dX6_setTax_50 : decode cX6_setTax 50 = .ok (.iload_n 2, 1) := by decide +kernel
theorem dX6_setTax_51 : decode cX6_setTax 51 = .ok (.iastore, 1) := by decide +kernel
theorem dX6_setTax_52 : decode cX6_setTax 52 = .ok (.aload_n 0, 1) := by decide +kernel
theorem dX6_setTax_53 : decode cX6_setTax 53 = .ok (.getfield 13, 3) := by decide +kernel
theorem dX6_setTax_56 : decode cX6_setTax 56 = .ok (.iload_n 1, 1) := by decide +kernel
theorem dX6_setTax_57 : decode cX6_setTax 57 = .ok (.iload_n 3, 1) := by decide +kernel
theorem dX6_setTax_58 : decode cX6_setTax 58 = .ok (.ifCond .eq 7, 3) := by decide +kernel
theorem dX6_setTax_61 : decode cX6_setTax 61 = .ok (.iconst 0, 1) := by decide +kernel
theorem dX6_setTax_62 : decode cX6_setTax 62 = .ok (.goto 4, 3) := by decide +kernel
theorem dX6_setTax_65 : decode cX6_setTax 65 = .ok (.iconst 1, 1) := by decide +kernel
theorem dX6_setTax_66 : decode cX6_setTax 66 = .ok (.iastore, 1) := by decide +kernel
theorem dX6_setTax_67 : decode cX6_setTax 67 = .ok (.iload 4, 2) := by decide +kernel
theorem dX6_setTax_69 : decode cX6_setTax 69 = .ok (.ireturn, 1) := by decide +kernel
theorem dX6_addMaker_0 : decode cX6_addMaker 0 = .ok (.aload_n 0, 1) := by decide +kernel
theorem dX6_addMaker_1 : decode cX6_addMaker 1 = .ok (.iload_n 1, 1) := by decide +kernel
theorem dX6_addMaker_2 : decode cX6_addMaker 2 = .ok (.iconst 0, 1) := by decide +kernel
theorem dX6_addMaker_3 : decode cX6_addMaker 3 = .ok (.ldc 73, 2) := by decide +kernel
theorem dX6_addMaker_5 : decode cX6_addMaker 5 = .ok (.invokestatic 69, 3) := by decide +kernel
theorem dX6_addMaker_8 : decode cX6_addMaker 8 = .ok (.ifCond .ne 7, 3) := by decide +kernel
theorem dX6_addMaker_11 : decode cX6_addMaker 11 = .ok (.iconst 1, 1) := by decide +kernel
theorem dX6_addMaker_12 : decode cX6_addMaker 12 = .ok (.goto 17, 3) := by decide +kernel
theorem dX6_addMaker_15 : decode cX6_addMaker 15 = .ok (.aload_n 0, 1) := by decide +kernel
theorem dX6_addMaker_16 : decode cX6_addMaker 16 = .ok (.getfield 74, 3) := by decide +kernel
theorem dX6_addMaker_19 : decode cX6_addMaker 19 = .ok (.bipush 6, 2) := by decide +kernel
theorem dX6_addMaker_21 : decode cX6_addMaker 21 = .ok (.if_icmp .ne 7, 3) := by decide +kernel
theorem dX6_addMaker_24 : decode cX6_addMaker 24 = .ok (.iconst 2, 1) := by decide +kernel
theorem dX6_addMaker_25 : decode cX6_addMaker 25 = .ok (.goto 4, 3) := by decide +kernel
theorem dX6_addMaker_28 : decode cX6_addMaker 28 = .ok (.iconst 0, 1) := by decide +kernel
theorem dX6_addMaker_29 : decode cX6_addMaker 29 = .ok (.putfield 65, 3) := by decide +kernel
theorem dX6_addMaker_32 : decode cX6_addMaker 32 = .ok (.aload_n 0, 1) := by decide +kernel
theorem dX6_addMaker_33 : decode cX6_addMaker 33 = .ok (.getfield 65, 3) := by decide +kernel
theorem dX6_addMaker_36 : decode cX6_addMaker 36 = .ok (.ifCond .le 5, 3) := by decide +kernel
theorem dX6_addMaker_39 : decode cX6_addMaker 39 = .ok (.iconst 0, 1) := by decide +kernel
theorem dX6_addMaker_40 : decode cX6_addMaker 40 = .ok (.ireturn, 1) := by decide +kernel
theorem dX6_addMaker_41 : decode cX6_addMaker 41 = .ok (.aload_n 0, 1) := by decide +kernel
theorem dX6_addMaker_42 : decode cX6_addMaker 42 = .ok (.getfield 19, 3) := by decide +kernel
theorem dX6_addMaker_45 : decode cX6_addMaker 45 = .ok (.aload_n 0, 1) := by decide +kernel
theorem dX6_addMaker_46 : decode cX6_addMaker 46 = .ok (.getfield 74, 3) := by decide +kernel
theorem dX6_addMaker_49 : decode cX6_addMaker 49 = .ok (.iload_n 1, 1) := by decide +kernel
theorem dX6_addMaker_50 : decode cX6_addMaker 50 = .ok (.iastore, 1) := by decide +kernel
theorem dX6_addMaker_51 : decode cX6_addMaker 51 = .ok (.aload_n 0, 1) := by decide +kernel
theorem dX6_addMaker_52 : decode cX6_addMaker 52 = .ok (.dup, 1) := by decide +kernel
theorem dX6_addMaker_53 : decode cX6_addMaker 53 = .ok (.getfield 74, 3) := by decide +kernel
theorem dX6_addMaker_56 : decode cX6_addMaker 56 = .ok (.iconst 1, 1) := by decide +kernel
theorem dX6_addMaker_57 : decode cX6_addMaker 57 = .ok (.iadd, 1) := by decide +kernel
theorem dX6_addMaker_58 : decode cX6_addMaker 58 = .ok (.putfield 74, 3) := by decide +kernel
theorem dX6_addMaker_61 : decode cX6_addMaker 61 = .ok (.aload_n 0, 1) := by decide +kernel
theorem dX6_addMaker_62 : decode cX6_addMaker 62 = .ok (.getfield 74, 3) := by decide +kernel
theorem dX6_addMaker_65 : decode cX6_addMaker 65 = .ok (.iconst 1, 1) := by decide +kernel
theorem dX6_addMaker_66 : decode cX6_addMaker 66 = .ok (.isub, 1) := by decide +kernel
theorem dX6_addMaker_67 : decode cX6_addMaker 67 = .ok (.ireturn, 1) := by decide +kernel
theorem dX6_addProduct_0 : decode cX6_addProduct 0 = .ok (.aload_n 0, 1) := by decide +kernel
theorem dX6_addProduct_1 : decode cX6_addProduct 1 = .ok (.iload_n 1, 1) := by decide +kernel
theorem dX6_addProduct_2 : decode cX6_addProduct 2 = .ok (.iconst 0, 1) := by decide +kernel
theorem dX6_addProduct_3 : decode cX6_addProduct 3 = .ok (.aload_n 0, 1) := by decide +kernel
theorem dX6_addProduct_4 : decode cX6_addProduct 4 = .ok (.getfield 74, 3) := by decide +kernel
theorem dX6_addProduct_7 : decode cX6_addProduct 7 = .ok (.iconst 1, 1) := by decide +kernel
theorem dX6_addProduct_8 : decode cX6_addProduct 8 = .ok (.isub, 1) := by decide +kernel
theorem dX6_addProduct_9 : decode cX6_addProduct 9 = .ok (.invokestatic 69, 3) := by decide +kernel
theorem dX6_addProduct_12 : decode cX6_addProduct 12 = .ok (.ifCond .ne 7, 3) := by decide +kernel
theorem dX6_addProduct_15 : decode cX6_addProduct 15 = .ok (.iconst 1, 1) := by decide +kernel
theorem dX6_addProduct_16 : decode cX6_addProduct 16 = .ok (.goto 31, 3) := by decide +kernel
theorem dX6_addProduct_19 : decode cX6_addProduct 19 = .ok (.iload_n 2, 1) := by decide +kernel
theorem dX6_addProduct_20 : decode cX6_addProduct 20 = .ok (.iconst 0, 1) := by decide +kernel
theorem dX6_addProduct_21 : decode cX6_addProduct 21 = .ok (.ldc 77, 2) := by decide +kernel
theorem dX6_addProduct_23 : decode cX6_addProduct 23 = .ok (.invokestatic 69, 3) := by decide +kernel
theorem dX6_addProduct_26 : decode cX6_addProduct 26 = .ok (.ifCond .ne 7, 3) := by decide +kernel
theorem dX6_addProduct_29 : decode cX6_addProduct 29 = .ok (.iconst 2, 1) := by decide +kernel
theorem dX6_addProduct_30 : decode cX6_addProduct 30 = .ok (.goto 17, 3) := by decide +kernel
theorem dX6_addProduct_33 : decode cX6_addProduct 33 = .ok (.aload_n 0, 1) := by decide +kernel
theorem dX6_addProduct_34 : decode cX6_addProduct 34 = .ok (.getfield 78, 3) := by decide +kernel
theorem dX6_addProduct_37 : decode cX6_addProduct 37 = .ok (.bipush 20, 2) := by decide +kernel
theorem dX6_addProduct_39 : decode cX6_addProduct 39 = .ok (.if_icmp .ne 7, 3) := by decide +kernel
theorem dX6_addProduct_42 : decode cX6_addProduct 42 = .ok (.iconst 3, 1) := by decide +kernel
theorem dX6_addProduct_43 : decode cX6_addProduct 43 = .ok (.goto 4, 3) := by decide +kernel
theorem dX6_addProduct_46 : decode cX6_addProduct 46 = .ok (.iconst 0, 1) := by decide +kernel
theorem dX6_addProduct_47 : decode cX6_addProduct 47 = .ok (.putfield 65, 3) := by decide +kernel
theorem dX6_addProduct_50 : decode cX6_addProduct 50 = .ok (.aload_n 0, 1) := by decide +kernel
theorem dX6_addProduct_51 : decode cX6_addProduct 51 = .ok (.getfield 65, 3) := by decide +kernel
theorem dX6_addProduct_54 : decode cX6_addProduct 54 = .ok (.ifCond .le 5, 3) := by decide +kernel
theorem dX6_addProduct_57 : decode cX6_addProduct 57 = .ok (.iconst 0, 1) := by decide +kernel
theorem dX6_addProduct_58 : decode cX6_addProduct 58 = .ok (.ireturn, 1) := by decide +kernel
theorem dX6_addProduct_59 : decode cX6_addProduct 59 = .ok (.aload_n 0, 1) := by decide +kernel
theorem dX6_addProduct_60 : decode cX6_addProduct 60 = .ok (.getfield 34, 3) := by decide +kernel
theorem dX6_addProduct_63 : decode cX6_addProduct 63 = .ok (.aload_n 0, 1) := by decide +kernel
theorem dX6_addProduct_64 : decode cX6_addProduct 64 = .ok (.getfield 78, 3) := by decide +kernel
theorem dX6_addProduct_67 : decode cX6_addProduct 67 = .ok (.iload_n 1, 1) := by decide +kernel
theorem dX6_addProduct_68 : decode cX6_addProduct 68 = .ok (.iastore, 1) := by decide +kernel
theorem dX6_addProduct_69 : decode cX6_addProduct 69 = .ok (.iconst 0, 1) := by decide +kernel
theorem dX6_addProduct_70 : decode cX6_addProduct 70 = .ok (.istore_n 3, 1) := by decide +kernel
theorem dX6_addProduct_71 : decode cX6_addProduct 71 = .ok (.iload_n 3, 1) := by decide +kernel
theorem dX6_addProduct_72 : decode cX6_addProduct 72 = .ok (.iconst 5, 1) := by decide +kernel
theorem dX6_addProduct_73 : decode cX6_addProduct 73 = .ok (.if_icmp .ge 23, 3) := by decide +kernel
theorem dX6_addProduct_76 : decode cX6_addProduct 76 = .ok (.aload_n 0, 1) := by decide +kernel
theorem dX6_addProduct_77 : decode cX6_addProduct 77 = .ok (.getfield 37, 3) := by decide +kernel
theorem dX6_addProduct_80 : decode cX6_addProduct 80 = .ok (.iconst 5, 1) := by decide +kernel
theorem dX6_addProduct_81 : decode cX6_addProduct 81 = .ok (.aload_n 0, 1) := by decide +kernel
theorem dX6_addProduct_82 : decode cX6_addProduct 82 = .ok (.getfield 78, 3) := by decide +kernel
theorem dX6_addProduct_85 : decode cX6_addProduct 85 = .ok (.imul, 1) := by decide +kernel
theorem dX6_addProduct_86 : decode cX6_addProduct 86 = .ok (.iload_n 3, 1) := by decide +kernel
theorem dX6_addProduct_87 : decode cX6_addProduct 87 = .ok (.iadd, 1) := by decide +kernel
theorem dX6_addProduct_88 : decode cX6_addProduct 88 = .ok (.iload_n 2, 1) := by decide +kernel
theorem dX6_addProduct_89 : decode cX6_addProduct 89 = .ok (.iastore, 1) := by decide +kernel
theorem dX6_addProduct_90 : decode cX6_addProduct 90 = .ok (.iinc 3 1, 3) := by decide +kernel
theorem dX6_addProduct_93 : decode cX6_addProduct 93 = .ok (.goto (-22), 3) := by decide +kernel
theorem dX6_addProduct_96 : decode cX6_addProduct 96 = .ok (.aload_n 0, 1) := by decide +kernel
theorem dX6_addProduct_97 : decode cX6_addProduct 97 = .ok (.dup, 1) := by decide +kernel
theorem dX6_addProduct_98 : decode cX6_addProduct 98 = .ok (.getfield 78, 3) := by decide +kernel
theorem dX6_addProduct_101 : decode cX6_addProduct 101 = .ok (.iconst 1, 1) := by decide +kernel
theorem dX6_addProduct_102 : decode cX6_addProduct 102 = .ok (.iadd, 1) := by decide +kernel
theorem dX6_addProduct_103 : decode cX6_addProduct 103 = .ok (.putfield 78, 3) := by decide +kernel
theorem dX6_addProduct_106 : decode cX6_addProduct 106 = .ok (.aload_n 0, 1) := by decide +kernel
theorem dX6_addProduct_107 : decode cX6_addProduct 107 = .ok (.getfield 78, 3) := by decide +kernel
theorem dX6_addProduct_110 : decode cX6_addProduct 110 = .ok (.iconst 1, 1) := by decide +kernel
theorem dX6_addProduct_111 : decode cX6_addProduct 111 = .ok (.isub, 1) := by decide +kernel
theorem dX6_addProduct_112 : decode cX6_addProduct 112 = .ok (.ireturn, 1) := by decide +kernel
theorem dX6_setPrice_0 : decode cX6_setPrice 0 = .ok (.aload_n 0, 1) := by decide +kernel
theorem dX6_setPrice_1 : decode cX6_setPrice 1 = .ok (.iload_n 1, 1) := by decide +kernel
theorem dX6_setPrice_2 : decode cX6_setPrice 2 = .ok (.iconst 0, 1) := by decide +kernel
theorem dX6_setPrice_3 : decode cX6_setPrice 3 = .ok (.aload_n 0, 1) := by decide +kernel
theorem dX6_setPrice_4 : decode cX6_setPrice 4 = .ok (.getfield 78, 3) := by decide +kernel
theorem dX6_setPrice_7 : decode cX6_setPrice 7 = .ok (.iconst 1, 1) := by decide +kernel
theorem dX6_setPrice_8 : decode cX6_setPrice 8 = .ok (.isub, 1) := by decide +kernel
theorem dX6_setPrice_9 : decode cX6_setPrice 9 = .ok (.invokestatic 69, 3) := by decide +kernel
theorem dX6_setPrice_12 : decode cX6_setPrice 12 = .ok (.ifCond .ne 7, 3) := by decide +kernel
theorem dX6_setPrice_15 : decode cX6_setPrice 15 = .ok (.iconst 1, 1) := by decide +kernel
theorem dX6_setPrice_16 : decode cX6_setPrice 16 = .ok (.goto 27, 3) := by decide +kernel
theorem dX6_setPrice_19 : decode cX6_setPrice 19 = .ok (.iload_n 2, 1) := by decide +kernel
theorem dX6_setPrice_20 : decode cX6_setPrice 20 = .ok (.iconst 0, 1) := by decide +kernel
theorem dX6_setPrice_21 : decode cX6_setPrice 21 = .ok (.iconst 4, 1) := by decide +kernel
theorem dX6_setPrice_22 : decode cX6_setPrice 22 = .ok (.invokestatic 69, 3) := by decide +kernel
theorem dX6_setPrice_25 : decode cX6_setPrice 25 = .ok (.ifCond .eq 13, 3) := by decide +kernel
theorem dX6_setPrice_28 : decode cX6_setPrice 28 = .ok (.iload_n 3, 1) := by decide +kernel
theorem dX6_setPrice_29 : decode cX6_setPrice 29 = .ok (.iconst 0, 1) := by decide +kernel
theorem dX6_setPrice_30 : decode cX6_setPrice 30 = .ok (.ldc 77, 2) := by decide +kernel
theorem dX6_setPrice_32 : decode cX6_setPrice 32 = .ok (.invokestatic 69, 3) := by decide +kernel
theorem dX6_setPrice_35 : decode cX6_setPrice 35 = .ok (.ifCond .ne 7, 3) := by decide +kernel
theorem dX6_setPrice_38 : decode cX6_setPrice 38 = .ok (.iconst 2, 1) := by decide +kernel
theorem dX6_setPrice_39 : decode cX6_setPrice 39 = .ok (.goto 4, 3) := by decide +kernel
theorem dX6_setPrice_42 : decode cX6_setPrice 42 = .ok (.iconst 0, 1) := by decide +kernel
theorem dX6_setPrice_43 : decode cX6_setPrice 43 = .ok (.putfield 65, 3) := by decide +kernel
theorem dX6_setPrice_46 : decode cX6_setPrice 46 = .ok (.aload_n 0, 1) := by decide +kernel
theorem dX6_setPrice_47 : decode cX6_setPrice 47 = .ok (.getfield 65, 3) := by decide +kernel
theorem dX6_setPrice_50 : decode cX6_setPrice 50 = .ok (.ifCond .le 5, 3) := by decide +kernel
theorem dX6_setPrice_53 : decode cX6_setPrice 53 = .ok (.iconst 0, 1) := by decide +kernel
theorem dX6_setPrice_54 : decode cX6_setPrice 54 = .ok (.ireturn, 1) := by decide +kernel
theorem dX6_setPrice_55 : decode cX6_setPrice 55 = .ok (.aload_n 0, 1) := by decide +kernel
theorem dX6_setPrice_56 : decode cX6_setPrice 56 = .ok (.getfield 37, 3) := by decide +kernel
theorem dX6_setPrice_59 : decode cX6_setPrice 59 = .ok (.iconst 5, 1) := by decide +kernel
theorem dX6_setPrice_60 : decode cX6_setPrice 60 = .ok (.iload_n 1, 1) := by decide +kernel
theorem dX6_setPrice_61 : decode cX6_setPrice 61 = .ok (.imul, 1) := by decide +kernel
theorem dX6_setPrice_62 : decode cX6_setPrice 62 = .ok (.iload_n 2, 1) := by decide +kernel
theorem dX6_setPrice_63 : decode cX6_setPrice 63 = .ok (.iadd, 1) := by decide +kernel
theorem dX6_setPrice_64 : decode cX6_setPrice 64 = .ok (.iaload, 1) := by decide +kernel
theorem dX6_setPrice_65 : decode cX6_setPrice 65 = .ok (.istore 4, 2) := by decide +kernel
theorem dX6_setPrice_67 : decode cX6_setPrice 67 = .ok (.aload_n 0, 1) := by decide +kernel
theorem dX6_setPrice_68 : decode cX6_setPrice 68 = .ok (.getfield 37, 3) := by decide +kernel
theorem dX6_setPrice_71 : decode cX6_setPrice 71 = .ok (.iconst 5, 1) := by decide +kernel
theorem dX6_setPrice_72 : decode cX6_setPrice 72 = .ok (.iload_n 1, 1) := by decide +kernel
theorem dX6_setPrice_73 : decode cX6_setPrice 73 = .ok (.imul, 1) := by decide +kernel
theorem dX6_setPrice_74 : decode cX6_setPrice 74 = .ok (.iload_n 2, 1) := by decide +kernel
theorem dX6_setPrice_75 : decode cX6_setPrice 75 = .ok (.iadd, 1) := by decide +kernel
theorem dX6_setPrice_76 : decode cX6_setPrice 76 = .ok (.iload_n 3, 1) := by decide +kernel
theorem dX6_setPrice_77 : decode cX6_setPrice 77 = .ok (.iastore, 1) := by decide +kernel
theorem dX6_setPrice_78 : decode cX6_setPrice 78 = .ok (.iload 4, 2) := by decide +kernel
theorem dX6_setPrice_80 : decode cX6_setPrice 80 = .ok (.ireturn, 1) := by decide +kernel
theorem dX6_part_0 : decode cX6_part 0 = .ok (.lload_n 0, 1) := by decide +kernel
theorem dX6_part_1 : decode cX6_part 1 = .ok (.iload_n 2, 1) := by decide +kernel
theorem dX6_part_2 : decode cX6_part 2 = .ok (.lshr, 1) := by decide +kernel
theorem dX6_part_3 : decode cX6_part 3 = .ok (.lconst 1, 1) := by decide +kernel
theorem dX6_part_4 : decode cX6_part 4 = .ok (.iload_n 3, 1) := by decide +kernel
theorem dX6_part_5 : decode cX6_part 5 = .ok (.lshl, 1) := by decide +kernel
theorem dX6_part_6 : decode cX6_part 6 = .ok (.lconst 1, 1) := by decide +kernel
theorem dX6_part_7 : decode cX6_part 7 = .ok (.lsub, 1) := by decide +kernel
theorem dX6_part_8 : decode cX6_part 8 = .ok (.land, 1) := by decide +kernel
theorem dX6_part_9 : decode cX6_part 9 = .ok (.l2i, 1) := by decide +kernel
theorem dX6_part_10 : decode cX6_part 10 = .ok (.ireturn, 1) := by decide +kernel
theorem dX6_priceOf_0 : decode cX6_priceOf 0 = .ok (.lload_n 0, 1) := by decide +kernel
theorem dX6_priceOf_1 : decode cX6_priceOf 1 = .ok (.iconst 0, 1) := by decide +kernel
theorem dX6_priceOf_2 : decode cX6_priceOf 2 = .ok (.bipush 17, 2) := by decide +kernel
theorem dX6_priceOf_4 : decode cX6_priceOf 4 = .ok (.invokestatic 81, 3) := by decide +kernel
theorem dX6_priceOf_7 : decode cX6_priceOf 7 = .ok (.ireturn, 1) := by decide +kernel
theorem dX6_taxOf_0 : decode cX6_taxOf 0 = .ok (.lload_n 0, 1) := by decide +kernel
theorem dX6_taxOf_1 : decode cX6_taxOf 1 = .ok (.bipush 17, 2) := by decide +kernel
theorem dX6_taxOf_3 : decode cX6_taxOf 3 = .ok (.bipush 15, 2) := by decide +kernel
theorem dX6_taxOf_5 : decode cX6_taxOf 5 = .ok (.invokestatic 81, 3) := by decide +kernel
theorem dX6_taxOf_8 : decode cX6_taxOf 8 = .ok (.ireturn, 1) := by decide +kernel
theorem dX6_shareOf_0 : decode cX6_shareOf 0 = .ok (.lload_n 0, 1) := by decide +kernel
theorem dX6_shareOf_1 : decode cX6_shareOf 1 = .ok (.bipush 32, 2) := by decide +kernel
theorem dX6_shareOf_3 : decode cX6_shareOf 3 = .ok (.bipush 15, 2) := by decide +kernel
theorem dX6_shareOf_5 : decode cX6_shareOf 5 = .ok (.invokestatic 81, 3) := by decide +kernel
theorem dX6_shareOf_8 : decode cX6_shareOf 8 = .ok (.ireturn, 1) := by decide +kernel
theorem dX6_partOf_0 : decode cX6_partOf 0 = .ok (.lload_n 0, 1) := by decide +kernel
theorem dX6_partOf_1 : decode cX6_partOf 1 = .ok (.invokestatic 85, 3) := by decide +kernel
theorem dX6_partOf_4 : decode cX6_partOf 4 = .ok (.lload_n 0, 1) := by decide +kernel
theorem dX6_partOf_5 : decode cX6_partOf 5 = .ok (.invokestatic 89, 3) := by decide +kernel
theorem dX6_partOf_8 : decode cX6_partOf 8 = .ok (.isub, 1) := by decide +kernel
theorem dX6_partOf_9 : decode cX6_partOf 9 = .ok (.lload_n 0, 1) := by decide +kernel
theorem dX6_partOf_10 : decode cX6_partOf 10 = .ok (.invokestatic 92, 3) := by decide +kernel
theorem dX6_partOf_13 : decode cX6_partOf 13 = .ok (.isub, 1) := by decide +kernel
theorem dX6_partOf_14 : decode cX6_partOf 14 = .ok (.lload_n 0, 1) := by decide +kernel
theorem dX6_partOf_15 : decode cX6_partOf 15 = .ok (.bipush 60, 2) := by decide +kernel
theorem dX6_partOf_17 : decode cX6_partOf 17 = .ok (.iconst 1, 1) := by decide +kernel
theorem dX6_partOf_18 : decode cX6_partOf 18 = .ok (.invokestatic 81, 3) := by decide +kernel
theorem dX6_partOf_21 : decode cX6_partOf 21 = .ok (.iconst 1, 1) := by decide +kernel
theorem dX6_partOf_22 : decode cX6_partOf 22 = .ok (.if_icmp .ne 10, 3) := by decide +kernel
theorem dX6_partOf_25 : decode cX6_partOf 25 = .ok (.lload_n 0, 1) := by decide +kernel
theorem dX6_partOf_26 : decode cX6_partOf 26 = .ok (.invokestatic 89, 3) := by decide +kernel
theorem dX6_partOf_29 : decode cX6_partOf 29 = .ok (.goto 4, 3) := by decide +kernel
theorem dX6_partOf_32 : decode cX6_partOf 32 = .ok (.iconst 0, 1) := by decide +kernel
theorem dX6_partOf_33 : decode cX6_partOf 33 = .ok (.iadd, 1) := by decide +kernel
theorem dX6_partOf_34 : decode cX6_partOf 34 = .ok (.ireturn, 1) := by decide +kernel
theorem dX6_counts_0 : decode cX6_counts 0 = .ok (.aload_n 0, 1) := by decide +kernel
theorem dX6_counts_1 : decode cX6_counts 1 = .ok (.getfield 25, 3) := by decide +kernel
theorem dX6_counts_4 : decode cX6_counts 4 = .ok (.lload_n 1, 1) := by decide +kernel
theorem dX6_counts_5 : decode cX6_counts 5 = .ok (.bipush 54, 2) := by decide +kernel
theorem dX6_counts_7 : decode cX6_counts 7 = .ok (.iconst 3, 1) := by decide +kernel
theorem dX6_counts_8 : decode cX6_counts 8 = .ok (.invokestatic 81, 3) := by decide +kernel
theorem dX6_counts_11 : decode cX6_counts 11 = .ok (.dup2, 1) := by decide +kernel
theorem dX6_counts_12 : decode cX6_counts 12 = .ok (.iaload, 1) := by decide +kernel
theorem dX6_counts_13 : decode cX6_counts 13 = .ok (.iload_n 3, 1) := by decide +kernel
theorem dX6_counts_14 : decode cX6_counts 14 = .ok (.lload_n 1, 1) := by decide +kernel
theorem dX6_counts_15 : decode cX6_counts 15 = .ok (.invokestatic 95, 3) := by decide +kernel
theorem dX6_counts_18 : decode cX6_counts 18 = .ok (.imul, 1) := by decide +kernel
theorem dX6_counts_19 : decode cX6_counts 19 = .ok (.iadd, 1) := by decide +kernel
theorem dX6_counts_20 : decode cX6_counts 20 = .ok (.iastore, 1) := by decide +kernel
theorem dX6_counts_21 : decode cX6_counts 21 = .ok (.aload_n 0, 1) := by decide +kernel
theorem dX6_counts_22 : decode cX6_counts 22 = .ok (.dup, 1) := by decide +kernel
theorem dX6_counts_23 : decode cX6_counts 23 = .ok (.getfield 98, 3) := by decide +kernel
theorem dX6_counts_26 : decode cX6_counts 26 = .ok (.iload_n 3, 1) := by decide +kernel
theorem dX6_counts_27 : decode cX6_counts 27 = .ok (.lload_n 1, 1) := by decide +kernel
theorem dX6_counts_28 : decode cX6_counts 28 = .ok (.invokestatic 92, 3) := by decide +kernel
theorem dX6_counts_31 : decode cX6_counts 31 = .ok (.imul, 1) := by decide +kernel
theorem dX6_counts_32 : decode cX6_counts 32 = .ok (.iadd, 1) := by decide +kernel
theorem dX6_counts_33 : decode cX6_counts 33 = .ok (.putfield 98, 3) := by decide +kernel
theorem dX6_counts_36 : decode cX6_counts 36 = .ok (.aload_n 0, 1) := by decide +kernel
theorem dX6_counts_37 : decode cX6_counts 37 = .ok (.dup, 1) := by decide +kernel
theorem dX6_counts_38 : decode cX6_counts 38 = .ok (.getfield 101, 3) := by decide +kernel
theorem dX6_counts_41 : decode cX6_counts 41 = .ok (.iload_n 3, 1) := by decide +kernel
theorem dX6_counts_42 : decode cX6_counts 42 = .ok (.lload_n 1, 1) := by decide +kernel
theorem dX6_counts_43 : decode cX6_counts 43 = .ok (.invokestatic 85, 3) := by decide +kernel
theorem dX6_counts_46 : decode cX6_counts 46 = .ok (.imul, 1) := by decide +kernel
theorem dX6_counts_47 : decode cX6_counts 47 = .ok (.iadd, 1) := by decide +kernel
theorem dX6_counts_48 : decode cX6_counts 48 = .ok (.putfield 101, 3) := by decide +kernel
theorem dX6_counts_51 : decode cX6_counts 51 = .ok (.aload_n 0, 1) := by decide +kernel
theorem dX6_counts_52 : decode cX6_counts 52 = .ok (.getfield 16, 3) := by decide +kernel
theorem dX6_counts_55 : decode cX6_counts 55 = .ok (.lload_n 1, 1) := by decide +kernel
theorem dX6_counts_56 : decode cX6_counts 56 = .ok (.bipush 57, 2) := by decide +kernel
theorem dX6_counts_58 : decode cX6_counts 58 = .ok (.iconst 3, 1) := by decide +kernel
theorem dX6_counts_59 : decode cX6_counts 59 = .ok (.invokestatic 81, 3) := by decide +kernel
theorem dX6_counts_62 : decode cX6_counts 62 = .ok (.dup2, 1) := by decide +kernel
theorem dX6_counts_63 : decode cX6_counts 63 = .ok (.iaload, 1) := by decide +kernel
theorem dX6_counts_64 : decode cX6_counts 64 = .ok (.lload_n 1, 1) := by decide +kernel
theorem dX6_counts_65 : decode cX6_counts 65 = .ok (.bipush 60, 2) := by decide +kernel
theorem dX6_counts_67 : decode cX6_counts 67 = .ok (.iconst 1, 1) := by decide +kernel
theorem dX6_counts_68 : decode cX6_counts 68 = .ok (.invokestatic 81, 3) := by decide +kernel
theorem dX6_counts_71 : decode cX6_counts 71 = .ok (.iconst 1, 1) := by decide +kernel
theorem dX6_counts_72 : decode cX6_counts 72 = .ok (.if_icmp .ne 7, 3) := by decide +kernel
theorem dX6_counts_75 : decode cX6_counts 75 = .ok (.iconst 0, 1) := by decide +kernel
theorem dX6_counts_76 : decode cX6_counts 76 = .ok (.goto 9, 3) := by decide +kernel
theorem dX6_counts_79 : decode cX6_counts 79 = .ok (.iload_n 3, 1) := by decide +kernel
theorem dX6_counts_80 : decode cX6_counts 80 = .ok (.lload_n 1, 1) := by decide +kernel
theorem dX6_counts_81 : decode cX6_counts 81 = .ok (.invokestatic 89, 3) := by decide +kernel
theorem dX6_counts_84 : decode cX6_counts 84 = .ok (.imul, 1) := by decide +kernel
theorem dX6_counts_85 : decode cX6_counts 85 = .ok (.iadd, 1) := by decide +kernel
theorem dX6_counts_86 : decode cX6_counts 86 = .ok (.iastore, 1) := by decide +kernel
theorem dX6_counts_87 : decode cX6_counts 87 = .ok (.return_, 1) := by decide +kernel
theorem dX6_sells_0 : decode cX6_sells 0 = .ok (.aload_n 0, 1) := by decide +kernel
theorem dX6_sells_1 : decode cX6_sells 1 = .ok (.getfield 34, 3) := by decide +kernel
theorem dX6_sells_4 : decode cX6_sells 4 = .ok (.iload_n 1, 1) := by decide +kernel
theorem dX6_sells_5 : decode cX6_sells 5 = .ok (.iaload, 1) := by decide +kernel
theorem dX6_sells_6 : decode cX6_sells 6 = .ok (.istore 5, 2) := by decide +kernel
theorem dX6_sells_8 : decode cX6_sells 8 = .ok (.iload_n 3, 1) := by decide +kernel
theorem dX6_sells_9 : decode cX6_sells 9 = .ok (.aload_n 0, 1) := by decide +kernel
theorem dX6_sells_10 : decode cX6_sells 10 = .ok (.getfield 7, 3) := by decide +kernel
theorem dX6_sells_13 : decode cX6_sells 13 = .ok (.iload_n 2, 1) := by decide +kernel
theorem dX6_sells_14 : decode cX6_sells 14 = .ok (.iaload, 1) := by decide +kernel
theorem dX6_sells_15 : decode cX6_sells 15 = .ok (.imul, 1) := by decide +kernel
theorem dX6_sells_16 : decode cX6_sells 16 = .ok (.bipush 100, 2) := by decide +kernel
theorem dX6_sells_18 : decode cX6_sells 18 = .ok (.aload_n 0, 1) := by decide +kernel
theorem dX6_sells_19 : decode cX6_sells 19 = .ok (.getfield 7, 3) := by decide +kernel
theorem dX6_sells_22 : decode cX6_sells 22 = .ok (.iload_n 2, 1) := by decide +kernel
theorem dX6_sells_23 : decode cX6_sells 23 = .ok (.iaload, 1) := by decide +kernel
theorem dX6_sells_24 : decode cX6_sells 24 = .ok (.iadd, 1) := by decide +kernel
theorem dX6_sells_25 : decode cX6_sells 25 = .ok (.idiv, 1) := by decide +kernel
theorem dX6_sells_26 : decode cX6_sells 26 = .ok (.istore 6, 2) := by decide +kernel
theorem dX6_sells_28 : decode cX6_sells 28 = .ok (.iload_n 3, 1) := by decide +kernel
theorem dX6_sells_29 : decode cX6_sells 29 = .ok (.iload 6, 2) := by decide +kernel
theorem dX6_sells_31 : decode cX6_sells 31 = .ok (.isub, 1) := by decide +kernel
theorem dX6_sells_32 : decode cX6_sells 32 = .ok (.istore 7, 2) := by decide +kernel
theorem dX6_sells_34 : decode cX6_sells 34 = .ok (.iload 7, 2) := by decide +kernel
theorem dX6_sells_36 : decode cX6_sells 36 = .ok (.iload 4, 2) := by decide +kernel
theorem dX6_sells_38 : decode cX6_sells 38 = .ok (.ifCond .ne 15, 3) := by decide +kernel
theorem dX6_sells_41 : decode cX6_sells 41 = .ok (.aload_n 0, 1) := by decide +kernel
theorem dX6_sells_42 : decode cX6_sells 42 = .ok (.getfield 22, 3) := by decide +kernel
theorem dX6_sells_45 : decode cX6_sells 45 = .ok (.iload 5, 2) := by decide +kernel
theorem dX6_sells_47 : decode cX6_sells 47 = .ok (.iaload, 1) := by decide +kernel
theorem dX6_sells_48 : decode cX6_sells 48 = .ok (.ldc 73, 2) := by decide +kernel
theorem dX6_sells_50 : decode cX6_sells 50 = .ok (.if_icmp .ge 8, 3) := by decide +kernel
theorem dX6_sells_53 : decode cX6_sells 53 = .ok (.bipush 15, 2) := by decide +kernel
theorem dX6_sells_55 : decode cX6_sells 55 = .ok (.goto 5, 3) := by decide +kernel
theorem dX6_sells_58 : decode cX6_sells 58 = .ok (.bipush 30, 2) := by decide +kernel
theorem dX6_sells_60 : decode cX6_sells 60 = .ok (.imul, 1) := by decide +kernel
theorem dX6_sells_61 : decode cX6_sells 61 = .ok (.bipush 100, 2) := by decide +kernel
theorem dX6_sells_63 : decode cX6_sells 63 = .ok (.idiv, 1) := by decide +kernel
theorem dX6_sells_64 : decode cX6_sells 64 = .ok (.istore 8, 2) := by decide +kernel
theorem dX6_sells_66 : decode cX6_sells 66 = .ok (.aload_n 0, 1) := by decide +kernel
theorem dX6_sells_67 : decode cX6_sells 67 = .ok (.getfield 22, 3) := by decide +kernel
theorem dX6_sells_70 : decode cX6_sells 70 = .ok (.iload 5, 2) := by decide +kernel
theorem dX6_sells_72 : decode cX6_sells 72 = .ok (.dup2, 1) := by decide +kernel
theorem dX6_sells_73 : decode cX6_sells 73 = .ok (.iaload, 1) := by decide +kernel
theorem dX6_sells_74 : decode cX6_sells 74 = .ok (.iload 7, 2) := by decide +kernel
theorem dX6_sells_76 : decode cX6_sells 76 = .ok (.iadd, 1) := by decide +kernel
theorem dX6_sells_77 : decode cX6_sells 77 = .ok (.iastore, 1) := by decide +kernel
theorem dX6_sells_78 : decode cX6_sells 78 = .ok (.aload_n 0, 1) := by decide +kernel
theorem dX6_sells_79 : decode cX6_sells 79 = .ok (.getfield 40, 3) := by decide +kernel
theorem dX6_sells_82 : decode cX6_sells 82 = .ok (.aload_n 0, 1) := by decide +kernel
theorem dX6_sells_83 : decode cX6_sells 83 = .ok (.getfield 104, 3) := by decide +kernel
theorem dX6_sells_86 : decode cX6_sells 86 = .ok (.iload_n 3, 1) := by decide +kernel
theorem dX6_sells_87 : decode cX6_sells 87 = .ok (.i2l, 1) := by decide +kernel
theorem dX6_sells_88 : decode cX6_sells 88 = .ok (.iload 6, 2) := by decide +kernel
theorem dX6_sells_90 : decode cX6_sells 90 = .ok (.i2l, 1) := by decide +kernel
theorem dX6_sells_91 : decode cX6_sells 91 = .ok (.bipush 17, 2) := by decide +kernel
theorem dX6_sells_93 : decode cX6_sells 93 = .ok (.lshl, 1) := by decide +kernel
theorem dX6_sells_94 : decode cX6_sells 94 = .ok (.ladd, 1) := by decide +kernel
theorem dX6_sells_95 : decode cX6_sells 95 = .ok (.iload 8, 2) := by decide +kernel
theorem dX6_sells_97 : decode cX6_sells 97 = .ok (.i2l, 1) := by decide +kernel
theorem dX6_sells_98 : decode cX6_sells 98 = .ok (.bipush 32, 2) := by decide +kernel
theorem dX6_sells_100 : decode cX6_sells 100 = .ok (.lshl, 1) := by decide +kernel
theorem dX6_sells_101 : decode cX6_sells 101 = .ok (.ladd, 1) := by decide +kernel
theorem dX6_sells_102 : decode cX6_sells 102 = .ok (.aload_n 0, 1) := by decide +kernel
theorem dX6_sells_103 : decode cX6_sells 103 = .ok (.getfield 107, 3) := by decide +kernel
theorem dX6_sells_106 : decode cX6_sells 106 = .ok (.bipush 30, 2) := by decide +kernel
theorem dX6_sells_108 : decode cX6_sells 108 = .ok (.idiv, 1) := by decide +kernel
theorem dX6_sells_109 : decode cX6_sells 109 = .ok (.i2l, 1) := by decide +kernel
theorem dX6_sells_110 : decode cX6_sells 110 = .ok (.bipush 47, 2) := by decide +kernel
theorem dX6_sells_112 : decode cX6_sells 112 = .ok (.lshl, 1) := by decide +kernel
theorem dX6_sells_113 : decode cX6_sells 113 = .ok (.ladd, 1) := by decide +kernel
theorem dX6_sells_114 : decode cX6_sells 114 = .ok (.iload 5, 2) := by decide +kernel
theorem dX6_sells_116 : decode cX6_sells 116 = .ok (.i2l, 1) := by decide +kernel
theorem dX6_sells_117 : decode cX6_sells 117 = .ok (.bipush 54, 2) := by decide +kernel
theorem dX6_sells_119 : decode cX6_sells 119 = .ok (.lshl, 1) := by decide +kernel
theorem dX6_sells_120 : decode cX6_sells 120 = .ok (.ladd, 1) := by decide +kernel
theorem dX6_sells_121 : decode cX6_sells 121 = .ok (.iload_n 2, 1) := by decide +kernel
theorem dX6_sells_122 : decode cX6_sells 122 = .ok (.i2l, 1) := by decide +kernel
theorem dX6_sells_123 : decode cX6_sells 123 = .ok (.bipush 57, 2) := by decide +kernel
theorem dX6_sells_125 : decode cX6_sells 125 = .ok (.lshl, 1) := by decide +kernel
theorem dX6_sells_126 : decode cX6_sells 126 = .ok (.ladd, 1) := by decide +kernel
theorem dX6_sells_127 : decode cX6_sells 127 = .ok (.aload_n 0, 1) := by decide +kernel
theorem dX6_sells_128 : decode cX6_sells 128 = .ok (.getfield 13, 3) := by decide +kernel
theorem dX6_sells_131 : decode cX6_sells 131 = .ok (.iload_n 2, 1) := by decide +kernel
theorem dX6_sells_132 : decode cX6_sells 132 = .ok (.iaload, 1) := by decide +kernel
theorem dX6_sells_133 : decode cX6_sells 133 = .ok (.i2l, 1) := by decide +kernel
theorem dX6_sells_134 : decode cX6_sells 134 = .ok (.bipush 60, 2) := by decide +kernel
theorem dX6_sells_136 : decode cX6_sells 136 = .ok (.lshl, 1) := by decide +kernel
theorem dX6_sells_137 : decode cX6_sells 137 = .ok (.ladd, 1) := by decide +kernel
theorem dX6_sells_138 : decode cX6_sells 138 = .ok (.lastore, 1) := by decide +kernel
theorem dX6_sells_139 : decode cX6_sells 139 = .ok (.aload_n 0, 1) := by decide +kernel
theorem dX6_sells_140 : decode cX6_sells 140 = .ok (.aload_n 0, 1) := by decide +kernel
theorem dX6_sells_141 : decode cX6_sells 141 = .ok (.getfield 40, 3) := by decide +kernel
theorem dX6_sells_144 : decode cX6_sells 144 = .ok (.aload_n 0, 1) := by decide +kernel
theorem dX6_sells_145 : decode cX6_sells 145 = .ok (.getfield 104, 3) := by decide +kernel
theorem dX6_sells_148 : decode cX6_sells 148 = .ok (.laload, 1) := by decide +kernel
theorem dX6_sells_149 : decode cX6_sells 149 = .ok (.iconst 1, 1) := by decide +kernel
theorem dX6_sells_150 : decode cX6_sells 150 = .ok (.invokevirtual 110, 3) := by decide +kernel
theorem dX6_sells_153 : decode cX6_sells 153 = .ok (.aload_n 0, 1) := by decide +kernel
theorem dX6_sells_154 : decode cX6_sells 154 = .ok (.dup, 1) := by decide +kernel
theorem dX6_sells_155 : decode cX6_sells 155 = .ok (.getfield 104, 3) := by decide +kernel
theorem dX6_sells_158 : decode cX6_sells 158 = .ok (.iconst 1, 1) := by decide +kernel
theorem dX6_sells_159 : decode cX6_sells 159 = .ok (.iadd, 1) := by decide +kernel
theorem dX6_sells_160 : decode cX6_sells 160 = .ok (.putfield 104, 3) := by decide +kernel
theorem dX6_sells_163 : decode cX6_sells 163 = .ok (.aload_n 0, 1) := by decide +kernel
theorem dX6_sells_164 : decode cX6_sells 164 = .ok (.getfield 104, 3) := by decide +kernel
theorem dX6_sells_167 : decode cX6_sells 167 = .ok (.iconst 1, 1) := by decide +kernel
theorem dX6_sells_168 : decode cX6_sells 168 = .ok (.isub, 1) := by decide +kernel
theorem dX6_sells_169 : decode cX6_sells 169 = .ok (.ireturn, 1) := by decide +kernel
theorem dX6_buy_0 : decode cX6_buy 0 = .ok (.aload_n 0, 1) := by decide +kernel
theorem dX6_buy_1 : decode cX6_buy 1 = .ok (.iload_n 1, 1) := by decide +kernel
theorem dX6_buy_2 : decode cX6_buy 2 = .ok (.iconst 0, 1) := by decide +kernel
theorem dX6_buy_3 : decode cX6_buy 3 = .ok (.aload_n 0, 1) := by decide +kernel
theorem dX6_buy_4 : decode cX6_buy 4 = .ok (.getfield 78, 3) := by decide +kernel
theorem dX6_buy_7 : decode cX6_buy 7 = .ok (.iconst 1, 1) := by decide +kernel
theorem dX6_buy_8 : decode cX6_buy 8 = .ok (.isub, 1) := by decide +kernel
theorem dX6_buy_9 : decode cX6_buy 9 = .ok (.invokestatic 69, 3) := by decide +kernel
theorem dX6_buy_12 : decode cX6_buy 12 = .ok (.ifCond .ne 7, 3) := by decide +kernel
theorem dX6_buy_15 : decode cX6_buy 15 = .ok (.iconst 1, 1) := by decide +kernel
theorem dX6_buy_16 : decode cX6_buy 16 = .ok (.goto 17, 3) := by decide +kernel
theorem dX6_buy_19 : decode cX6_buy 19 = .ok (.iload_n 2, 1) := by decide +kernel
theorem dX6_buy_20 : decode cX6_buy 20 = .ok (.iconst 0, 1) := by decide +kernel
theorem dX6_buy_21 : decode cX6_buy 21 = .ok (.iconst 4, 1) := by decide +kernel
theorem dX6_buy_22 : decode cX6_buy 22 = .ok (.invokestatic 69, 3) := by decide +kernel
theorem dX6_buy_25 : decode cX6_buy 25 = .ok (.ifCond .ne 7, 3) := by decide +kernel
theorem dX6_buy_28 : decode cX6_buy 28 = .ok (.iconst 2, 1) := by decide +kernel
theorem dX6_buy_29 : decode cX6_buy 29 = .ok (.goto 4, 3) := by decide +kernel
theorem dX6_buy_32 : decode cX6_buy 32 = .ok (.iconst 0, 1) := by decide +kernel
theorem dX6_buy_33 : decode cX6_buy 33 = .ok (.putfield 65, 3) := by decide +kernel
theorem dX6_buy_36 : decode cX6_buy 36 = .ok (.aload_n 0, 1) := by decide +kernel
theorem dX6_buy_37 : decode cX6_buy 37 = .ok (.getfield 65, 3) := by decide +kernel
theorem dX6_buy_40 : decode cX6_buy 40 = .ok (.ifCond .ne 23, 3) := by decide +kernel
theorem dX6_buy_43 : decode cX6_buy 43 = .ok (.aload_n 0, 1) := by decide +kernel
theorem dX6_buy_44 : decode cX6_buy 44 = .ok (.iload_n 1, 1) := by decide +kernel
theorem dX6_buy_45 : decode cX6_buy 45 = .ok (.iload_n 2, 1) := by decide +kernel
theorem dX6_buy_46 : decode cX6_buy 46 = .ok (.aload_n 0, 1) := by decide +kernel
theorem dX6_buy_47 : decode cX6_buy 47 = .ok (.getfield 37, 3) := by decide +kernel
theorem dX6_buy_50 : decode cX6_buy 50 = .ok (.iconst 5, 1) := by decide +kernel
theorem dX6_buy_51 : decode cX6_buy 51 = .ok (.iload_n 1, 1) := by decide +kernel
theorem dX6_buy_52 : decode cX6_buy 52 = .ok (.imul, 1) := by decide +kernel
theorem dX6_buy_53 : decode cX6_buy 53 = .ok (.iload_n 2, 1) := by decide +kernel
theorem dX6_buy_54 : decode cX6_buy 54 = .ok (.iadd, 1) := by decide +kernel
theorem dX6_buy_55 : decode cX6_buy 55 = .ok (.iaload, 1) := by decide +kernel
theorem dX6_buy_56 : decode cX6_buy 56 = .ok (.iconst 0, 1) := by decide +kernel
theorem dX6_buy_57 : decode cX6_buy 57 = .ok (.invokevirtual 114, 3) := by decide +kernel
theorem dX6_buy_60 : decode cX6_buy 60 = .ok (.goto 4, 3) := by decide +kernel
theorem dX6_buy_63 : decode cX6_buy 63 = .ok (.iconst 0, 1) := by decide +kernel
theorem dX6_buy_64 : decode cX6_buy 64 = .ok (.ireturn, 1) := by decide +kernel
theorem dX6_isSale_0 : decode cX6_isSale 0 = .ok (.aload_n 0, 1) := by decide +kernel
theorem dX6_isSale_1 : decode cX6_isSale 1 = .ok (.iload_n 1, 1) := by decide +kernel
theorem dX6_isSale_2 : decode cX6_isSale 2 = .ok (.iconst 0, 1) := by decide +kernel
theorem dX6_isSale_3 : decode cX6_isSale 3 = .ok (.aload_n 0, 1) := by decide +kernel
theorem dX6_isSale_4 : decode cX6_isSale 4 = .ok (.getfield 104, 3) := by decide +kernel
theorem dX6_isSale_7 : decode cX6_isSale 7 = .ok (.iconst 1, 1) := by decide +kernel
theorem dX6_isSale_8 : decode cX6_isSale 8 = .ok (.isub, 1) := by decide +kernel
theorem dX6_isSale_9 : decode cX6_isSale 9 = .ok (.invokestatic 69, 3) := by decide +kernel
theorem dX6_isSale_12 : decode cX6_isSale 12 = .ok (.ifCond .eq 7, 3) := by decide +kernel
theorem dX6_isSale_15 : decode cX6_isSale 15 = .ok (.iconst 0, 1) := by decide +kernel
theorem dX6_isSale_16 : decode cX6_isSale 16 = .ok (.goto 4, 3) := by decide +kernel
theorem dX6_isSale_19 : decode cX6_isSale 19 = .ok (.iconst 1, 1) := by decide +kernel
theorem dX6_isSale_20 : decode cX6_isSale 20 = .ok (.putfield 65, 3) := by decide +kernel
theorem dX6_isSale_23 : decode cX6_isSale 23 = .ok (.aload_n 0, 1) := by decide +kernel
theorem dX6_isSale_24 : decode cX6_isSale 24 = .ok (.getfield 65, 3) := by decide +kernel
theorem dX6_isSale_27 : decode cX6_isSale 27 = .ok (.ifCond .ne 7, 3) := by decide +kernel
theorem dX6_isSale_30 : decode cX6_isSale 30 = .ok (.iconst 1, 1) := by decide +kernel
theorem dX6_isSale_31 : decode cX6_isSale 31 = .ok (.goto 4, 3) := by decide +kernel
theorem dX6_isSale_34 : decode cX6_isSale 34 = .ok (.iconst 0, 1) := by decide +kernel
theorem dX6_isSale_35 : decode cX6_isSale 35 = .ok (.ireturn, 1) := by decide +kernel
theorem dX6_refund_0 : decode cX6_refund 0 = .ok (.aload_n 0, 1) := by decide +kernel
theorem dX6_refund_1 : decode cX6_refund 1 = .ok (.iload_n 1, 1) := by decide +kernel
theorem dX6_refund_2 : decode cX6_refund 2 = .ok (.invokevirtual 118, 3) := by decide +kernel
theorem dX6_refund_5 : decode cX6_refund 5 = .ok (.ifCond .ne 5, 3) := by decide +kernel
theorem dX6_refund_8 : decode cX6_refund 8 = .ok (.iconst 0, 1) := by decide +kernel
theorem dX6_refund_9 : decode cX6_refund 9 = .ok (.ireturn, 1) := by decide +kernel
theorem dX6_refund_10 : decode cX6_refund 10 = .ok (.aload_n 0, 1) := by decide +kernel
theorem dX6_refund_11 : decode cX6_refund 11 = .ok (.getfield 40, 3) := by decide +kernel
theorem dX6_refund_14 : decode cX6_refund 14 = .ok (.iload_n 1, 1) := by decide +kernel
theorem dX6_refund_15 : decode cX6_refund 15 = .ok (.laload, 1) := by decide +kernel
theorem dX6_refund_16 : decode cX6_refund 16 = .ok (.bipush 61, 2) := by decide +kernel
theorem dX6_refund_18 : decode cX6_refund 18 = .ok (.iconst 1, 1) := by decide +kernel
theorem dX6_refund_19 : decode cX6_refund 19 = .ok (.invokestatic 81, 3) := by decide +kernel
theorem dX6_refund_22 : decode cX6_refund 22 = .ok (.iconst 1, 1) := by decide +kernel
theorem dX6_refund_23 : decode cX6_refund 23 = .ok (.if_icmp .eq 28, 3) := by decide +kernel
theorem dX6_refund_26 : decode cX6_refund 26 = .ok (.aload_n 0, 1) := by decide +kernel
theorem dX6_refund_27 : decode cX6_refund 27 = .ok (.getfield 107, 3) := by decide +kernel
theorem dX6_refund_30 : decode cX6_refund 30 = .ok (.bipush 30, 2) := by decide +kernel
theorem dX6_refund_32 : decode cX6_refund 32 = .ok (.idiv, 1) := by decide +kernel
theorem dX6_refund_33 : decode cX6_refund 33 = .ok (.aload_n 0, 1) := by decide +kernel
theorem dX6_refund_34 : decode cX6_refund 34 = .ok (.getfield 40, 3) := by decide +kernel
theorem dX6_refund_37 : decode cX6_refund 37 = .ok (.iload_n 1, 1) := by decide +kernel
theorem dX6_refund_38 : decode cX6_refund 38 = .ok (.laload, 1) := by decide +kernel
theorem dX6_refund_39 : decode cX6_refund 39 = .ok (.bipush 47, 2) := by decide +kernel
theorem dX6_refund_41 : decode cX6_refund 41 = .ok (.bipush 7, 2) := by decide +kernel
theorem dX6_refund_43 : decode cX6_refund 43 = .ok (.invokestatic 81, 3) := by decide +kernel
theorem dX6_refund_46 : decode cX6_refund 46 = .ok (.isub, 1) := by decide +kernel
theorem dX6_refund_47 : decode cX6_refund 47 = .ok (.iconst 3, 1) := by decide +kernel
theorem dX6_refund_48 : decode cX6_refund 48 = .ok (.if_icmp .le 9, 3) := by decide +kernel
theorem dX6_refund_51 : decode cX6_refund 51 = .ok (.aload_n 0, 1) := by decide +kernel
theorem dX6_refund_52 : decode cX6_refund 52 = .ok (.iconst 2, 1) := by decide +kernel
theorem dX6_refund_53 : decode cX6_refund 53 = .ok (.invokevirtual 122, 3) := by decide +kernel
theorem dX6_refund_56 : decode cX6_refund 56 = .ok (.ireturn, 1) := by decide +kernel
theorem dX6_refund_57 : decode cX6_refund 57 = .ok (.aload_n 0, 1) := by decide +kernel
theorem dX6_refund_58 : decode cX6_refund 58 = .ok (.aload_n 0, 1) := by decide +kernel
theorem dX6_refund_59 : decode cX6_refund 59 = .ok (.getfield 40, 3) := by decide +kernel
theorem dX6_refund_62 : decode cX6_refund 62 = .ok (.iload_n 1, 1) := by decide +kernel
theorem dX6_refund_63 : decode cX6_refund 63 = .ok (.laload, 1) := by decide +kernel
theorem dX6_refund_64 : decode cX6_refund 64 = .ok (.iconst (-1), 1) := by decide +kernel
theorem dX6_refund_65 : decode cX6_refund 65 = .ok (.invokevirtual 110, 3) := by decide +kernel
theorem dX6_refund_68 : decode cX6_refund 68 = .ok (.aload_n 0, 1) := by decide +kernel
theorem dX6_refund_69 : decode cX6_refund 69 = .ok (.getfield 40, 3) := by decide +kernel
theorem dX6_refund_72 : decode cX6_refund 72 = .ok (.iload_n 1, 1) := by decide +kernel
theorem dX6_refund_73 : decode cX6_refund 73 = .ok (.dup2, 1) := by decide +kernel
theorem dX6_refund_74 : decode cX6_refund 74 = .ok (.laload, 1) := by decide +kernel
theorem dX6_refund_75 : decode cX6_refund 75 = .ok (.ldc2_w 126, 3) := by decide +kernel
theorem dX6_refund_78 : decode cX6_refund 78 = .ok (.lor, 1) := by decide +kernel
theorem dX6_refund_79 : decode cX6_refund 79 = .ok (.lastore, 1) := by decide +kernel
theorem dX6_refund_80 : decode cX6_refund 80 = .ok (.aload_n 0, 1) := by decide +kernel
theorem dX6_refund_81 : decode cX6_refund 81 = .ok (.getfield 40, 3) := by decide +kernel
theorem dX6_refund_84 : decode cX6_refund 84 = .ok (.iload_n 1, 1) := by decide +kernel
theorem dX6_refund_85 : decode cX6_refund 85 = .ok (.laload, 1) := by decide +kernel
theorem dX6_refund_86 : decode cX6_refund 86 = .ok (.invokestatic 85, 3) := by decide +kernel
theorem dX6_refund_89 : decode cX6_refund 89 = .ok (.ireturn, 1) := by decide +kernel
theorem dX6_sales_0 : decode cX6_sales 0 = .ok (.aload_n 0, 1) := by decide +kernel
theorem dX6_sales_1 : decode cX6_sales 1 = .ok (.iconst 0, 1) := by decide +kernel
theorem dX6_sales_2 : decode cX6_sales 2 = .ok (.putfield 65, 3) := by decide +kernel
theorem dX6_sales_5 : decode cX6_sales 5 = .ok (.aload_n 0, 1) := by decide +kernel
theorem dX6_sales_6 : decode cX6_sales 6 = .ok (.getfield 104, 3) := by decide +kernel
theorem dX6_sales_9 : decode cX6_sales 9 = .ok (.ireturn, 1) := by decide +kernel
theorem dX6_paid_0 : decode cX6_paid 0 = .ok (.aload_n 0, 1) := by decide +kernel
theorem dX6_paid_1 : decode cX6_paid 1 = .ok (.iload_n 1, 1) := by decide +kernel
theorem dX6_paid_2 : decode cX6_paid 2 = .ok (.invokevirtual 118, 3) := by decide +kernel
theorem dX6_paid_5 : decode cX6_paid 5 = .ok (.ifCond .eq 15, 3) := by decide +kernel
theorem dX6_paid_8 : decode cX6_paid 8 = .ok (.aload_n 0, 1) := by decide +kernel
theorem dX6_paid_9 : decode cX6_paid 9 = .ok (.getfield 40, 3) := by decide +kernel
theorem dX6_paid_12 : decode cX6_paid 12 = .ok (.iload_n 1, 1) := by decide +kernel
theorem dX6_paid_13 : decode cX6_paid 13 = .ok (.laload, 1) := by decide +kernel
theorem dX6_paid_14 : decode cX6_paid 14 = .ok (.invokestatic 85, 3) := by decide +kernel
theorem dX6_paid_17 : decode cX6_paid 17 = .ok (.goto 4, 3) := by decide +kernel
theorem dX6_paid_20 : decode cX6_paid 20 = .ok (.iconst 0, 1) := by decide +kernel
theorem dX6_paid_21 : decode cX6_paid 21 = .ok (.ireturn, 1) := by decide +kernel
theorem dX6_tax_0 : decode cX6_tax 0 = .ok (.aload_n 0, 1) := by decide +kernel
theorem dX6_tax_1 : decode cX6_tax 1 = .ok (.iload_n 1, 1) := by decide +kernel
theorem dX6_tax_2 : decode cX6_tax 2 = .ok (.invokevirtual 118, 3) := by decide +kernel
theorem dX6_tax_5 : decode cX6_tax 5 = .ok (.ifCond .eq 15, 3) := by decide +kernel
theorem dX6_tax_8 : decode cX6_tax 8 = .ok (.aload_n 0, 1) := by decide +kernel
theorem dX6_tax_9 : decode cX6_tax 9 = .ok (.getfield 40, 3) := by decide +kernel
theorem dX6_tax_12 : decode cX6_tax 12 = .ok (.iload_n 1, 1) := by decide +kernel
theorem dX6_tax_13 : decode cX6_tax 13 = .ok (.laload, 1) := by decide +kernel
theorem dX6_tax_14 : decode cX6_tax 14 = .ok (.invokestatic 89, 3) := by decide +kernel
theorem dX6_tax_17 : decode cX6_tax 17 = .ok (.goto 4, 3) := by decide +kernel
theorem dX6_tax_20 : decode cX6_tax 20 = .ok (.iconst 0, 1) := by decide +kernel
theorem dX6_tax_21 : decode cX6_tax 21 = .ok (.ireturn, 1) := by decide +kernel
theorem dX6_shopShare_0 : decode cX6_shopShare 0 = .ok (.aload_n 0, 1) := by decide +kernel
theorem dX6_shopShare_1 : decode cX6_shopShare 1 = .ok (.iload_n 1, 1) := by decide +kernel
theorem dX6_shopShare_2 : decode cX6_shopShare 2 = .ok (.invokevirtual 118, 3) := by decide +kernel
theorem dX6_shopShare_5 : decode cX6_shopShare 5 = .ok (.ifCond .eq 15, 3) := by decide +kernel
theorem dX6_shopShare_8 : decode cX6_shopShare 8 = .ok (.aload_n 0, 1) := by decide +kernel
theorem dX6_shopShare_9 : decode cX6_shopShare 9 = .ok (.getfield 40, 3) := by decide +kernel
theorem dX6_shopShare_12 : decode cX6_shopShare 12 = .ok (.iload_n 1, 1) := by decide +kernel
theorem dX6_shopShare_13 : decode cX6_shopShare 13 = .ok (.laload, 1) := by decide +kernel
theorem dX6_shopShare_14 : decode cX6_shopShare 14 = .ok (.invokestatic 92, 3) := by decide +kernel
theorem dX6_shopShare_17 : decode cX6_shopShare 17 = .ok (.goto 4, 3) := by decide +kernel
theorem dX6_shopShare_20 : decode cX6_shopShare 20 = .ok (.iconst 0, 1) := by decide +kernel
theorem dX6_shopShare_21 : decode cX6_shopShare 21 = .ok (.ireturn, 1) := by decide +kernel
theorem dX6_makerPart_0 : decode cX6_makerPart 0 = .ok (.aload_n 0, 1) := by decide +kernel
theorem dX6_makerPart_1 : decode cX6_makerPart 1 = .ok (.iload_n 1, 1) := by decide +kernel
theorem dX6_makerPart_2 : decode cX6_makerPart 2 = .ok (.invokevirtual 118, 3) := by decide +kernel
theorem dX6_makerPart_5 : decode cX6_makerPart 5 = .ok (.ifCond .eq 15, 3) := by decide +kernel
theorem dX6_makerPart_8 : decode cX6_makerPart 8 = .ok (.aload_n 0, 1) := by decide +kernel
theorem dX6_makerPart_9 : decode cX6_makerPart 9 = .ok (.getfield 40, 3) := by decide +kernel
theorem dX6_makerPart_12 : decode cX6_makerPart 12 = .ok (.iload_n 1, 1) := by decide +kernel
theorem dX6_makerPart_13 : decode cX6_makerPart 13 = .ok (.laload, 1) := by decide +kernel
theorem dX6_makerPart_14 : decode cX6_makerPart 14 = .ok (.invokestatic 95, 3) := by decide +kernel
theorem dX6_makerPart_17 : decode cX6_makerPart 17 = .ok (.goto 4, 3) := by decide +kernel
theorem dX6_makerPart_20 : decode cX6_makerPart 20 = .ok (.iconst 0, 1) := by decide +kernel
theorem dX6_makerPart_21 : decode cX6_makerPart 21 = .ok (.ireturn, 1) := by decide +kernel
theorem dX6_subscribe_0 : decode cX6_subscribe 0 = .ok (.aload_n 0, 1) := by decide +kernel
theorem dX6_subscribe_1 : decode cX6_subscribe 1 = .ok (.iload_n 1, 1) := by decide +kernel
theorem dX6_subscribe_2 : decode cX6_subscribe 2 = .ok (.iconst 0, 1) := by decide +kernel
theorem dX6_subscribe_3 : decode cX6_subscribe 3 = .ok (.aload_n 0, 1) := by decide +kernel
theorem dX6_subscribe_4 : decode cX6_subscribe 4 = .ok (.getfield 78, 3) := by decide +kernel
theorem dX6_subscribe_7 : decode cX6_subscribe 7 = .ok (.iconst 1, 1) := by decide +kernel
theorem dX6_subscribe_8 : decode cX6_subscribe 8 = .ok (.isub, 1) := by decide +kernel
theorem dX6_subscribe_9 : decode cX6_subscribe 9 = .ok (.invokestatic 69, 3) := by decide +kernel
theorem dX6_subscribe_12 : decode cX6_subscribe 12 = .ok (.ifCond .ne 7, 3) := by decide +kernel
theorem dX6_subscribe_15 : decode cX6_subscribe 15 = .ok (.iconst 1, 1) := by decide +kernel
theorem dX6_subscribe_16 : decode cX6_subscribe 16 = .ok (.goto 40, 3) := by decide +kernel
theorem dX6_subscribe_19 : decode cX6_subscribe 19 = .ok (.iload_n 2, 1) := by decide +kernel
theorem dX6_subscribe_20 : decode cX6_subscribe 20 = .ok (.iconst 0, 1) := by decide +kernel
theorem dX6_subscribe_21 : decode cX6_subscribe 21 = .ok (.iconst 4, 1) := by decide +kernel
theorem dX6_subscribe_22 : decode cX6_subscribe 22 = .ok (.invokestatic 69, 3) := by decide +kernel
theorem dX6_subscribe_25 : decode cX6_subscribe 25 = .ok (.ifCond .eq 13, 3) := by decide +kernel
theorem dX6_subscribe_28 : decode cX6_subscribe 28 = .ok (.iload_n 3, 1) := by decide +kernel
theorem dX6_subscribe_29 : decode cX6_subscribe 29 = .ok (.iconst 1, 1) := by decide +kernel
theorem dX6_subscribe_30 : decode cX6_subscribe 30 = .ok (.bipush 60, 2) := by decide +kernel
theorem dX6_subscribe_32 : decode cX6_subscribe 32 = .ok (.invokestatic 69, 3) := by decide +kernel
theorem dX6_subscribe_35 : decode cX6_subscribe 35 = .ok (.ifCond .ne 7, 3) := by decide +kernel
theorem dX6_subscribe_38 : decode cX6_subscribe 38 = .ok (.iconst 2, 1) := by decide +kernel
theorem dX6_subscribe_39 : decode cX6_subscribe 39 = .ok (.goto 17, 3) := by decide +kernel
theorem dX6_subscribe_42 : decode cX6_subscribe 42 = .ok (.aload_n 0, 1) := by decide +kernel
theorem dX6_subscribe_43 : decode cX6_subscribe 43 = .ok (.getfield 128, 3) := by decide +kernel
theorem dX6_subscribe_46 : decode cX6_subscribe 46 = .ok (.bipush 40, 2) := by decide +kernel
theorem dX6_subscribe_48 : decode cX6_subscribe 48 = .ok (.if_icmp .ne 7, 3) := by decide +kernel
theorem dX6_subscribe_51 : decode cX6_subscribe 51 = .ok (.iconst 3, 1) := by decide +kernel
theorem dX6_subscribe_52 : decode cX6_subscribe 52 = .ok (.goto 4, 3) := by decide +kernel
theorem dX6_subscribe_55 : decode cX6_subscribe 55 = .ok (.iconst 0, 1) := by decide +kernel
theorem dX6_subscribe_56 : decode cX6_subscribe 56 = .ok (.putfield 65, 3) := by decide +kernel
theorem dX6_subscribe_59 : decode cX6_subscribe 59 = .ok (.aload_n 0, 1) := by decide +kernel
theorem dX6_subscribe_60 : decode cX6_subscribe 60 = .ok (.getfield 65, 3) := by decide +kernel
theorem dX6_subscribe_63 : decode cX6_subscribe 63 = .ok (.ifCond .le 5, 3) := by decide +kernel
theorem dX6_subscribe_66 : decode cX6_subscribe 66 = .ok (.iconst 0, 1) := by decide +kernel
theorem dX6_subscribe_67 : decode cX6_subscribe 67 = .ok (.ireturn, 1) := by decide +kernel
theorem dX6_subscribe_68 : decode cX6_subscribe 68 = .ok (.aload_n 0, 1) := by decide +kernel
theorem dX6_subscribe_69 : decode cX6_subscribe 69 = .ok (.getfield 44, 3) := by decide +kernel
theorem dX6_subscribe_72 : decode cX6_subscribe 72 = .ok (.aload_n 0, 1) := by decide +kernel
theorem dX6_subscribe_73 : decode cX6_subscribe 73 = .ok (.getfield 128, 3) := by decide +kernel
theorem dX6_subscribe_76 : decode cX6_subscribe 76 = .ok (.iload_n 1, 1) := by decide +kernel
theorem dX6_subscribe_77 : decode cX6_subscribe 77 = .ok (.iastore, 1) := by decide +kernel
theorem dX6_subscribe_78 : decode cX6_subscribe 78 = .ok (.aload_n 0, 1) := by decide +kernel
theorem dX6_subscribe_79 : decode cX6_subscribe 79 = .ok (.getfield 47, 3) := by decide +kernel
theorem dX6_subscribe_82 : decode cX6_subscribe 82 = .ok (.aload_n 0, 1) := by decide +kernel
theorem dX6_subscribe_83 : decode cX6_subscribe 83 = .ok (.getfield 128, 3) := by decide +kernel
theorem dX6_subscribe_86 : decode cX6_subscribe 86 = .ok (.iload_n 2, 1) := by decide +kernel
theorem dX6_subscribe_87 : decode cX6_subscribe 87 = .ok (.iastore, 1) := by decide +kernel
theorem dX6_subscribe_88 : decode cX6_subscribe 88 = .ok (.aload_n 0, 1) := by decide +kernel
theorem dX6_subscribe_89 : decode cX6_subscribe 89 = .ok (.getfield 50, 3) := by decide +kernel
theorem dX6_subscribe_92 : decode cX6_subscribe 92 = .ok (.aload_n 0, 1) := by decide +kernel
theorem dX6_subscribe_93 : decode cX6_subscribe 93 = .ok (.getfield 128, 3) := by decide +kernel
theorem dX6_subscribe_96 : decode cX6_subscribe 96 = .ok (.aload_n 0, 1) := by decide +kernel
theorem dX6_subscribe_97 : decode cX6_subscribe 97 = .ok (.getfield 107, 3) := by decide +kernel
theorem dX6_subscribe_100 : decode cX6_subscribe 100 = .ok (.iload_n 3, 1) := by decide +kernel
theorem dX6_subscribe_101 : decode cX6_subscribe 101 = .ok (.iadd, 1) := by decide +kernel
theorem dX6_subscribe_102 : decode cX6_subscribe 102 = .ok (.iastore, 1) := by decide +kernel
theorem dX6_subscribe_103 : decode cX6_subscribe 103 = .ok (.aload_n 0, 1) := by decide +kernel
theorem dX6_subscribe_104 : decode cX6_subscribe 104 = .ok (.getfield 53, 3) := by decide +kernel
theorem dX6_subscribe_107 : decode cX6_subscribe 107 = .ok (.aload_n 0, 1) := by decide +kernel
theorem dX6_subscribe_108 : decode cX6_subscribe 108 = .ok (.getfield 128, 3) := by decide +kernel
theorem dX6_subscribe_111 : decode cX6_subscribe 111 = .ok (.iconst 0, 1) := by decide +kernel
theorem dX6_subscribe_112 : decode cX6_subscribe 112 = .ok (.iastore, 1) := by decide +kernel
theorem dX6_subscribe_113 : decode cX6_subscribe 113 = .ok (.aload_n 0, 1) := by decide +kernel
theorem dX6_subscribe_114 : decode cX6_subscribe 114 = .ok (.getfield 56, 3) := by decide +kernel
theorem dX6_subscribe_117 : decode cX6_subscribe 117 = .ok (.aload_n 0, 1) := by decide +kernel
theorem dX6_subscribe_118 : decode cX6_subscribe 118 = .ok (.getfield 128, 3) := by decide +kernel
theorem dX6_subscribe_121 : decode cX6_subscribe 121 = .ok (.iconst 0, 1) := by decide +kernel
theorem dX6_subscribe_122 : decode cX6_subscribe 122 = .ok (.iastore, 1) := by decide +kernel
theorem dX6_subscribe_123 : decode cX6_subscribe 123 = .ok (.aload_n 0, 1) := by decide +kernel
theorem dX6_subscribe_124 : decode cX6_subscribe 124 = .ok (.getfield 59, 3) := by decide +kernel
theorem dX6_subscribe_127 : decode cX6_subscribe 127 = .ok (.aload_n 0, 1) := by decide +kernel
theorem dX6_subscribe_128 : decode cX6_subscribe 128 = .ok (.getfield 128, 3) := by decide +kernel
theorem dX6_subscribe_131 : decode cX6_subscribe 131 = .ok (.iload 4, 2) := by decide +kernel
theorem dX6_subscribe_133 : decode cX6_subscribe 133 = .ok (.ifCond .eq 7, 3) := by decide +kernel
theorem dX6_subscribe_136 : decode cX6_subscribe 136 = .ok (.iconst 1, 1) := by decide +kernel
theorem dX6_subscribe_137 : decode cX6_subscribe 137 = .ok (.goto 4, 3) := by decide +kernel
theorem dX6_subscribe_140 : decode cX6_subscribe 140 = .ok (.iconst 0, 1) := by decide +kernel
theorem dX6_subscribe_141 : decode cX6_subscribe 141 = .ok (.iastore, 1) := by decide +kernel
theorem dX6_subscribe_142 : decode cX6_subscribe 142 = .ok (.aload_n 0, 1) := by decide +kernel
theorem dX6_subscribe_143 : decode cX6_subscribe 143 = .ok (.getfield 62, 3) := by decide +kernel
theorem dX6_subscribe_146 : decode cX6_subscribe 146 = .ok (.aload_n 0, 1) := by decide +kernel
theorem dX6_subscribe_147 : decode cX6_subscribe 147 = .ok (.getfield 128, 3) := by decide +kernel
theorem dX6_subscribe_150 : decode cX6_subscribe 150 = .ok (.iconst 0, 1) := by decide +kernel
theorem dX6_subscribe_151 : decode cX6_subscribe 151 = .ok (.iastore, 1) := by decide +kernel
theorem dX6_subscribe_152 : decode cX6_subscribe 152 = .ok (.aload_n 0, 1) := by decide +kernel
theorem dX6_subscribe_153 : decode cX6_subscribe 153 = .ok (.dup, 1) := by decide +kernel
theorem dX6_subscribe_154 : decode cX6_subscribe 154 = .ok (.getfield 128, 3) := by decide +kernel
theorem dX6_subscribe_157 : decode cX6_subscribe 157 = .ok (.iconst 1, 1) := by decide +kernel
theorem dX6_subscribe_158 : decode cX6_subscribe 158 = .ok (.iadd, 1) := by decide +kernel
theorem dX6_subscribe_159 : decode cX6_subscribe 159 = .ok (.putfield 128, 3) := by decide +kernel
theorem dX6_subscribe_162 : decode cX6_subscribe 162 = .ok (.aload_n 0, 1) := by decide +kernel
theorem dX6_subscribe_163 : decode cX6_subscribe 163 = .ok (.getfield 128, 3) := by decide +kernel
theorem dX6_subscribe_166 : decode cX6_subscribe 166 = .ok (.iconst 1, 1) := by decide +kernel
theorem dX6_subscribe_167 : decode cX6_subscribe 167 = .ok (.isub, 1) := by decide +kernel
theorem dX6_subscribe_168 : decode cX6_subscribe 168 = .ok (.ireturn, 1) := by decide +kernel
theorem dX6_isPlan_0 : decode cX6_isPlan 0 = .ok (.aload_n 0, 1) := by decide +kernel
theorem dX6_isPlan_1 : decode cX6_isPlan 1 = .ok (.iload_n 1, 1) := by decide +kernel
theorem dX6_isPlan_2 : decode cX6_isPlan 2 = .ok (.iconst 0, 1) := by decide +kernel
theorem dX6_isPlan_3 : decode cX6_isPlan 3 = .ok (.aload_n 0, 1) := by decide +kernel
theorem dX6_isPlan_4 : decode cX6_isPlan 4 = .ok (.getfield 128, 3) := by decide +kernel
theorem dX6_isPlan_7 : decode cX6_isPlan 7 = .ok (.iconst 1, 1) := by decide +kernel
theorem dX6_isPlan_8 : decode cX6_isPlan 8 = .ok (.isub, 1) := by decide +kernel
theorem dX6_isPlan_9 : decode cX6_isPlan 9 = .ok (.invokestatic 69, 3) := by decide +kernel
theorem dX6_isPlan_12 : decode cX6_isPlan 12 = .ok (.ifCond .eq 7, 3) := by decide +kernel
theorem dX6_isPlan_15 : decode cX6_isPlan 15 = .ok (.iconst 0, 1) := by decide +kernel
theorem dX6_isPlan_16 : decode cX6_isPlan 16 = .ok (.goto 4, 3) := by decide +kernel
theorem dX6_isPlan_19 : decode cX6_isPlan 19 = .ok (.iconst 1, 1) := by decide +kernel
theorem dX6_isPlan_20 : decode cX6_isPlan 20 = .ok (.putfield 65, 3) := by decide +kernel
theorem dX6_isPlan_23 : decode cX6_isPlan 23 = .ok (.aload_n 0, 1) := by decide +kernel
theorem dX6_isPlan_24 : decode cX6_isPlan 24 = .ok (.getfield 65, 3) := by decide +kernel
theorem dX6_isPlan_27 : decode cX6_isPlan 27 = .ok (.ifCond .ne 7, 3) := by decide +kernel
theorem dX6_isPlan_30 : decode cX6_isPlan 30 = .ok (.iconst 1, 1) := by decide +kernel
theorem dX6_isPlan_31 : decode cX6_isPlan 31 = .ok (.goto 4, 3) := by decide +kernel
theorem dX6_isPlan_34 : decode cX6_isPlan 34 = .ok (.iconst 0, 1) := by decide +kernel
theorem dX6_isPlan_35 : decode cX6_isPlan 35 = .ok (.ireturn, 1) := by decide +kernel
theorem dX6_move_0 : decode cX6_move 0 = .ok (.aload_n 0, 1) := by decide +kernel
theorem dX6_move_1 : decode cX6_move 1 = .ok (.iload_n 1, 1) := by decide +kernel
theorem dX6_move_2 : decode cX6_move 2 = .ok (.iconst 0, 1) := by decide +kernel
theorem dX6_move_3 : decode cX6_move 3 = .ok (.aload_n 0, 1) := by decide +kernel
theorem dX6_move_4 : decode cX6_move 4 = .ok (.getfield 128, 3) := by decide +kernel
theorem dX6_move_7 : decode cX6_move 7 = .ok (.iconst 1, 1) := by decide +kernel
theorem dX6_move_8 : decode cX6_move 8 = .ok (.isub, 1) := by decide +kernel
theorem dX6_move_9 : decode cX6_move 9 = .ok (.invokestatic 69, 3) := by decide +kernel
theorem dX6_move_12 : decode cX6_move 12 = .ok (.ifCond .eq 21, 3) := by decide +kernel
theorem dX6_move_15 : decode cX6_move 15 = .ok (.iload_n 2, 1) := by decide +kernel
theorem dX6_move_16 : decode cX6_move 16 = .ok (.iconst 0, 1) := by decide +kernel
theorem dX6_move_17 : decode cX6_move 17 = .ok (.aload_n 0, 1) := by decide +kernel
theorem dX6_move_18 : decode cX6_move 18 = .ok (.getfield 78, 3) := by decide +kernel
theorem dX6_move_21 : decode cX6_move 21 = .ok (.iconst 1, 1) := by decide +kernel
theorem dX6_move_22 : decode cX6_move 22 = .ok (.isub, 1) := by decide +kernel
theorem dX6_move_23 : decode cX6_move 23 = .ok (.invokestatic 69, 3) := by decide +kernel
theorem dX6_move_26 : decode cX6_move 26 = .ok (.ifCond .eq 7, 3) := by decide +kernel
theorem dX6_move_29 : decode cX6_move 29 = .ok (.iconst 0, 1) := by decide +kernel
theorem dX6_move_30 : decode cX6_move 30 = .ok (.goto 4, 3) := by decide +kernel
theorem dX6_move_33 : decode cX6_move 33 = .ok (.iconst 1, 1) := by decide +kernel
theorem dX6_move_34 : decode cX6_move 34 = .ok (.putfield 65, 3) := by decide +kernel
theorem dX6_move_37 : decode cX6_move 37 = .ok (.aload_n 0, 1) := by decide +kernel
theorem dX6_move_38 : decode cX6_move 38 = .ok (.getfield 65, 3) := by decide +kernel
theorem dX6_move_41 : decode cX6_move 41 = .ok (.ifCond .le 5, 3) := by decide +kernel
theorem dX6_move_44 : decode cX6_move 44 = .ok (.iconst 0, 1) := by decide +kernel
theorem dX6_move_45 : decode cX6_move 45 = .ok (.ireturn, 1) := by decide +kernel
theorem dX6_move_46 : decode cX6_move 46 = .ok (.aload_n 0, 1) := by decide +kernel
theorem dX6_move_47 : decode cX6_move 47 = .ok (.getfield 44, 3) := by decide +kernel
theorem dX6_move_50 : decode cX6_move 50 = .ok (.iload_n 1, 1) := by decide +kernel
theorem dX6_move_51 : decode cX6_move 51 = .ok (.iaload, 1) := by decide +kernel
theorem dX6_move_52 : decode cX6_move 52 = .ok (.istore_n 3, 1) := by decide +kernel
theorem dX6_move_53 : decode cX6_move 53 = .ok (.iload_n 3, 1) := by decide +kernel
theorem dX6_move_54 : decode cX6_move 54 = .ok (.iload_n 2, 1) := by decide +kernel
theorem dX6_move_55 : decode cX6_move 55 = .ok (.if_icmp .eq 18, 3) := by decide +kernel
theorem dX6_move_58 : decode cX6_move 58 = .ok (.aload_n 0, 1) := by decide +kernel
theorem dX6_move_59 : decode cX6_move 59 = .ok (.getfield 34, 3) := by decide +kernel
theorem dX6_move_62 : decode cX6_move 62 = .ok (.iload_n 3, 1) := by decide +kernel
theorem dX6_move_63 : decode cX6_move 63 = .ok (.iaload, 1) := by decide +kernel
theorem dX6_move_64 : decode cX6_move 64 = .ok (.aload_n 0, 1) := by decide +kernel
theorem dX6_move_65 : decode cX6_move 65 = .ok (.getfield 34, 3) := by decide +kernel
theorem dX6_move_68 : decode cX6_move 68 = .ok (.iload_n 2, 1) := by decide +kernel
theorem dX6_move_69 : decode cX6_move 69 = .ok (.iaload, 1) := by decide +kernel
theorem dX6_move_70 : decode cX6_move 70 = .ok (.if_icmp .eq 9, 3) := by decide +kernel
theorem dX6_move_73 : decode cX6_move 73 = .ok (.aload_n 0, 1) := by decide +kernel
theorem dX6_move_74 : decode cX6_move 74 = .ok (.iconst 2, 1) := by decide +kernel
theorem dX6_move_75 : decode cX6_move 75 = .ok (.invokevirtual 122, 3) := by decide +kernel
theorem dX6_move_78 : decode cX6_move 78 = .ok (.ireturn, 1) := by decide +kernel
theorem dX6_move_79 : decode cX6_move 79 = .ok (.aload_n 0, 1) := by decide +kernel
theorem dX6_move_80 : decode cX6_move 80 = .ok (.getfield 50, 3) := by decide +kernel
theorem dX6_move_83 : decode cX6_move 83 = .ok (.iload_n 1, 1) := by decide +kernel
theorem dX6_move_84 : decode cX6_move 84 = .ok (.iaload, 1) := by decide +kernel
theorem dX6_move_85 : decode cX6_move 85 = .ok (.iconst (-1), 1) := by decide +kernel
theorem dX6_move_86 : decode cX6_move 86 = .ok (.if_icmp .ne 9, 3) := by decide +kernel
theorem dX6_move_89 : decode cX6_move 89 = .ok (.aload_n 0, 1) := by decide +kernel
theorem dX6_move_90 : decode cX6_move 90 = .ok (.iconst 3, 1) := by decide +kernel
theorem dX6_move_91 : decode cX6_move 91 = .ok (.invokevirtual 122, 3) := by decide +kernel
theorem dX6_move_94 : decode cX6_move 94 = .ok (.ireturn, 1) := by decide +kernel
theorem dX6_move_95 : decode cX6_move 95 = .ok (.aload_n 0, 1) := by decide +kernel
theorem dX6_move_96 : decode cX6_move 96 = .ok (.getfield 44, 3) := by decide +kernel
theorem dX6_move_99 : decode cX6_move 99 = .ok (.iload_n 1, 1) := by decide +kernel
theorem dX6_move_100 : decode cX6_move 100 = .ok (.iload_n 2, 1) := by decide +kernel
theorem dX6_move_101 : decode cX6_move 101 = .ok (.iastore, 1) := by decide +kernel
theorem dX6_move_102 : decode cX6_move 102 = .ok (.iload_n 3, 1) := by decide +kernel
theorem dX6_move_103 : decode cX6_move 103 = .ok (.ireturn, 1) := by decide +kernel
theorem dX6_setFailing_0 : decode cX6_setFailing 0 = .ok (.aload_n 0, 1) := by decide +kernel
theorem dX6_setFailing_1 : decode cX6_setFailing 1 = .ok (.iload_n 1, 1) := by decide +kernel
theorem dX6_setFailing_2 : decode cX6_setFailing 2 = .ok (.invokevirtual 131, 3) := by decide +kernel
theorem dX6_setFailing_5 : decode cX6_setFailing 5 = .ok (.ifCond .eq 22, 3) := by decide +kernel
theorem dX6_setFailing_8 : decode cX6_setFailing 8 = .ok (.aload_n 0, 1) := by decide +kernel
theorem dX6_setFailing_9 : decode cX6_setFailing 9 = .ok (.aload_n 0, 1) := by decide +kernel
theorem dX6_setFailing_10 : decode cX6_setFailing 10 = .ok (.getfield 50, 3) := by decide +kernel
theorem dX6_setFailing_13 : decode cX6_setFailing 13 = .ok (.iload_n 1, 1) := by decide +kernel
theorem dX6_setFailing_14 : decode cX6_setFailing 14 = .ok (.iaload, 1) := by decide +kernel
theorem dX6_setFailing_15 : decode cX6_setFailing 15 = .ok (.iconst (-1), 1) := by decide +kernel
theorem dX6_setFailing_16 : decode cX6_setFailing 16 = .ok (.if_icmp .ne 7, 3) := by decide +kernel
theorem dX6_setFailing_19 : decode cX6_setFailing 19 = .ok (.iconst 2, 1) := by decide +kernel
theorem dX6_setFailing_20 : decode cX6_setFailing 20 = .ok (.goto 4, 3) := by decide +kernel
theorem dX6_setFailing_23 : decode cX6_setFailing 23 = .ok (.iconst 0, 1) := by decide +kernel
theorem dX6_setFailing_24 : decode cX6_setFailing 24 = .ok (.putfield 65, 3) := by decide +kernel
theorem dX6_setFailing_27 : decode cX6_setFailing 27 = .ok (.aload_n 0, 1) := by decide +kernel
theorem dX6_setFailing_28 : decode cX6_setFailing 28 = .ok (.getfield 65, 3) := by decide +kernel
theorem dX6_setFailing_31 : decode cX6_setFailing 31 = .ok (.ifCond .ne 18, 3) := by decide +kernel
theorem dX6_setFailing_34 : decode cX6_setFailing 34 = .ok (.aload_n 0, 1) := by decide +kernel
theorem dX6_setFailing_35 : decode cX6_setFailing 35 = .ok (.getfield 62, 3) := by decide +kernel
theorem dX6_setFailing_38 : decode cX6_setFailing 38 = .ok (.iload_n 1, 1) := by decide +kernel
theorem dX6_setFailing_39 : decode cX6_setFailing 39 = .ok (.iload_n 2, 1) := by decide +kernel
theorem dX6_setFailing_40 : decode cX6_setFailing 40 = .ok (.ifCond .eq 7, 3) := by decide +kernel
theorem dX6_setFailing_43 : decode cX6_setFailing 43 = .ok (.iconst 1, 1) := by decide +kernel
theorem dX6_setFailing_44 : decode cX6_setFailing 44 = .ok (.goto 4, 3) := by decide +kernel
theorem dX6_setFailing_47 : decode cX6_setFailing 47 = .ok (.iconst 0, 1) := by decide +kernel
theorem dX6_setFailing_48 : decode cX6_setFailing 48 = .ok (.iastore, 1) := by decide +kernel
theorem dX6_setFailing_49 : decode cX6_setFailing 49 = .ok (.return_, 1) := by decide +kernel
theorem dX6_cancel_0 : decode cX6_cancel 0 = .ok (.aload_n 0, 1) := by decide +kernel
theorem dX6_cancel_1 : decode cX6_cancel 1 = .ok (.iload_n 1, 1) := by decide +kernel
theorem dX6_cancel_2 : decode cX6_cancel 2 = .ok (.invokevirtual 131, 3) := by decide +kernel
theorem dX6_cancel_5 : decode cX6_cancel 5 = .ok (.ifCond .ne 5, 3) := by decide +kernel
theorem dX6_cancel_8 : decode cX6_cancel 8 = .ok (.iconst 0, 1) := by decide +kernel
theorem dX6_cancel_9 : decode cX6_cancel 9 = .ok (.ireturn, 1) := by decide +kernel
theorem dX6_cancel_10 : decode cX6_cancel 10 = .ok (.aload_n 0, 1) := by decide +kernel
theorem dX6_cancel_11 : decode cX6_cancel 11 = .ok (.getfield 50, 3) := by decide +kernel
theorem dX6_cancel_14 : decode cX6_cancel 14 = .ok (.iload_n 1, 1) := by decide +kernel
theorem dX6_cancel_15 : decode cX6_cancel 15 = .ok (.iaload, 1) := by decide +kernel
theorem dX6_cancel_16 : decode cX6_cancel 16 = .ok (.iconst (-1), 1) := by decide +kernel
theorem dX6_cancel_17 : decode cX6_cancel 17 = .ok (.if_icmp .ne 9, 3) := by decide +kernel
theorem dX6_cancel_20 : decode cX6_cancel 20 = .ok (.aload_n 0, 1) := by decide +kernel
theorem dX6_cancel_21 : decode cX6_cancel 21 = .ok (.iconst 2, 1) := by decide +kernel
theorem dX6_cancel_22 : decode cX6_cancel 22 = .ok (.invokevirtual 122, 3) := by decide +kernel
theorem dX6_cancel_25 : decode cX6_cancel 25 = .ok (.ireturn, 1) := by decide +kernel
theorem dX6_cancel_26 : decode cX6_cancel 26 = .ok (.aload_n 0, 1) := by decide +kernel
theorem dX6_cancel_27 : decode cX6_cancel 27 = .ok (.getfield 50, 3) := by decide +kernel
theorem dX6_cancel_30 : decode cX6_cancel 30 = .ok (.iload_n 1, 1) := by decide +kernel
theorem dX6_cancel_31 : decode cX6_cancel 31 = .ok (.iconst (-1), 1) := by decide +kernel
theorem dX6_cancel_32 : decode cX6_cancel 32 = .ok (.iastore, 1) := by decide +kernel
theorem dX6_cancel_33 : decode cX6_cancel 33 = .ok (.aload_n 0, 1) := by decide +kernel
theorem dX6_cancel_34 : decode cX6_cancel 34 = .ok (.getfield 56, 3) := by decide +kernel
theorem dX6_cancel_37 : decode cX6_cancel 37 = .ok (.iload_n 1, 1) := by decide +kernel
theorem dX6_cancel_38 : decode cX6_cancel 38 = .ok (.iaload, 1) := by decide +kernel
theorem dX6_cancel_39 : decode cX6_cancel 39 = .ok (.ireturn, 1) := by decide +kernel
theorem dX6_payments_0 : decode cX6_payments 0 = .ok (.aload_n 0, 1) := by decide +kernel
theorem dX6_payments_1 : decode cX6_payments 1 = .ok (.iload_n 1, 1) := by decide +kernel
theorem dX6_payments_2 : decode cX6_payments 2 = .ok (.invokevirtual 131, 3) := by decide +kernel
theorem dX6_payments_5 : decode cX6_payments 5 = .ok (.ifCond .eq 12, 3) := by decide +kernel
theorem dX6_payments_8 : decode cX6_payments 8 = .ok (.aload_n 0, 1) := by decide +kernel
theorem dX6_payments_9 : decode cX6_payments 9 = .ok (.getfield 56, 3) := by decide +kernel
theorem dX6_payments_12 : decode cX6_payments 12 = .ok (.iload_n 1, 1) := by decide +kernel
theorem dX6_payments_13 : decode cX6_payments 13 = .ok (.iaload, 1) := by decide +kernel
theorem dX6_payments_14 : decode cX6_payments 14 = .ok (.goto 4, 3) := by decide +kernel
theorem dX6_payments_17 : decode cX6_payments 17 = .ok (.iconst 0, 1) := by decide +kernel
theorem dX6_payments_18 : decode cX6_payments 18 = .ok (.ireturn, 1) := by decide +kernel
theorem dX6_next_0 : decode cX6_next 0 = .ok (.aload_n 0, 1) := by decide +kernel
theorem dX6_next_1 : decode cX6_next 1 = .ok (.iload_n 1, 1) := by decide +kernel
theorem dX6_next_2 : decode cX6_next 2 = .ok (.invokevirtual 131, 3) := by decide +kernel
theorem dX6_next_5 : decode cX6_next 5 = .ok (.ifCond .eq 12, 3) := by decide +kernel
theorem dX6_next_8 : decode cX6_next 8 = .ok (.aload_n 0, 1) := by decide +kernel
theorem dX6_next_9 : decode cX6_next 9 = .ok (.getfield 50, 3) := by decide +kernel
theorem dX6_next_12 : decode cX6_next 12 = .ok (.iload_n 1, 1) := by decide +kernel
theorem dX6_next_13 : decode cX6_next 13 = .ok (.iaload, 1) := by decide +kernel
theorem dX6_next_14 : decode cX6_next 14 = .ok (.goto 4, 3) := by decide +kernel
theorem dX6_next_17 : decode cX6_next 17 = .ok (.iconst 0, 1) := by decide +kernel
theorem dX6_next_18 : decode cX6_next 18 = .ok (.ireturn, 1) := by decide +kernel
theorem dX6_payout_0 : decode cX6_payout 0 = .ok (.aload_n 0, 1) := by decide +kernel
theorem dX6_payout_1 : decode cX6_payout 1 = .ok (.iload_n 1, 1) := by decide +kernel
theorem dX6_payout_2 : decode cX6_payout 2 = .ok (.iconst 0, 1) := by decide +kernel
theorem dX6_payout_3 : decode cX6_payout 3 = .ok (.aload_n 0, 1) := by decide +kernel
theorem dX6_payout_4 : decode cX6_payout 4 = .ok (.getfield 74, 3) := by decide +kernel
theorem dX6_payout_7 : decode cX6_payout 7 = .ok (.iconst 1, 1) := by decide +kernel
theorem dX6_payout_8 : decode cX6_payout 8 = .ok (.isub, 1) := by decide +kernel
theorem dX6_payout_9 : decode cX6_payout 9 = .ok (.invokestatic 69, 3) := by decide +kernel
theorem dX6_payout_12 : decode cX6_payout 12 = .ok (.ifCond .ne 7, 3) := by decide +kernel
theorem dX6_payout_15 : decode cX6_payout 15 = .ok (.iconst 1, 1) := by decide +kernel
theorem dX6_payout_16 : decode cX6_payout 16 = .ok (.goto 25, 3) := by decide +kernel
theorem dX6_payout_19 : decode cX6_payout 19 = .ok (.iload_n 2, 1) := by decide +kernel
theorem dX6_payout_20 : decode cX6_payout 20 = .ok (.iconst 0, 1) := by decide +kernel
theorem dX6_payout_21 : decode cX6_payout 21 = .ok (.aload_n 0, 1) := by decide +kernel
theorem dX6_payout_22 : decode cX6_payout 22 = .ok (.getfield 107, 3) := by decide +kernel
theorem dX6_payout_25 : decode cX6_payout 25 = .ok (.bipush 30, 2) := by decide +kernel
theorem dX6_payout_27 : decode cX6_payout 27 = .ok (.idiv, 1) := by decide +kernel
theorem dX6_payout_28 : decode cX6_payout 28 = .ok (.iconst 1, 1) := by decide +kernel
theorem dX6_payout_29 : decode cX6_payout 29 = .ok (.isub, 1) := by decide +kernel
theorem dX6_payout_30 : decode cX6_payout 30 = .ok (.invokestatic 69, 3) := by decide +kernel
theorem dX6_payout_33 : decode cX6_payout 33 = .ok (.ifCond .ne 7, 3) := by decide +kernel
theorem dX6_payout_36 : decode cX6_payout 36 = .ok (.iconst 2, 1) := by decide +kernel
theorem dX6_payout_37 : decode cX6_payout 37 = .ok (.goto 4, 3) := by decide +kernel
theorem dX6_payout_40 : decode cX6_payout 40 = .ok (.iconst 0, 1) := by decide +kernel
theorem dX6_payout_41 : decode cX6_payout 41 = .ok (.putfield 65, 3) := by decide +kernel
theorem dX6_payout_44 : decode cX6_payout 44 = .ok (.aload_n 0, 1) := by decide +kernel
theorem dX6_payout_45 : decode cX6_payout 45 = .ok (.getfield 65, 3) := by decide +kernel
theorem dX6_payout_48 : decode cX6_payout 48 = .ok (.ifCond .ne 17, 3) := by decide +kernel
theorem dX6_payout_51 : decode cX6_payout 51 = .ok (.aload_n 0, 1) := by decide +kernel
theorem dX6_payout_52 : decode cX6_payout 52 = .ok (.getfield 31, 3) := by decide +kernel
theorem dX6_payout_55 : decode cX6_payout 55 = .ok (.bipush 120, 2) := by decide +kernel
theorem dX6_payout_57 : decode cX6_payout 57 = .ok (.iload_n 1, 1) := by decide +kernel
theorem dX6_payout_58 : decode cX6_payout 58 = .ok (.imul, 1) := by decide +kernel
theorem dX6_payout_59 : decode cX6_payout 59 = .ok (.iload_n 2, 1) := by decide +kernel
theorem dX6_payout_60 : decode cX6_payout 60 = .ok (.iadd, 1) := by decide +kernel
theorem dX6_payout_61 : decode cX6_payout 61 = .ok (.iaload, 1) := by decide +kernel
theorem dX6_payout_62 : decode cX6_payout 62 = .ok (.goto 4, 3) := by decide +kernel
theorem dX6_payout_65 : decode cX6_payout 65 = .ok (.iconst 0, 1) := by decide +kernel
theorem dX6_payout_66 : decode cX6_payout 66 = .ok (.ireturn, 1) := by decide +kernel
theorem dX6_isMaker_0 : decode cX6_isMaker 0 = .ok (.aload_n 0, 1) := by decide +kernel
theorem dX6_isMaker_1 : decode cX6_isMaker 1 = .ok (.iload_n 1, 1) := by decide +kernel
theorem dX6_isMaker_2 : decode cX6_isMaker 2 = .ok (.iconst 0, 1) := by decide +kernel
theorem dX6_isMaker_3 : decode cX6_isMaker 3 = .ok (.aload_n 0, 1) := by decide +kernel
theorem dX6_isMaker_4 : decode cX6_isMaker 4 = .ok (.getfield 74, 3) := by decide +kernel
theorem dX6_isMaker_7 : decode cX6_isMaker 7 = .ok (.iconst 1, 1) := by decide +kernel
theorem dX6_isMaker_8 : decode cX6_isMaker 8 = .ok (.isub, 1) := by decide +kernel
theorem dX6_isMaker_9 : decode cX6_isMaker 9 = .ok (.invokestatic 69, 3) := by decide +kernel
theorem dX6_isMaker_12 : decode cX6_isMaker 12 = .ok (.ifCond .eq 7, 3) := by decide +kernel
theorem dX6_isMaker_15 : decode cX6_isMaker 15 = .ok (.iconst 0, 1) := by decide +kernel
theorem dX6_isMaker_16 : decode cX6_isMaker 16 = .ok (.goto 4, 3) := by decide +kernel
theorem dX6_isMaker_19 : decode cX6_isMaker 19 = .ok (.iconst 1, 1) := by decide +kernel
theorem dX6_isMaker_20 : decode cX6_isMaker 20 = .ok (.putfield 65, 3) := by decide +kernel
theorem dX6_isMaker_23 : decode cX6_isMaker 23 = .ok (.aload_n 0, 1) := by decide +kernel
theorem dX6_isMaker_24 : decode cX6_isMaker 24 = .ok (.getfield 65, 3) := by decide +kernel
theorem dX6_isMaker_27 : decode cX6_isMaker 27 = .ok (.ifCond .ne 7, 3) := by decide +kernel
theorem dX6_isMaker_30 : decode cX6_isMaker 30 = .ok (.iconst 1, 1) := by decide +kernel
theorem dX6_isMaker_31 : decode cX6_isMaker 31 = .ok (.goto 4, 3) := by decide +kernel
theorem dX6_isMaker_34 : decode cX6_isMaker 34 = .ok (.iconst 0, 1) := by decide +kernel
theorem dX6_isMaker_35 : decode cX6_isMaker 35 = .ok (.ireturn, 1) := by decide +kernel
theorem dX6_carried_0 : decode cX6_carried 0 = .ok (.aload_n 0, 1) := by decide +kernel
theorem dX6_carried_1 : decode cX6_carried 1 = .ok (.iload_n 1, 1) := by decide +kernel
theorem dX6_carried_2 : decode cX6_carried 2 = .ok (.invokevirtual 134, 3) := by decide +kernel
theorem dX6_carried_5 : decode cX6_carried 5 = .ok (.ifCond .eq 12, 3) := by decide +kernel
theorem dX6_carried_8 : decode cX6_carried 8 = .ok (.aload_n 0, 1) := by decide +kernel
theorem dX6_carried_9 : decode cX6_carried 9 = .ok (.getfield 28, 3) := by decide +kernel
theorem dX6_carried_12 : decode cX6_carried 12 = .ok (.iload_n 1, 1) := by decide +kernel
theorem dX6_carried_13 : decode cX6_carried 13 = .ok (.iaload, 1) := by decide +kernel
theorem dX6_carried_14 : decode cX6_carried 14 = .ok (.goto 4, 3) := by decide +kernel
theorem dX6_carried_17 : decode cX6_carried 17 = .ok (.iconst 0, 1) := by decide +kernel
theorem dX6_carried_18 : decode cX6_carried 18 = .ok (.ireturn, 1) := by decide +kernel
theorem dX6_balance_0 : decode cX6_balance 0 = .ok (.aload_n 0, 1) := by decide +kernel
theorem dX6_balance_1 : decode cX6_balance 1 = .ok (.iload_n 1, 1) := by decide +kernel
theorem dX6_balance_2 : decode cX6_balance 2 = .ok (.invokevirtual 134, 3) := by decide +kernel
theorem dX6_balance_5 : decode cX6_balance 5 = .ok (.ifCond .eq 19, 3) := by decide +kernel
theorem dX6_balance_8 : decode cX6_balance 8 = .ok (.aload_n 0, 1) := by decide +kernel
theorem dX6_balance_9 : decode cX6_balance 9 = .ok (.getfield 28, 3) := by decide +kernel
theorem dX6_balance_12 : decode cX6_balance 12 = .ok (.iload_n 1, 1) := by decide +kernel
theorem dX6_balance_13 : decode cX6_balance 13 = .ok (.iaload, 1) := by decide +kernel
theorem dX6_balance_14 : decode cX6_balance 14 = .ok (.aload_n 0, 1) := by decide +kernel
theorem dX6_balance_15 : decode cX6_balance 15 = .ok (.getfield 25, 3) := by decide +kernel
theorem dX6_balance_18 : decode cX6_balance 18 = .ok (.iload_n 1, 1) := by decide +kernel
theorem dX6_balance_19 : decode cX6_balance 19 = .ok (.iaload, 1) := by decide +kernel
theorem dX6_balance_20 : decode cX6_balance 20 = .ok (.iadd, 1) := by decide +kernel
theorem dX6_balance_21 : decode cX6_balance 21 = .ok (.goto 4, 3) := by decide +kernel
theorem dX6_balance_24 : decode cX6_balance 24 = .ok (.iconst 0, 1) := by decide +kernel
theorem dX6_balance_25 : decode cX6_balance 25 = .ok (.ireturn, 1) := by decide +kernel
theorem dX6_heldTax_0 : decode cX6_heldTax 0 = .ok (.aload_n 0, 1) := by decide +kernel
theorem dX6_heldTax_1 : decode cX6_heldTax 1 = .ok (.iload_n 1, 1) := by decide +kernel
theorem dX6_heldTax_2 : decode cX6_heldTax 2 = .ok (.iconst 0, 1) := by decide +kernel
theorem dX6_heldTax_3 : decode cX6_heldTax 3 = .ok (.iconst 4, 1) := by decide +kernel
theorem dX6_heldTax_4 : decode cX6_heldTax 4 = .ok (.invokestatic 69, 3) := by decide +kernel
theorem dX6_heldTax_7 : decode cX6_heldTax 7 = .ok (.ifCond .eq 7, 3) := by decide +kernel
theorem dX6_heldTax_10 : decode cX6_heldTax 10 = .ok (.iconst 0, 1) := by decide +kernel
theorem dX6_heldTax_11 : decode cX6_heldTax 11 = .ok (.goto 4, 3) := by decide +kernel
theorem dX6_heldTax_14 : decode cX6_heldTax 14 = .ok (.iconst 1, 1) := by decide +kernel
theorem dX6_heldTax_15 : decode cX6_heldTax 15 = .ok (.putfield 65, 3) := by decide +kernel
theorem dX6_heldTax_18 : decode cX6_heldTax 18 = .ok (.aload_n 0, 1) := by decide +kernel
theorem dX6_heldTax_19 : decode cX6_heldTax 19 = .ok (.getfield 65, 3) := by decide +kernel
theorem dX6_heldTax_22 : decode cX6_heldTax 22 = .ok (.ifCond .ne 12, 3) := by decide +kernel
theorem dX6_heldTax_25 : decode cX6_heldTax 25 = .ok (.aload_n 0, 1) := by decide +kernel
theorem dX6_heldTax_26 : decode cX6_heldTax 26 = .ok (.getfield 16, 3) := by decide +kernel
theorem dX6_heldTax_29 : decode cX6_heldTax 29 = .ok (.iload_n 1, 1) := by decide +kernel
theorem dX6_heldTax_30 : decode cX6_heldTax 30 = .ok (.iaload, 1) := by decide +kernel
theorem dX6_heldTax_31 : decode cX6_heldTax 31 = .ok (.goto 4, 3) := by decide +kernel
theorem dX6_heldTax_34 : decode cX6_heldTax 34 = .ok (.iconst 0, 1) := by decide +kernel
theorem dX6_heldTax_35 : decode cX6_heldTax 35 = .ok (.ireturn, 1) := by decide +kernel
theorem dX6_shop_0 : decode cX6_shop 0 = .ok (.aload_n 0, 1) := by decide +kernel
theorem dX6_shop_1 : decode cX6_shop 1 = .ok (.iconst 0, 1) := by decide +kernel
theorem dX6_shop_2 : decode cX6_shop 2 = .ok (.putfield 65, 3) := by decide +kernel
theorem dX6_shop_5 : decode cX6_shop 5 = .ok (.aload_n 0, 1) := by decide +kernel
theorem dX6_shop_6 : decode cX6_shop 6 = .ok (.getfield 98, 3) := by decide +kernel
theorem dX6_shop_9 : decode cX6_shop 9 = .ok (.ireturn, 1) := by decide +kernel
theorem dX6_takings_0 : decode cX6_takings 0 = .ok (.aload_n 0, 1) := by decide +kernel
theorem dX6_takings_1 : decode cX6_takings 1 = .ok (.iconst 0, 1) := by decide +kernel
theorem dX6_takings_2 : decode cX6_takings 2 = .ok (.putfield 65, 3) := by decide +kernel
theorem dX6_takings_5 : decode cX6_takings 5 = .ok (.aload_n 0, 1) := by decide +kernel
theorem dX6_takings_6 : decode cX6_takings 6 = .ok (.getfield 101, 3) := by decide +kernel
theorem dX6_takings_9 : decode cX6_takings 9 = .ok (.ireturn, 1) := by decide +kernel
theorem dX6_closes_0 : decode cX6_closes 0 = .ok (.iconst 0, 1) := by decide +kernel
theorem dX6_closes_1 : decode cX6_closes 1 = .ok (.istore_n 2, 1) := by decide +kernel
theorem dX6_closes_2 : decode cX6_closes 2 = .ok (.iload_n 2, 1) := by decide +kernel
theorem dX6_closes_3 : decode cX6_closes 3 = .ok (.aload_n 0, 1) := by decide +kernel
theorem dX6_closes_4 : decode cX6_closes 4 = .ok (.getfield 74, 3) := by decide +kernel
theorem dX6_closes_7 : decode cX6_closes 7 = .ok (.if_icmp .ge 88, 3) := by decide +kernel
theorem dX6_closes_10 : decode cX6_closes 10 = .ok (.aload_n 0, 1) := by decide +kernel
theorem dX6_closes_11 : decode cX6_closes 11 = .ok (.getfield 28, 3) := by decide +kernel
theorem dX6_closes_14 : decode cX6_closes 14 = .ok (.iload_n 2, 1) := by decide +kernel
theorem dX6_closes_15 : decode cX6_closes 15 = .ok (.iaload, 1) := by decide +kernel
theorem dX6_closes_16 : decode cX6_closes 16 = .ok (.aload_n 0, 1) := by decide +kernel
theorem dX6_closes_17 : decode cX6_closes 17 = .ok (.getfield 25, 3) := by decide +kernel
theorem dX6_closes_20 : decode cX6_closes 20 = .ok (.iload_n 2, 1) := by decide +kernel
theorem dX6_closes_21 : decode cX6_closes 21 = .ok (.iaload, 1) := by decide +kernel
theorem dX6_closes_22 : decode cX6_closes 22 = .ok (.iadd, 1) := by decide +kernel
theorem dX6_closes_23 : decode cX6_closes 23 = .ok (.istore_n 3, 1) := by decide +kernel
theorem dX6_closes_24 : decode cX6_closes 24 = .ok (.iload_n 3, 1) := by decide +kernel
theorem dX6_closes_25 : decode cX6_closes 25 = .ok (.ifCond .le 17, 3) := by decide +kernel
theorem dX6_closes_28 : decode cX6_closes 28 = .ok (.iload_n 3, 1) := by decide +kernel
theorem dX6_closes_29 : decode cX6_closes 29 = .ok (.aload_n 0, 1) := by decide +kernel
theorem dX6_closes_30 : decode cX6_closes 30 = .ok (.getfield 19, 3) := by decide +kernel
theorem dX6_closes_33 : decode cX6_closes 33 = .ok (.iload_n 2, 1) := by decide +kernel
theorem dX6_closes_34 : decode cX6_closes 34 = .ok (.iaload, 1) := by decide +kernel
theorem dX6_closes_35 : decode cX6_closes 35 = .ok (.if_icmp .lt 7, 3) := by decide +kernel
theorem dX6_closes_38 : decode cX6_closes 38 = .ok (.iconst 1, 1) := by decide +kernel
theorem dX6_closes_39 : decode cX6_closes 39 = .ok (.goto 4, 3) := by decide +kernel
theorem dX6_closes_42 : decode cX6_closes 42 = .ok (.iconst 0, 1) := by decide +kernel
theorem dX6_closes_43 : decode cX6_closes 43 = .ok (.istore 4, 2) := by decide +kernel
theorem dX6_closes_45 : decode cX6_closes 45 = .ok (.aload_n 0, 1) := by decide +kernel
theorem dX6_closes_46 : decode cX6_closes 46 = .ok (.getfield 31, 3) := by decide +kernel
theorem dX6_closes_49 : decode cX6_closes 49 = .ok (.bipush 120, 2) := by decide +kernel
theorem dX6_closes_51 : decode cX6_closes 51 = .ok (.iload_n 2, 1) := by decide +kernel
theorem dX6_closes_52 : decode cX6_closes 52 = .ok (.imul, 1) := by decide +kernel
theorem dX6_closes_53 : decode cX6_closes 53 = .ok (.iload_n 1, 1) := by decide +kernel
theorem dX6_closes_54 : decode cX6_closes 54 = .ok (.iadd, 1) := by decide +kernel
theorem dX6_closes_55 : decode cX6_closes 55 = .ok (.iload 4, 2) := by decide +kernel
theorem dX6_closes_57 : decode cX6_closes 57 = .ok (.ifCond .eq 7, 3) := by decide +kernel
theorem dX6_closes_60 : decode cX6_closes 60 = .ok (.iload_n 3, 1) := by decide +kernel
theorem dX6_closes_61 : decode cX6_closes 61 = .ok (.goto 4, 3) := by decide +kernel
theorem dX6_closes_64 : decode cX6_closes 64 = .ok (.iconst 0, 1) := by decide +kernel
theorem dX6_closes_65 : decode cX6_closes 65 = .ok (.iastore, 1) := by decide +kernel
theorem dX6_closes_66 : decode cX6_closes 66 = .ok (.aload_n 0, 1) := by decide +kernel
theorem dX6_closes_67 : decode cX6_closes 67 = .ok (.getfield 28, 3) := by decide +kernel
theorem dX6_closes_70 : decode cX6_closes 70 = .ok (.iload_n 2, 1) := by decide +kernel
theorem dX6_closes_71 : decode cX6_closes 71 = .ok (.iload 4, 2) := by decide +kernel
theorem dX6_closes_73 : decode cX6_closes 73 = .ok (.ifCond .eq 7, 3) := by decide +kernel
theorem dX6_closes_76 : decode cX6_closes 76 = .ok (.iconst 0, 1) := by decide +kernel
theorem dX6_closes_77 : decode cX6_closes 77 = .ok (.goto 4, 3) := by decide +kernel
theorem dX6_closes_80 : decode cX6_closes 80 = .ok (.iload_n 3, 1) := by decide +kernel
theorem dX6_closes_81 : decode cX6_closes 81 = .ok (.iastore, 1) := by decide +kernel
theorem dX6_closes_82 : decode cX6_closes 82 = .ok (.aload_n 0, 1) := by decide +kernel
theorem dX6_closes_83 : decode cX6_closes 83 = .ok (.getfield 25, 3) := by decide +kernel
theorem dX6_closes_86 : decode cX6_closes 86 = .ok (.iload_n 2, 1) := by decide +kernel
theorem dX6_closes_87 : decode cX6_closes 87 = .ok (.iconst 0, 1) := by decide +kernel
theorem dX6_closes_88 : decode cX6_closes 88 = .ok (.iastore, 1) := by decide +kernel
theorem dX6_closes_89 : decode cX6_closes 89 = .ok (.iinc 2 1, 3) := by decide +kernel
theorem dX6_closes_92 : decode cX6_closes 92 = .ok (.goto (-90), 3) := by decide +kernel
theorem dX6_closes_95 : decode cX6_closes 95 = .ok (.return_, 1) := by decide +kernel
theorem dX6_pays_0 : decode cX6_pays 0 = .ok (.aload_n 0, 1) := by decide +kernel
theorem dX6_pays_1 : decode cX6_pays 1 = .ok (.getfield 62, 3) := by decide +kernel
theorem dX6_pays_4 : decode cX6_pays 4 = .ok (.iload_n 1, 1) := by decide +kernel
theorem dX6_pays_5 : decode cX6_pays 5 = .ok (.iaload, 1) := by decide +kernel
theorem dX6_pays_6 : decode cX6_pays 6 = .ok (.iconst 1, 1) := by decide +kernel
theorem dX6_pays_7 : decode cX6_pays 7 = .ok (.if_icmp .ne 42, 3) := by decide +kernel
theorem dX6_pays_10 : decode cX6_pays 10 = .ok (.aload_n 0, 1) := by decide +kernel
theorem dX6_pays_11 : decode cX6_pays 11 = .ok (.getfield 53, 3) := by decide +kernel
theorem dX6_pays_14 : decode cX6_pays 14 = .ok (.iload_n 1, 1) := by decide +kernel
theorem dX6_pays_15 : decode cX6_pays 15 = .ok (.dup2, 1) := by decide +kernel
theorem dX6_pays_16 : decode cX6_pays 16 = .ok (.iaload, 1) := by decide +kernel
theorem dX6_pays_17 : decode cX6_pays 17 = .ok (.iconst 1, 1) := by decide +kernel
theorem dX6_pays_18 : decode cX6_pays 18 = .ok (.iadd, 1) := by decide +kernel
theorem dX6_pays_19 : decode cX6_pays 19 = .ok (.iastore, 1) := by decide +kernel
theorem dX6_pays_20 : decode cX6_pays 20 = .ok (.aload_n 0, 1) := by decide +kernel
theorem dX6_pays_21 : decode cX6_pays 21 = .ok (.getfield 50, 3) := by decide +kernel
theorem dX6_pays_24 : decode cX6_pays 24 = .ok (.iload_n 1, 1) := by decide +kernel
theorem dX6_pays_25 : decode cX6_pays 25 = .ok (.aload_n 0, 1) := by decide +kernel
theorem dX6_pays_26 : decode cX6_pays 26 = .ok (.getfield 53, 3) := by decide +kernel
theorem dX6_pays_29 : decode cX6_pays 29 = .ok (.iload_n 1, 1) := by decide +kernel
theorem dX6_pays_30 : decode cX6_pays 30 = .ok (.iaload, 1) := by decide +kernel
theorem dX6_pays_31 : decode cX6_pays 31 = .ok (.bipush 6, 2) := by decide +kernel
theorem dX6_pays_33 : decode cX6_pays 33 = .ok (.if_icmp .ne 7, 3) := by decide +kernel
theorem dX6_pays_36 : decode cX6_pays 36 = .ok (.iconst (-1), 1) := by decide +kernel
theorem dX6_pays_37 : decode cX6_pays 37 = .ok (.goto 9, 3) := by decide +kernel
theorem dX6_pays_40 : decode cX6_pays 40 = .ok (.aload_n 0, 1) := by decide +kernel
theorem dX6_pays_41 : decode cX6_pays 41 = .ok (.getfield 107, 3) := by decide +kernel
theorem dX6_pays_44 : decode cX6_pays 44 = .ok (.iconst 1, 1) := by decide +kernel
theorem dX6_pays_45 : decode cX6_pays 45 = .ok (.iadd, 1) := by decide +kernel
theorem dX6_pays_46 : decode cX6_pays 46 = .ok (.iastore, 1) := by decide +kernel
theorem dX6_pays_47 : decode cX6_pays 47 = .ok (.iconst 0, 1) := by decide +kernel
theorem dX6_pays_48 : decode cX6_pays 48 = .ok (.ireturn, 1) := by decide +kernel
theorem dX6_pays_49 : decode cX6_pays 49 = .ok (.aload_n 0, 1) := by decide +kernel
theorem dX6_pays_50 : decode cX6_pays 50 = .ok (.getfield 37, 3) := by decide +kernel
theorem dX6_pays_53 : decode cX6_pays 53 = .ok (.iconst 5, 1) := by decide +kernel
theorem dX6_pays_54 : decode cX6_pays 54 = .ok (.aload_n 0, 1) := by decide +kernel
theorem dX6_pays_55 : decode cX6_pays 55 = .ok (.getfield 44, 3) := by decide +kernel
theorem dX6_pays_58 : decode cX6_pays 58 = .ok (.iload_n 1, 1) := by decide +kernel
theorem dX6_pays_59 : decode cX6_pays 59 = .ok (.iaload, 1) := by decide +kernel
theorem dX6_pays_60 : decode cX6_pays 60 = .ok (.imul, 1) := by decide +kernel
theorem dX6_pays_61 : decode cX6_pays 61 = .ok (.aload_n 0, 1) := by decide +kernel
theorem dX6_pays_62 : decode cX6_pays 62 = .ok (.getfield 47, 3) := by decide +kernel
theorem dX6_pays_65 : decode cX6_pays 65 = .ok (.iload_n 1, 1) := by decide +kernel
theorem dX6_pays_66 : decode cX6_pays 66 = .ok (.iaload, 1) := by decide +kernel
theorem dX6_pays_67 : decode cX6_pays 67 = .ok (.iadd, 1) := by decide +kernel
theorem dX6_pays_68 : decode cX6_pays 68 = .ok (.iaload, 1) := by decide +kernel
theorem dX6_pays_69 : decode cX6_pays 69 = .ok (.istore_n 2, 1) := by decide +kernel
theorem dX6_pays_70 : decode cX6_pays 70 = .ok (.aload_n 0, 1) := by decide +kernel
theorem dX6_pays_71 : decode cX6_pays 71 = .ok (.getfield 59, 3) := by decide +kernel
theorem dX6_pays_74 : decode cX6_pays 74 = .ok (.iload_n 1, 1) := by decide +kernel
theorem dX6_pays_75 : decode cX6_pays 75 = .ok (.iaload, 1) := by decide +kernel
theorem dX6_pays_76 : decode cX6_pays 76 = .ok (.iconst 1, 1) := by decide +kernel
theorem dX6_pays_77 : decode cX6_pays 77 = .ok (.if_icmp .ne 16, 3) := by decide +kernel
theorem dX6_pays_80 : decode cX6_pays 80 = .ok (.aload_n 0, 1) := by decide +kernel
theorem dX6_pays_81 : decode cX6_pays 81 = .ok (.getfield 56, 3) := by decide +kernel
theorem dX6_pays_84 : decode cX6_pays 84 = .ok (.iload_n 1, 1) := by decide +kernel
theorem dX6_pays_85 : decode cX6_pays 85 = .ok (.iaload, 1) := by decide +kernel
theorem dX6_pays_86 : decode cX6_pays 86 = .ok (.ifCond .ne 7, 3) := by decide +kernel
theorem dX6_pays_89 : decode cX6_pays 89 = .ok (.iconst 1, 1) := by decide +kernel
theorem dX6_pays_90 : decode cX6_pays 90 = .ok (.goto 4, 3) := by decide +kernel
theorem dX6_pays_93 : decode cX6_pays 93 = .ok (.iconst 0, 1) := by decide +kernel
theorem dX6_pays_94 : decode cX6_pays 94 = .ok (.istore_n 3, 1) := by decide +kernel
theorem dX6_pays_95 : decode cX6_pays 95 = .ok (.aload_n 0, 1) := by decide +kernel
theorem dX6_pays_96 : decode cX6_pays 96 = .ok (.aload_n 0, 1) := by decide +kernel
theorem dX6_pays_97 : decode cX6_pays 97 = .ok (.getfield 44, 3) := by decide +kernel
theorem dX6_pays_100 : decode cX6_pays 100 = .ok (.iload_n 1, 1) := by decide +kernel
theorem dX6_pays_101 : decode cX6_pays 101 = .ok (.iaload, 1) := by decide +kernel
theorem dX6_pays_102 : decode cX6_pays 102 = .ok (.aload_n 0, 1) := by decide +kernel
theorem dX6_pays_103 : decode cX6_pays 103 = .ok (.getfield 47, 3) := by decide +kernel
theorem dX6_pays_106 : decode cX6_pays 106 = .ok (.iload_n 1, 1) := by decide +kernel
theorem dX6_pays_107 : decode cX6_pays 107 = .ok (.iaload, 1) := by decide +kernel
theorem dX6_pays_108 : decode cX6_pays 108 = .ok (.iload_n 3, 1) := by decide +kernel
theorem dX6_pays_109 : decode cX6_pays 109 = .ok (.ifCond .eq 9, 3) := by decide +kernel
theorem dX6_pays_112 : decode cX6_pays 112 = .ok (.iload_n 2, 1) := by decide +kernel
theorem dX6_pays_113 : decode cX6_pays 113 = .ok (.iconst 2, 1) := by decide +kernel
theorem dX6_pays_114 : decode cX6_pays 114 = .ok (.idiv, 1) := by decide +kernel
theorem dX6_pays_115 : decode cX6_pays 115 = .ok (.goto 4, 3) := by decide +kernel
theorem dX6_pays_118 : decode cX6_pays 118 = .ok (.iload_n 2, 1) := by decide +kernel
theorem dX6_pays_119 : decode cX6_pays 119 = .ok (.aload_n 0, 1) := by decide +kernel
theorem dX6_pays_120 : decode cX6_pays 120 = .ok (.getfield 56, 3) := by decide +kernel
theorem dX6_pays_123 : decode cX6_pays 123 = .ok (.iload_n 1, 1) := by decide +kernel
theorem dX6_pays_124 : decode cX6_pays 124 = .ok (.iaload, 1) := by decide +kernel
theorem dX6_pays_125 : decode cX6_pays 125 = .ok (.bipush 12, 2) := by decide +kernel
theorem dX6_pays_127 : decode cX6_pays 127 = .ok (.if_icmp .lt 7, 3) := by decide +kernel
theorem dX6_pays_130 : decode cX6_pays 130 = .ok (.iconst 1, 1) := by decide +kernel
theorem dX6_pays_131 : decode cX6_pays 131 = .ok (.goto 4, 3) := by decide +kernel
theorem dX6_pays_134 : decode cX6_pays 134 = .ok (.iconst 0, 1) := by decide +kernel
theorem dX6_pays_135 : decode cX6_pays 135 = .ok (.invokevirtual 114, 3) := by decide +kernel
theorem dX6_pays_138 : decode cX6_pays 138 = .ok (.pop, 1) := by decide +kernel
theorem dX6_pays_139 : decode cX6_pays 139 = .ok (.aload_n 0, 1) := by decide +kernel
theorem dX6_pays_140 : decode cX6_pays 140 = .ok (.getfield 56, 3) := by decide +kernel
theorem dX6_pays_143 : decode cX6_pays 143 = .ok (.iload_n 1, 1) := by decide +kernel
theorem dX6_pays_144 : decode cX6_pays 144 = .ok (.dup2, 1) := by decide +kernel
theorem dX6_pays_145 : decode cX6_pays 145 = .ok (.iaload, 1) := by decide +kernel
theorem dX6_pays_146 : decode cX6_pays 146 = .ok (.iconst 1, 1) := by decide +kernel
theorem dX6_pays_147 : decode cX6_pays 147 = .ok (.iadd, 1) := by decide +kernel
theorem dX6_pays_148 : decode cX6_pays 148 = .ok (.iastore, 1) := by decide +kernel
theorem dX6_pays_149 : decode cX6_pays 149 = .ok (.aload_n 0, 1) := by decide +kernel
theorem dX6_pays_150 : decode cX6_pays 150 = .ok (.getfield 53, 3) := by decide +kernel
theorem dX6_pays_153 : decode cX6_pays 153 = .ok (.iload_n 1, 1) := by decide +kernel
theorem dX6_pays_154 : decode cX6_pays 154 = .ok (.iconst 0, 1) := by decide +kernel
theorem dX6_pays_155 : decode cX6_pays 155 = .ok (.iastore, 1) := by decide +kernel
theorem dX6_pays_156 : decode cX6_pays 156 = .ok (.aload_n 0, 1) := by decide +kernel
theorem dX6_pays_157 : decode cX6_pays 157 = .ok (.getfield 50, 3) := by decide +kernel
theorem dX6_pays_160 : decode cX6_pays 160 = .ok (.iload_n 1, 1) := by decide +kernel
theorem dX6_pays_161 : decode cX6_pays 161 = .ok (.aload_n 0, 1) := by decide +kernel
theorem dX6_pays_162 : decode cX6_pays 162 = .ok (.getfield 107, 3) := by decide +kernel
theorem dX6_pays_165 : decode cX6_pays 165 = .ok (.bipush 30, 2) := by decide +kernel
theorem dX6_pays_167 : decode cX6_pays 167 = .ok (.iadd, 1) := by decide +kernel
theorem dX6_pays_168 : decode cX6_pays 168 = .ok (.iastore, 1) := by decide +kernel
theorem dX6_pays_169 : decode cX6_pays 169 = .ok (.iconst 1, 1) := by decide +kernel
theorem dX6_pays_170 : decode cX6_pays 170 = .ok (.ireturn, 1) := by decide +kernel
theorem dX6_pass_0 : decode cX6_pass 0 = .ok (.aload_n 0, 1) := by decide +kernel
theorem dX6_pass_1 : decode cX6_pass 1 = .ok (.iload_n 1, 1) := by decide +kernel
theorem dX6_pass_2 : decode cX6_pass 2 = .ok (.iconst 1, 1) := by decide +kernel
theorem dX6_pass_3 : decode cX6_pass 3 = .ok (.sipush 400, 3) := by decide +kernel
theorem dX6_pass_6 : decode cX6_pass 6 = .ok (.invokestatic 69, 3) := by decide +kernel
theorem dX6_pass_9 : decode cX6_pass 9 = .ok (.ifCond .ne 7, 3) := by decide +kernel
theorem dX6_pass_12 : decode cX6_pass 12 = .ok (.iconst 1, 1) := by decide +kernel
theorem dX6_pass_13 : decode cX6_pass 13 = .ok (.goto 20, 3) := by decide +kernel
theorem dX6_pass_16 : decode cX6_pass 16 = .ok (.aload_n 0, 1) := by decide +kernel
theorem dX6_pass_17 : decode cX6_pass 17 = .ok (.getfield 107, 3) := by decide +kernel
theorem dX6_pass_20 : decode cX6_pass 20 = .ok (.iload_n 1, 1) := by decide +kernel
theorem dX6_pass_21 : decode cX6_pass 21 = .ok (.iadd, 1) := by decide +kernel
theorem dX6_pass_22 : decode cX6_pass 22 = .ok (.sipush 3600, 3) := by decide +kernel
theorem dX6_pass_25 : decode cX6_pass 25 = .ok (.if_icmp .le 7, 3) := by decide +kernel
theorem dX6_pass_28 : decode cX6_pass 28 = .ok (.iconst 2, 1) := by decide +kernel
theorem dX6_pass_29 : decode cX6_pass 29 = .ok (.goto 4, 3) := by decide +kernel
theorem dX6_pass_32 : decode cX6_pass 32 = .ok (.iconst 0, 1) := by decide +kernel
theorem dX6_pass_33 : decode cX6_pass 33 = .ok (.putfield 65, 3) := by decide +kernel
theorem dX6_pass_36 : decode cX6_pass 36 = .ok (.iconst 0, 1) := by decide +kernel
theorem dX6_pass_37 : decode cX6_pass 37 = .ok (.istore_n 2, 1) := by decide +kernel
theorem dX6_pass_38 : decode cX6_pass 38 = .ok (.iconst 0, 1) := by decide +kernel
theorem dX6_pass_39 : decode cX6_pass 39 = .ok (.istore_n 3, 1) := by decide +kernel
theorem dX6_pass_40 : decode cX6_pass 40 = .ok (.iload_n 3, 1) := by decide +kernel
theorem dX6_pass_41 : decode cX6_pass 41 = .ok (.iload_n 1, 1) := by decide +kernel
theorem dX6_pass_42 : decode cX6_pass 42 = .ok (.if_icmp .ge 135, 3) := by decide +kernel
theorem dX6_pass_45 : decode cX6_pass 45 = .ok (.aload_n 0, 1) := by decide +kernel
theorem dX6_pass_46 : decode cX6_pass 46 = .ok (.getfield 65, 3) := by decide +kernel
theorem dX6_pass_49 : decode cX6_pass 49 = .ok (.ifCond .ne 128, 3) := by decide +kernel
theorem dX6_pass_52 : decode cX6_pass 52 = .ok (.aload_n 0, 1) := by decide +kernel
theorem dX6_pass_53 : decode cX6_pass 53 = .ok (.dup, 1) := by decide +kernel
theorem dX6_pass_54 : decode cX6_pass 54 = .ok (.getfield 107, 3) := by decide +kernel
theorem dX6_pass_57 : decode cX6_pass 57 = .ok (.iconst 1, 1) := by decide +kernel
theorem dX6_pass_58 : decode cX6_pass 58 = .ok (.iadd, 1) := by decide +kernel
theorem dX6_pass_59 : decode cX6_pass 59 = .ok (.putfield 107, 3) := by decide +kernel
theorem dX6_pass_62 : decode cX6_pass 62 = .ok (.aload_n 0, 1) := by decide +kernel
theorem dX6_pass_63 : decode cX6_pass 63 = .ok (.getfield 107, 3) := by decide +kernel
theorem dX6_pass_66 : decode cX6_pass 66 = .ok (.bipush 30, 2) := by decide +kernel
theorem dX6_pass_68 : decode cX6_pass 68 = .ok (.irem, 1) := by decide +kernel
theorem dX6_pass_69 : decode cX6_pass 69 = .ok (.ifCond .ne 16, 3) := by decide +kernel
theorem dX6_pass_72 : decode cX6_pass 72 = .ok (.aload_n 0, 1) := by decide +kernel
theorem dX6_pass_73 : decode cX6_pass 73 = .ok (.aload_n 0, 1) := by decide +kernel
theorem dX6_pass_74 : decode cX6_pass 74 = .ok (.getfield 107, 3) := by decide +kernel
theorem dX6_pass_77 : decode cX6_pass 77 = .ok (.bipush 30, 2) := by decide +kernel
theorem dX6_pass_79 : decode cX6_pass 79 = .ok (.idiv, 1) := by decide +kernel
theorem dX6_pass_80 : decode cX6_pass 80 = .ok (.iconst 1, 1) := by decide +kernel
theorem dX6_pass_81 : decode cX6_pass 81 = .ok (.isub, 1) := by decide +kernel
theorem dX6_pass_82 : decode cX6_pass 82 = .ok (.invokevirtual 137, 3) := by decide +kernel
theorem dX6_pass_85 : decode cX6_pass 85 = .ok (.iconst 0, 1) := by decide +kernel
theorem dX6_pass_86 : decode cX6_pass 86 = .ok (.istore 4, 2) := by decide +kernel
theorem dX6_pass_88 : decode cX6_pass 88 = .ok (.iload 4, 2) := by decide +kernel
theorem dX6_pass_90 : decode cX6_pass 90 = .ok (.aload_n 0, 1) := by decide +kernel
theorem dX6_pass_91 : decode cX6_pass 91 = .ok (.getfield 74, 3) := by decide +kernel
theorem dX6_pass_94 : decode cX6_pass 94 = .ok (.if_icmp .ge 28, 3) := by decide +kernel
theorem dX6_pass_97 : decode cX6_pass 97 = .ok (.aload_n 0, 1) := by decide +kernel
theorem dX6_pass_98 : decode cX6_pass 98 = .ok (.getfield 107, 3) := by decide +kernel
theorem dX6_pass_101 : decode cX6_pass 101 = .ok (.sipush 360, 3) := by decide +kernel
theorem dX6_pass_104 : decode cX6_pass 104 = .ok (.irem, 1) := by decide +kernel
theorem dX6_pass_105 : decode cX6_pass 105 = .ok (.ifCond .ne 17, 3) := by decide +kernel
theorem dX6_pass_108 : decode cX6_pass 108 = .ok (.aload_n 0, 1) := by decide +kernel
theorem dX6_pass_109 : decode cX6_pass 109 = .ok (.getfield 22, 3) := by decide +kernel
theorem dX6_pass_112 : decode cX6_pass 112 = .ok (.iload 4, 2) := by decide +kernel
theorem dX6_pass_114 : decode cX6_pass 114 = .ok (.iconst 0, 1) := by decide +kernel
theorem dX6_pass_115 : decode cX6_pass 115 = .ok (.iastore, 1) := by decide +kernel
theorem dX6_pass_116 : decode cX6_pass 116 = .ok (.iinc 4 1, 3) := by decide +kernel
theorem dX6_pass_119 : decode cX6_pass 119 = .ok (.goto (-31), 3) := by decide +kernel
theorem dX6_pass_122 : decode cX6_pass 122 = .ok (.iconst 0, 1) := by decide +kernel
theorem dX6_pass_123 : decode cX6_pass 123 = .ok (.istore 4, 2) := by decide +kernel
theorem dX6_pass_125 : decode cX6_pass 125 = .ok (.iload 4, 2) := by decide +kernel
theorem dX6_pass_127 : decode cX6_pass 127 = .ok (.aload_n 0, 1) := by decide +kernel
theorem dX6_pass_128 : decode cX6_pass 128 = .ok (.getfield 128, 3) := by decide +kernel
theorem dX6_pass_131 : decode cX6_pass 131 = .ok (.if_icmp .ge 40, 3) := by decide +kernel
theorem dX6_pass_134 : decode cX6_pass 134 = .ok (.iload_n 2, 1) := by decide +kernel
theorem dX6_pass_135 : decode cX6_pass 135 = .ok (.aload_n 0, 1) := by decide +kernel
theorem dX6_pass_136 : decode cX6_pass 136 = .ok (.getfield 50, 3) := by decide +kernel
theorem dX6_pass_139 : decode cX6_pass 139 = .ok (.iload 4, 2) := by decide +kernel
theorem dX6_pass_141 : decode cX6_pass 141 = .ok (.iaload, 1) := by decide +kernel
theorem dX6_pass_142 : decode cX6_pass 142 = .ok (.aload_n 0, 1) := by decide +kernel
theorem dX6_pass_143 : decode cX6_pass 143 = .ok (.getfield 107, 3) := by decide +kernel
theorem dX6_pass_146 : decode cX6_pass 146 = .ok (.if_icmp .ne 16, 3) := by decide +kernel
theorem dX6_pass_149 : decode cX6_pass 149 = .ok (.aload_n 0, 1) := by decide +kernel
theorem dX6_pass_150 : decode cX6_pass 150 = .ok (.iload 4, 2) := by decide +kernel
theorem dX6_pass_152 : decode cX6_pass 152 = .ok (.invokevirtual 141, 3) := by decide +kernel
theorem dX6_pass_155 : decode cX6_pass 155 = .ok (.ifCond .eq 7, 3) := by decide +kernel
theorem dX6_pass_158 : decode cX6_pass 158 = .ok (.iconst 1, 1) := by decide +kernel
theorem dX6_pass_159 : decode cX6_pass 159 = .ok (.goto 4, 3) := by decide +kernel
theorem dX6_pass_162 : decode cX6_pass 162 = .ok (.iconst 0, 1) := by decide +kernel
theorem dX6_pass_163 : decode cX6_pass 163 = .ok (.iadd, 1) := by decide +kernel
theorem dX6_pass_164 : decode cX6_pass 164 = .ok (.istore_n 2, 1) := by decide +kernel
theorem dX6_pass_165 : decode cX6_pass 165 = .ok (.iinc 4 1, 3) := by decide +kernel
theorem dX6_pass_168 : decode cX6_pass 168 = .ok (.goto (-43), 3) := by decide +kernel
theorem dX6_pass_171 : decode cX6_pass 171 = .ok (.iinc 3 1, 3) := by decide +kernel
theorem dX6_pass_174 : decode cX6_pass 174 = .ok (.goto (-134), 3) := by decide +kernel
theorem dX6_pass_177 : decode cX6_pass 177 = .ok (.iload_n 2, 1) := by decide +kernel
theorem dX6_pass_178 : decode cX6_pass 178 = .ok (.ireturn, 1) := by decide +kernel
theorem dX6_day_0 : decode cX6_day 0 = .ok (.aload_n 0, 1) := by decide +kernel
theorem dX6_day_1 : decode cX6_day 1 = .ok (.iconst 0, 1) := by decide +kernel
theorem dX6_day_2 : decode cX6_day 2 = .ok (.putfield 65, 3) := by decide +kernel
theorem dX6_day_5 : decode cX6_day 5 = .ok (.aload_n 0, 1) := by decide +kernel
theorem dX6_day_6 : decode cX6_day 6 = .ok (.getfield 107, 3) := by decide +kernel
theorem dX6_day_9 : decode cX6_day 9 = .ok (.ireturn, 1) := by decide +kernel
theorem dL_setTax_0 : decode cL_setTax 0 = .ok (.aload 4, 2) := by decide +kernel
theorem dL_setTax_2 : decode cL_setTax 2 = .ok (.iconst 0, 1) := by decide +kernel
theorem dL_setTax_3 : decode cL_setTax 3 = .ok (.aload_n 0, 1) := by decide +kernel
theorem dL_setTax_4 : decode cL_setTax 4 = .ok (.iload_n 1, 1) := by decide +kernel
theorem dL_setTax_5 : decode cL_setTax 5 = .ok (.iload_n 2, 1) := by decide +kernel
theorem dL_setTax_6 : decode cL_setTax 6 = .ok (.iload_n 3, 1) := by decide +kernel
theorem dL_setTax_7 : decode cL_setTax 7 = .ok (.invokevirtual 7, 3) := by decide +kernel
theorem dL_setTax_10 : decode cL_setTax 10 = .ok (.i2l, 1) := by decide +kernel
theorem dL_setTax_11 : decode cL_setTax 11 = .ok (.lastore, 1) := by decide +kernel
theorem dL_setTax_12 : decode cL_setTax 12 = .ok (.goto 7, 3) := by decide +kernel
theorem dL_setTax_15 : decode cL_setTax 15 = .ok (.astore 5, 2) := by decide +kernel
theorem dL_setTax_17 : decode cL_setTax 17 = .ok (.iconst 1, 1) := by decide +kernel
theorem dL_setTax_18 : decode cL_setTax 18 = .ok (.ireturn, 1) := by decide +kernel
theorem dL_setTax_19 : decode cL_setTax 19 = .ok (.iconst 0, 1) := by decide +kernel
theorem dL_setTax_20 : decode cL_setTax 20 = .ok (.ireturn, 1) := by decide +kernel
theorem dL_addMaker_0 : decode cL_addMaker 0 = .ok (.aload_n 2, 1) := by decide +kernel
theorem dL_addMaker_1 : decode cL_addMaker 1 = .ok (.iconst 0, 1) := by decide +kernel
theorem dL_addMaker_2 : decode cL_addMaker 2 = .ok (.aload_n 0, 1) := by decide +kernel
theorem dL_addMaker_3 : decode cL_addMaker 3 = .ok (.iload_n 1, 1) := by decide +kernel
theorem dL_addMaker_4 : decode cL_addMaker 4 = .ok (.invokevirtual 15, 3) := by decide +kernel
theorem dL_addMaker_7 : decode cL_addMaker 7 = .ok (.i2l, 1) := by decide +kernel
theorem dL_addMaker_8 : decode cL_addMaker 8 = .ok (.lastore, 1) := by decide +kernel
theorem dL_addMaker_9 : decode cL_addMaker 9 = .ok (.goto 9, 3) := by decide +kernel
theorem dL_addMaker_12 : decode cL_addMaker 12 = .ok (.astore_n 3, 1) := by decide +kernel
theorem dL_addMaker_13 : decode cL_addMaker 13 = .ok (.iconst 1, 1) := by decide +kernel
theorem dL_addMaker_14 : decode cL_addMaker 14 = .ok (.ireturn, 1) := by decide +kernel
theorem dL_addMaker_15 : decode cL_addMaker 15 = .ok (.astore_n 3, 1) := by decide +kernel
theorem dL_addMaker_16 : decode cL_addMaker 16 = .ok (.iconst 2, 1) := by decide +kernel
theorem dL_addMaker_17 : decode cL_addMaker 17 = .ok (.ireturn, 1) := by decide +kernel
theorem dL_addMaker_18 : decode cL_addMaker 18 = .ok (.iconst 0, 1) := by decide +kernel
theorem dL_addMaker_19 : decode cL_addMaker 19 = .ok (.ireturn, 1) := by decide +kernel
theorem dL_addProduct_0 : decode cL_addProduct 0 = .ok (.aload_n 3, 1) := by decide +kernel
theorem dL_addProduct_1 : decode cL_addProduct 1 = .ok (.iconst 0, 1) := by decide +kernel
theorem dL_addProduct_2 : decode cL_addProduct 2 = .ok (.aload_n 0, 1) := by decide +kernel
theorem dL_addProduct_3 : decode cL_addProduct 3 = .ok (.iload_n 1, 1) := by decide +kernel
theorem dL_addProduct_4 : decode cL_addProduct 4 = .ok (.iload_n 2, 1) := by decide +kernel
theorem dL_addProduct_5 : decode cL_addProduct 5 = .ok (.invokevirtual 21, 3) := by decide +kernel
theorem dL_addProduct_8 : decode cL_addProduct 8 = .ok (.i2l, 1) := by decide +kernel
theorem dL_addProduct_9 : decode cL_addProduct 9 = .ok (.lastore, 1) := by decide +kernel
theorem dL_addProduct_10 : decode cL_addProduct 10 = .ok (.goto 15, 3) := by decide +kernel
theorem dL_addProduct_13 : decode cL_addProduct 13 = .ok (.astore 4, 2) := by decide +kernel
theorem dL_addProduct_15 : decode cL_addProduct 15 = .ok (.iconst 1, 1) := by decide +kernel
theorem dL_addProduct_16 : decode cL_addProduct 16 = .ok (.ireturn, 1) := by decide +kernel
theorem dL_addProduct_17 : decode cL_addProduct 17 = .ok (.astore 4, 2) := by decide +kernel
theorem dL_addProduct_19 : decode cL_addProduct 19 = .ok (.iconst 2, 1) := by decide +kernel
theorem dL_addProduct_20 : decode cL_addProduct 20 = .ok (.ireturn, 1) := by decide +kernel
theorem dL_addProduct_21 : decode cL_addProduct 21 = .ok (.astore 4, 2) := by decide +kernel
theorem dL_addProduct_23 : decode cL_addProduct 23 = .ok (.iconst 3, 1) := by decide +kernel
theorem dL_addProduct_24 : decode cL_addProduct 24 = .ok (.ireturn, 1) := by decide +kernel
theorem dL_addProduct_25 : decode cL_addProduct 25 = .ok (.iconst 0, 1) := by decide +kernel
theorem dL_addProduct_26 : decode cL_addProduct 26 = .ok (.ireturn, 1) := by decide +kernel
theorem dL_setPrice_0 : decode cL_setPrice 0 = .ok (.aload 4, 2) := by decide +kernel
theorem dL_setPrice_2 : decode cL_setPrice 2 = .ok (.iconst 0, 1) := by decide +kernel
theorem dL_setPrice_3 : decode cL_setPrice 3 = .ok (.aload_n 0, 1) := by decide +kernel
theorem dL_setPrice_4 : decode cL_setPrice 4 = .ok (.iload_n 1, 1) := by decide +kernel
theorem dL_setPrice_5 : decode cL_setPrice 5 = .ok (.iload_n 2, 1) := by decide +kernel
theorem dL_setPrice_6 : decode cL_setPrice 6 = .ok (.iload_n 3, 1) := by decide +kernel
theorem dL_setPrice_7 : decode cL_setPrice 7 = .ok (.invokevirtual 27, 3) := by decide +kernel
theorem dL_setPrice_10 : decode cL_setPrice 10 = .ok (.i2l, 1) := by decide +kernel
theorem dL_setPrice_11 : decode cL_setPrice 11 = .ok (.lastore, 1) := by decide +kernel
theorem dL_setPrice_12 : decode cL_setPrice 12 = .ok (.goto 11, 3) := by decide +kernel
theorem dL_setPrice_15 : decode cL_setPrice 15 = .ok (.astore 5, 2) := by decide +kernel
theorem dL_setPrice_17 : decode cL_setPrice 17 = .ok (.iconst 1, 1) := by decide +kernel
theorem dL_setPrice_18 : decode cL_setPrice 18 = .ok (.ireturn, 1) := by decide +kernel
theorem dL_setPrice_19 : decode cL_setPrice 19 = .ok (.astore 5, 2) := by decide +kernel
theorem dL_setPrice_21 : decode cL_setPrice 21 = .ok (.iconst 2, 1) := by decide +kernel
theorem dL_setPrice_22 : decode cL_setPrice 22 = .ok (.ireturn, 1) := by decide +kernel
theorem dL_setPrice_23 : decode cL_setPrice 23 = .ok (.iconst 0, 1) := by decide +kernel
theorem dL_setPrice_24 : decode cL_setPrice 24 = .ok (.ireturn, 1) := by decide +kernel
theorem dL_buy_0 : decode cL_buy 0 = .ok (.aload_n 3, 1) := by decide +kernel
theorem dL_buy_1 : decode cL_buy 1 = .ok (.iconst 0, 1) := by decide +kernel
theorem dL_buy_2 : decode cL_buy 2 = .ok (.aload_n 0, 1) := by decide +kernel
theorem dL_buy_3 : decode cL_buy 3 = .ok (.iload_n 1, 1) := by decide +kernel
theorem dL_buy_4 : decode cL_buy 4 = .ok (.iload_n 2, 1) := by decide +kernel
theorem dL_buy_5 : decode cL_buy 5 = .ok (.invokevirtual 31, 3) := by decide +kernel
theorem dL_buy_8 : decode cL_buy 8 = .ok (.i2l, 1) := by decide +kernel
theorem dL_buy_9 : decode cL_buy 9 = .ok (.lastore, 1) := by decide +kernel
theorem dL_buy_10 : decode cL_buy 10 = .ok (.goto 11, 3) := by decide +kernel
theorem dL_buy_13 : decode cL_buy 13 = .ok (.astore 4, 2) := by decide +kernel
theorem dL_buy_15 : decode cL_buy 15 = .ok (.iconst 1, 1) := by decide +kernel
theorem dL_buy_16 : decode cL_buy 16 = .ok (.ireturn, 1) := by decide +kernel
theorem dL_buy_17 : decode cL_buy 17 = .ok (.astore 4, 2) := by decide +kernel
theorem dL_buy_19 : decode cL_buy 19 = .ok (.iconst 2, 1) := by decide +kernel
theorem dL_buy_20 : decode cL_buy 20 = .ok (.ireturn, 1) := by decide +kernel
theorem dL_buy_21 : decode cL_buy 21 = .ok (.iconst 0, 1) := by decide +kernel
theorem dL_buy_22 : decode cL_buy 22 = .ok (.ireturn, 1) := by decide +kernel
theorem dL_refund_0 : decode cL_refund 0 = .ok (.aload_n 2, 1) := by decide +kernel
theorem dL_refund_1 : decode cL_refund 1 = .ok (.iconst 0, 1) := by decide +kernel
theorem dL_refund_2 : decode cL_refund 2 = .ok (.aload_n 0, 1) := by decide +kernel
theorem dL_refund_3 : decode cL_refund 3 = .ok (.iload_n 1, 1) := by decide +kernel
theorem dL_refund_4 : decode cL_refund 4 = .ok (.invokevirtual 34, 3) := by decide +kernel
theorem dL_refund_7 : decode cL_refund 7 = .ok (.i2l, 1) := by decide +kernel
theorem dL_refund_8 : decode cL_refund 8 = .ok (.lastore, 1) := by decide +kernel
theorem dL_refund_9 : decode cL_refund 9 = .ok (.goto 9, 3) := by decide +kernel
theorem dL_refund_12 : decode cL_refund 12 = .ok (.astore_n 3, 1) := by decide +kernel
theorem dL_refund_13 : decode cL_refund 13 = .ok (.iconst 1, 1) := by decide +kernel
theorem dL_refund_14 : decode cL_refund 14 = .ok (.ireturn, 1) := by decide +kernel
theorem dL_refund_15 : decode cL_refund 15 = .ok (.astore_n 3, 1) := by decide +kernel
theorem dL_refund_16 : decode cL_refund 16 = .ok (.iconst 2, 1) := by decide +kernel
theorem dL_refund_17 : decode cL_refund 17 = .ok (.ireturn, 1) := by decide +kernel
theorem dL_refund_18 : decode cL_refund 18 = .ok (.iconst 0, 1) := by decide +kernel
theorem dL_refund_19 : decode cL_refund 19 = .ok (.ireturn, 1) := by decide +kernel
theorem dL_paid_0 : decode cL_paid 0 = .ok (.aload_n 2, 1) := by decide +kernel
theorem dL_paid_1 : decode cL_paid 1 = .ok (.iconst 0, 1) := by decide +kernel
theorem dL_paid_2 : decode cL_paid 2 = .ok (.aload_n 0, 1) := by decide +kernel
theorem dL_paid_3 : decode cL_paid 3 = .ok (.iload_n 1, 1) := by decide +kernel
theorem dL_paid_4 : decode cL_paid 4 = .ok (.invokevirtual 37, 3) := by decide +kernel
theorem dL_paid_7 : decode cL_paid 7 = .ok (.i2l, 1) := by decide +kernel
theorem dL_paid_8 : decode cL_paid 8 = .ok (.lastore, 1) := by decide +kernel
theorem dL_paid_9 : decode cL_paid 9 = .ok (.goto 6, 3) := by decide +kernel
theorem dL_paid_12 : decode cL_paid 12 = .ok (.astore_n 3, 1) := by decide +kernel
theorem dL_paid_13 : decode cL_paid 13 = .ok (.iconst 1, 1) := by decide +kernel
theorem dL_paid_14 : decode cL_paid 14 = .ok (.ireturn, 1) := by decide +kernel
theorem dL_paid_15 : decode cL_paid 15 = .ok (.iconst 0, 1) := by decide +kernel
theorem dL_paid_16 : decode cL_paid 16 = .ok (.ireturn, 1) := by decide +kernel
theorem dL_tax_0 : decode cL_tax 0 = .ok (.aload_n 2, 1) := by decide +kernel
theorem dL_tax_1 : decode cL_tax 1 = .ok (.iconst 0, 1) := by decide +kernel
theorem dL_tax_2 : decode cL_tax 2 = .ok (.aload_n 0, 1) := by decide +kernel
theorem dL_tax_3 : decode cL_tax 3 = .ok (.iload_n 1, 1) := by decide +kernel
theorem dL_tax_4 : decode cL_tax 4 = .ok (.invokevirtual 40, 3) := by decide +kernel
theorem dL_tax_7 : decode cL_tax 7 = .ok (.i2l, 1) := by decide +kernel
theorem dL_tax_8 : decode cL_tax 8 = .ok (.lastore, 1) := by decide +kernel
theorem dL_tax_9 : decode cL_tax 9 = .ok (.goto 6, 3) := by decide +kernel
theorem dL_tax_12 : decode cL_tax 12 = .ok (.astore_n 3, 1) := by decide +kernel
theorem dL_tax_13 : decode cL_tax 13 = .ok (.iconst 1, 1) := by decide +kernel
theorem dL_tax_14 : decode cL_tax 14 = .ok (.ireturn, 1) := by decide +kernel
theorem dL_tax_15 : decode cL_tax 15 = .ok (.iconst 0, 1) := by decide +kernel
theorem dL_tax_16 : decode cL_tax 16 = .ok (.ireturn, 1) := by decide +kernel
theorem dL_shopShare_0 : decode cL_shopShare 0 = .ok (.aload_n 2, 1) := by decide +kernel
theorem dL_shopShare_1 : decode cL_shopShare 1 = .ok (.iconst 0, 1) := by decide +kernel
theorem dL_shopShare_2 : decode cL_shopShare 2 = .ok (.aload_n 0, 1) := by decide +kernel
theorem dL_shopShare_3 : decode cL_shopShare 3 = .ok (.iload_n 1, 1) := by decide +kernel
theorem dL_shopShare_4 : decode cL_shopShare 4 = .ok (.invokevirtual 43, 3) := by decide +kernel
theorem dL_shopShare_7 : decode cL_shopShare 7 = .ok (.i2l, 1) := by decide +kernel
theorem dL_shopShare_8 : decode cL_shopShare 8 = .ok (.lastore, 1) := by decide +kernel
theorem dL_shopShare_9 : decode cL_shopShare 9 = .ok (.goto 6, 3) := by decide +kernel
theorem dL_shopShare_12 : decode cL_shopShare 12 = .ok (.astore_n 3, 1) := by decide +kernel
theorem dL_shopShare_13 : decode cL_shopShare 13 = .ok (.iconst 1, 1) := by decide +kernel
theorem dL_shopShare_14 : decode cL_shopShare 14 = .ok (.ireturn, 1) := by decide +kernel
theorem dL_shopShare_15 : decode cL_shopShare 15 = .ok (.iconst 0, 1) := by decide +kernel
theorem dL_shopShare_16 : decode cL_shopShare 16 = .ok (.ireturn, 1) := by decide +kernel
theorem dL_makerPart_0 : decode cL_makerPart 0 = .ok (.aload_n 2, 1) := by decide +kernel
theorem dL_makerPart_1 : decode cL_makerPart 1 = .ok (.iconst 0, 1) := by decide +kernel
theorem dL_makerPart_2 : decode cL_makerPart 2 = .ok (.aload_n 0, 1) := by decide +kernel
theorem dL_makerPart_3 : decode cL_makerPart 3 = .ok (.iload_n 1, 1) := by decide +kernel
theorem dL_makerPart_4 : decode cL_makerPart 4 = .ok (.invokevirtual 46, 3) := by decide +kernel
theorem dL_makerPart_7 : decode cL_makerPart 7 = .ok (.i2l, 1) := by decide +kernel
theorem dL_makerPart_8 : decode cL_makerPart 8 = .ok (.lastore, 1) := by decide +kernel
theorem dL_makerPart_9 : decode cL_makerPart 9 = .ok (.goto 6, 3) := by decide +kernel
theorem dL_makerPart_12 : decode cL_makerPart 12 = .ok (.astore_n 3, 1) := by decide +kernel
theorem dL_makerPart_13 : decode cL_makerPart 13 = .ok (.iconst 1, 1) := by decide +kernel
theorem dL_makerPart_14 : decode cL_makerPart 14 = .ok (.ireturn, 1) := by decide +kernel
theorem dL_makerPart_15 : decode cL_makerPart 15 = .ok (.iconst 0, 1) := by decide +kernel
theorem dL_makerPart_16 : decode cL_makerPart 16 = .ok (.ireturn, 1) := by decide +kernel
theorem dL_subscribe_0 : decode cL_subscribe 0 = .ok (.aload 5, 2) := by decide +kernel
theorem dL_subscribe_2 : decode cL_subscribe 2 = .ok (.iconst 0, 1) := by decide +kernel
theorem dL_subscribe_3 : decode cL_subscribe 3 = .ok (.aload_n 0, 1) := by decide +kernel
theorem dL_subscribe_4 : decode cL_subscribe 4 = .ok (.iload_n 1, 1) := by decide +kernel
theorem dL_subscribe_5 : decode cL_subscribe 5 = .ok (.iload_n 2, 1) := by decide +kernel
theorem dL_subscribe_6 : decode cL_subscribe 6 = .ok (.iload_n 3, 1) := by decide +kernel
theorem dL_subscribe_7 : decode cL_subscribe 7 = .ok (.iload 4, 2) := by decide +kernel
theorem dL_subscribe_9 : decode cL_subscribe 9 = .ok (.invokevirtual 49, 3) := by decide +kernel
theorem dL_subscribe_12 : decode cL_subscribe 12 = .ok (.i2l, 1) := by decide +kernel
theorem dL_subscribe_13 : decode cL_subscribe 13 = .ok (.lastore, 1) := by decide +kernel
theorem dL_subscribe_14 : decode cL_subscribe 14 = .ok (.goto 15, 3) := by decide +kernel
theorem dL_subscribe_17 : decode cL_subscribe 17 = .ok (.astore 6, 2) := by decide +kernel
theorem dL_subscribe_19 : decode cL_subscribe 19 = .ok (.iconst 1, 1) := by decide +kernel
theorem dL_subscribe_20 : decode cL_subscribe 20 = .ok (.ireturn, 1) := by decide +kernel
theorem dL_subscribe_21 : decode cL_subscribe 21 = .ok (.astore 6, 2) := by decide +kernel
theorem dL_subscribe_23 : decode cL_subscribe 23 = .ok (.iconst 2, 1) := by decide +kernel
theorem dL_subscribe_24 : decode cL_subscribe 24 = .ok (.ireturn, 1) := by decide +kernel
theorem dL_subscribe_25 : decode cL_subscribe 25 = .ok (.astore 6, 2) := by decide +kernel
theorem dL_subscribe_27 : decode cL_subscribe 27 = .ok (.iconst 3, 1) := by decide +kernel
theorem dL_subscribe_28 : decode cL_subscribe 28 = .ok (.ireturn, 1) := by decide +kernel
theorem dL_subscribe_29 : decode cL_subscribe 29 = .ok (.iconst 0, 1) := by decide +kernel
theorem dL_subscribe_30 : decode cL_subscribe 30 = .ok (.ireturn, 1) := by decide +kernel
theorem dL_move_0 : decode cL_move 0 = .ok (.aload_n 3, 1) := by decide +kernel
theorem dL_move_1 : decode cL_move 1 = .ok (.iconst 0, 1) := by decide +kernel
theorem dL_move_2 : decode cL_move 2 = .ok (.aload_n 0, 1) := by decide +kernel
theorem dL_move_3 : decode cL_move 3 = .ok (.iload_n 1, 1) := by decide +kernel
theorem dL_move_4 : decode cL_move 4 = .ok (.iload_n 2, 1) := by decide +kernel
theorem dL_move_5 : decode cL_move 5 = .ok (.invokevirtual 53, 3) := by decide +kernel
theorem dL_move_8 : decode cL_move 8 = .ok (.i2l, 1) := by decide +kernel
theorem dL_move_9 : decode cL_move 9 = .ok (.lastore, 1) := by decide +kernel
theorem dL_move_10 : decode cL_move 10 = .ok (.goto 15, 3) := by decide +kernel
theorem dL_move_13 : decode cL_move 13 = .ok (.astore 4, 2) := by decide +kernel
theorem dL_move_15 : decode cL_move 15 = .ok (.iconst 1, 1) := by decide +kernel
theorem dL_move_16 : decode cL_move 16 = .ok (.ireturn, 1) := by decide +kernel
theorem dL_move_17 : decode cL_move 17 = .ok (.astore 4, 2) := by decide +kernel
theorem dL_move_19 : decode cL_move 19 = .ok (.iconst 2, 1) := by decide +kernel
theorem dL_move_20 : decode cL_move 20 = .ok (.ireturn, 1) := by decide +kernel
theorem dL_move_21 : decode cL_move 21 = .ok (.astore 4, 2) := by decide +kernel
theorem dL_move_23 : decode cL_move 23 = .ok (.iconst 3, 1) := by decide +kernel
theorem dL_move_24 : decode cL_move 24 = .ok (.ireturn, 1) := by decide +kernel
theorem dL_move_25 : decode cL_move 25 = .ok (.iconst 0, 1) := by decide +kernel
theorem dL_move_26 : decode cL_move 26 = .ok (.ireturn, 1) := by decide +kernel
theorem dL_setFailing_0 : decode cL_setFailing 0 = .ok (.aload_n 0, 1) := by decide +kernel
theorem dL_setFailing_1 : decode cL_setFailing 1 = .ok (.iload_n 1, 1) := by decide +kernel
theorem dL_setFailing_2 : decode cL_setFailing 2 = .ok (.iload_n 2, 1) := by decide +kernel
theorem dL_setFailing_3 : decode cL_setFailing 3 = .ok (.invokevirtual 56, 3) := by decide +kernel
theorem dL_setFailing_6 : decode cL_setFailing 6 = .ok (.goto 9, 3) := by decide +kernel
theorem dL_setFailing_9 : decode cL_setFailing 9 = .ok (.astore_n 3, 1) := by decide +kernel
theorem dL_setFailing_10 : decode cL_setFailing 10 = .ok (.iconst 1, 1) := by decide +kernel
theorem dL_setFailing_11 : decode cL_setFailing 11 = .ok (.ireturn, 1) := by decide +kernel
theorem dL_setFailing_12 : decode cL_setFailing 12 = .ok (.astore_n 3, 1) := by decide +kernel
theorem dL_setFailing_13 : decode cL_setFailing 13 = .ok (.iconst 2, 1) := by decide +kernel
theorem dL_setFailing_14 : decode cL_setFailing 14 = .ok (.ireturn, 1) := by decide +kernel
theorem dL_setFailing_15 : decode cL_setFailing 15 = .ok (.iconst 0, 1) := by decide +kernel
theorem dL_setFailing_16 : decode cL_setFailing 16 = .ok (.ireturn, 1) := by decide +kernel
theorem dL_cancel_0 : decode cL_cancel 0 = .ok (.aload_n 2, 1) := by decide +kernel
theorem dL_cancel_1 : decode cL_cancel 1 = .ok (.iconst 0, 1) := by decide +kernel
theorem dL_cancel_2 : decode cL_cancel 2 = .ok (.aload_n 0, 1) := by decide +kernel
theorem dL_cancel_3 : decode cL_cancel 3 = .ok (.iload_n 1, 1) := by decide +kernel
theorem dL_cancel_4 : decode cL_cancel 4 = .ok (.invokevirtual 60, 3) := by decide +kernel
theorem dL_cancel_7 : decode cL_cancel 7 = .ok (.i2l, 1) := by decide +kernel
theorem dL_cancel_8 : decode cL_cancel 8 = .ok (.lastore, 1) := by decide +kernel
theorem dL_cancel_9 : decode cL_cancel 9 = .ok (.goto 9, 3) := by decide +kernel
theorem dL_cancel_12 : decode cL_cancel 12 = .ok (.astore_n 3, 1) := by decide +kernel
theorem dL_cancel_13 : decode cL_cancel 13 = .ok (.iconst 1, 1) := by decide +kernel
theorem dL_cancel_14 : decode cL_cancel 14 = .ok (.ireturn, 1) := by decide +kernel
theorem dL_cancel_15 : decode cL_cancel 15 = .ok (.astore_n 3, 1) := by decide +kernel
theorem dL_cancel_16 : decode cL_cancel 16 = .ok (.iconst 2, 1) := by decide +kernel
theorem dL_cancel_17 : decode cL_cancel 17 = .ok (.ireturn, 1) := by decide +kernel
theorem dL_cancel_18 : decode cL_cancel 18 = .ok (.iconst 0, 1) := by decide +kernel
theorem dL_cancel_19 : decode cL_cancel 19 = .ok (.ireturn, 1) := by decide +kernel
theorem dL_payments_0 : decode cL_payments 0 = .ok (.aload_n 2, 1) := by decide +kernel
theorem dL_payments_1 : decode cL_payments 1 = .ok (.iconst 0, 1) := by decide +kernel
theorem dL_payments_2 : decode cL_payments 2 = .ok (.aload_n 0, 1) := by decide +kernel
theorem dL_payments_3 : decode cL_payments 3 = .ok (.iload_n 1, 1) := by decide +kernel
theorem dL_payments_4 : decode cL_payments 4 = .ok (.invokevirtual 63, 3) := by decide +kernel
theorem dL_payments_7 : decode cL_payments 7 = .ok (.i2l, 1) := by decide +kernel
theorem dL_payments_8 : decode cL_payments 8 = .ok (.lastore, 1) := by decide +kernel
theorem dL_payments_9 : decode cL_payments 9 = .ok (.goto 6, 3) := by decide +kernel
theorem dL_payments_12 : decode cL_payments 12 = .ok (.astore_n 3, 1) := by decide +kernel
theorem dL_payments_13 : decode cL_payments 13 = .ok (.iconst 1, 1) := by decide +kernel
theorem dL_payments_14 : decode cL_payments 14 = .ok (.ireturn, 1) := by decide +kernel
theorem dL_payments_15 : decode cL_payments 15 = .ok (.iconst 0, 1) := by decide +kernel
theorem dL_payments_16 : decode cL_payments 16 = .ok (.ireturn, 1) := by decide +kernel
theorem dL_next_0 : decode cL_next 0 = .ok (.aload_n 2, 1) := by decide +kernel
theorem dL_next_1 : decode cL_next 1 = .ok (.iconst 0, 1) := by decide +kernel
theorem dL_next_2 : decode cL_next 2 = .ok (.aload_n 0, 1) := by decide +kernel
theorem dL_next_3 : decode cL_next 3 = .ok (.iload_n 1, 1) := by decide +kernel
theorem dL_next_4 : decode cL_next 4 = .ok (.invokevirtual 66, 3) := by decide +kernel
theorem dL_next_7 : decode cL_next 7 = .ok (.i2l, 1) := by decide +kernel
theorem dL_next_8 : decode cL_next 8 = .ok (.lastore, 1) := by decide +kernel
theorem dL_next_9 : decode cL_next 9 = .ok (.goto 6, 3) := by decide +kernel
theorem dL_next_12 : decode cL_next 12 = .ok (.astore_n 3, 1) := by decide +kernel
theorem dL_next_13 : decode cL_next 13 = .ok (.iconst 1, 1) := by decide +kernel
theorem dL_next_14 : decode cL_next 14 = .ok (.ireturn, 1) := by decide +kernel
theorem dL_next_15 : decode cL_next 15 = .ok (.iconst 0, 1) := by decide +kernel
theorem dL_next_16 : decode cL_next 16 = .ok (.ireturn, 1) := by decide +kernel
theorem dL_payout_0 : decode cL_payout 0 = .ok (.aload_n 3, 1) := by decide +kernel
theorem dL_payout_1 : decode cL_payout 1 = .ok (.iconst 0, 1) := by decide +kernel
theorem dL_payout_2 : decode cL_payout 2 = .ok (.aload_n 0, 1) := by decide +kernel
theorem dL_payout_3 : decode cL_payout 3 = .ok (.iload_n 1, 1) := by decide +kernel
theorem dL_payout_4 : decode cL_payout 4 = .ok (.iload_n 2, 1) := by decide +kernel
theorem dL_payout_5 : decode cL_payout 5 = .ok (.invokevirtual 69, 3) := by decide +kernel
theorem dL_payout_8 : decode cL_payout 8 = .ok (.i2l, 1) := by decide +kernel
theorem dL_payout_9 : decode cL_payout 9 = .ok (.lastore, 1) := by decide +kernel
theorem dL_payout_10 : decode cL_payout 10 = .ok (.goto 11, 3) := by decide +kernel
theorem dL_payout_13 : decode cL_payout 13 = .ok (.astore 4, 2) := by decide +kernel
theorem dL_payout_15 : decode cL_payout 15 = .ok (.iconst 1, 1) := by decide +kernel
theorem dL_payout_16 : decode cL_payout 16 = .ok (.ireturn, 1) := by decide +kernel
theorem dL_payout_17 : decode cL_payout 17 = .ok (.astore 4, 2) := by decide +kernel
theorem dL_payout_19 : decode cL_payout 19 = .ok (.iconst 2, 1) := by decide +kernel
theorem dL_payout_20 : decode cL_payout 20 = .ok (.ireturn, 1) := by decide +kernel
theorem dL_payout_21 : decode cL_payout 21 = .ok (.iconst 0, 1) := by decide +kernel
theorem dL_payout_22 : decode cL_payout 22 = .ok (.ireturn, 1) := by decide +kernel
theorem dL_carried_0 : decode cL_carried 0 = .ok (.aload_n 2, 1) := by decide +kernel
theorem dL_carried_1 : decode cL_carried 1 = .ok (.iconst 0, 1) := by decide +kernel
theorem dL_carried_2 : decode cL_carried 2 = .ok (.aload_n 0, 1) := by decide +kernel
theorem dL_carried_3 : decode cL_carried 3 = .ok (.iload_n 1, 1) := by decide +kernel
theorem dL_carried_4 : decode cL_carried 4 = .ok (.invokevirtual 72, 3) := by decide +kernel
theorem dL_carried_7 : decode cL_carried 7 = .ok (.i2l, 1) := by decide +kernel
theorem dL_carried_8 : decode cL_carried 8 = .ok (.lastore, 1) := by decide +kernel
theorem dL_carried_9 : decode cL_carried 9 = .ok (.goto 6, 3) := by decide +kernel
theorem dL_carried_12 : decode cL_carried 12 = .ok (.astore_n 3, 1) := by decide +kernel
theorem dL_carried_13 : decode cL_carried 13 = .ok (.iconst 1, 1) := by decide +kernel
theorem dL_carried_14 : decode cL_carried 14 = .ok (.ireturn, 1) := by decide +kernel
theorem dL_carried_15 : decode cL_carried 15 = .ok (.iconst 0, 1) := by decide +kernel
theorem dL_carried_16 : decode cL_carried 16 = .ok (.ireturn, 1) := by decide +kernel
theorem dL_balance_0 : decode cL_balance 0 = .ok (.aload_n 2, 1) := by decide +kernel
theorem dL_balance_1 : decode cL_balance 1 = .ok (.iconst 0, 1) := by decide +kernel
theorem dL_balance_2 : decode cL_balance 2 = .ok (.aload_n 0, 1) := by decide +kernel
theorem dL_balance_3 : decode cL_balance 3 = .ok (.iload_n 1, 1) := by decide +kernel
theorem dL_balance_4 : decode cL_balance 4 = .ok (.invokevirtual 75, 3) := by decide +kernel
theorem dL_balance_7 : decode cL_balance 7 = .ok (.i2l, 1) := by decide +kernel
theorem dL_balance_8 : decode cL_balance 8 = .ok (.lastore, 1) := by decide +kernel
theorem dL_balance_9 : decode cL_balance 9 = .ok (.goto 6, 3) := by decide +kernel
theorem dL_balance_12 : decode cL_balance 12 = .ok (.astore_n 3, 1) := by decide +kernel
theorem dL_balance_13 : decode cL_balance 13 = .ok (.iconst 1, 1) := by decide +kernel
theorem dL_balance_14 : decode cL_balance 14 = .ok (.ireturn, 1) := by decide +kernel
theorem dL_balance_15 : decode cL_balance 15 = .ok (.iconst 0, 1) := by decide +kernel
theorem dL_balance_16 : decode cL_balance 16 = .ok (.ireturn, 1) := by decide +kernel
theorem dL_heldTax_0 : decode cL_heldTax 0 = .ok (.aload_n 2, 1) := by decide +kernel
theorem dL_heldTax_1 : decode cL_heldTax 1 = .ok (.iconst 0, 1) := by decide +kernel
theorem dL_heldTax_2 : decode cL_heldTax 2 = .ok (.aload_n 0, 1) := by decide +kernel
theorem dL_heldTax_3 : decode cL_heldTax 3 = .ok (.iload_n 1, 1) := by decide +kernel
theorem dL_heldTax_4 : decode cL_heldTax 4 = .ok (.invokevirtual 78, 3) := by decide +kernel
theorem dL_heldTax_7 : decode cL_heldTax 7 = .ok (.i2l, 1) := by decide +kernel
theorem dL_heldTax_8 : decode cL_heldTax 8 = .ok (.lastore, 1) := by decide +kernel
theorem dL_heldTax_9 : decode cL_heldTax 9 = .ok (.goto 6, 3) := by decide +kernel
theorem dL_heldTax_12 : decode cL_heldTax 12 = .ok (.astore_n 3, 1) := by decide +kernel
theorem dL_heldTax_13 : decode cL_heldTax 13 = .ok (.iconst 1, 1) := by decide +kernel
theorem dL_heldTax_14 : decode cL_heldTax 14 = .ok (.ireturn, 1) := by decide +kernel
theorem dL_heldTax_15 : decode cL_heldTax 15 = .ok (.iconst 0, 1) := by decide +kernel
theorem dL_heldTax_16 : decode cL_heldTax 16 = .ok (.ireturn, 1) := by decide +kernel
theorem dL_pass_0 : decode cL_pass 0 = .ok (.aload_n 2, 1) := by decide +kernel
theorem dL_pass_1 : decode cL_pass 1 = .ok (.iconst 0, 1) := by decide +kernel
theorem dL_pass_2 : decode cL_pass 2 = .ok (.aload_n 0, 1) := by decide +kernel
theorem dL_pass_3 : decode cL_pass 3 = .ok (.iload_n 1, 1) := by decide +kernel
theorem dL_pass_4 : decode cL_pass 4 = .ok (.invokevirtual 81, 3) := by decide +kernel
theorem dL_pass_7 : decode cL_pass 7 = .ok (.i2l, 1) := by decide +kernel
theorem dL_pass_8 : decode cL_pass 8 = .ok (.lastore, 1) := by decide +kernel
theorem dL_pass_9 : decode cL_pass 9 = .ok (.goto 9, 3) := by decide +kernel
theorem dL_pass_12 : decode cL_pass 12 = .ok (.astore_n 3, 1) := by decide +kernel
theorem dL_pass_13 : decode cL_pass 13 = .ok (.iconst 1, 1) := by decide +kernel
theorem dL_pass_14 : decode cL_pass 14 = .ok (.ireturn, 1) := by decide +kernel
theorem dL_pass_15 : decode cL_pass 15 = .ok (.astore_n 3, 1) := by decide +kernel
theorem dL_pass_16 : decode cL_pass 16 = .ok (.iconst 2, 1) := by decide +kernel
theorem dL_pass_17 : decode cL_pass 17 = .ok (.ireturn, 1) := by decide +kernel
theorem dL_pass_18 : decode cL_pass 18 = .ok (.iconst 0, 1) := by decide +kernel
theorem dL_pass_19 : decode cL_pass 19 = .ok (.ireturn, 1) := by decide +kernel
theorem dL_law_0 : decode cL_law 0 = .ok (.new 8, 3) := by decide +kernel
theorem dL_law_3 : decode cL_law 3 = .ok (.dup, 1) := by decide +kernel
theorem dL_law_4 : decode cL_law 4 = .ok (.invokespecial 84, 3) := by decide +kernel
theorem dL_law_7 : decode cL_law 7 = .ok (.astore_n 1, 1) := by decide +kernel
theorem dL_law_8 : decode cL_law 8 = .ok (.new 85, 3) := by decide +kernel
theorem dL_law_11 : decode cL_law 11 = .ok (.dup, 1) := by decide +kernel
theorem dL_law_12 : decode cL_law 12 = .ok (.invokespecial 87, 3) := by decide +kernel
theorem dL_law_15 : decode cL_law 15 = .ok (.astore_n 2, 1) := by decide +kernel
theorem dL_law_16 : decode cL_law 16 = .ok (.iconst 1, 1) := by decide +kernel
theorem dL_law_17 : decode cL_law 17 = .ok (.newarray .long, 2) := by decide +kernel
theorem dL_law_19 : decode cL_law 19 = .ok (.astore_n 3, 1) := by decide +kernel
theorem dL_law_20 : decode cL_law 20 = .ok (.iconst 0, 1) := by decide +kernel
theorem dL_law_21 : decode cL_law 21 = .ok (.istore 4, 2) := by decide +kernel
theorem dL_law_23 : decode cL_law 23 = .ok (.iload 4, 2) := by decide +kernel
theorem dL_law_25 : decode cL_law 25 = .ok (.aload_n 0, 1) := by decide +kernel
theorem dL_law_26 : decode cL_law 26 = .ok (.arraylength, 1) := by decide +kernel
theorem dL_law_27 : decode cL_law 27 = .ok (.iconst 5, 1) := by decide +kernel
theorem dL_law_28 : decode cL_law 28 = .ok (.isub, 1) := by decide +kernel
theorem dL_law_29 : decode cL_law 29 = .ok (.if_icmp .gt 1529, 3) := by decide +kernel
theorem dL_law_32 : decode cL_law 32 = .ok (.aload_n 0, 1) := by decide +kernel
theorem dL_law_33 : decode cL_law 33 = .ok (.iload 4, 2) := by decide +kernel
theorem dL_law_35 : decode cL_law 35 = .ok (.iaload, 1) := by decide +kernel
theorem dL_law_36 : decode cL_law 36 = .ok (.bipush 31, 2) := by decide +kernel
theorem dL_law_38 : decode cL_law 38 = .ok (.iand, 1) := by decide +kernel
theorem dL_law_39 : decode cL_law 39 = .ok (.tableswitch 1513 0 24 #[113, 209, 265, 333, 413, 481, 537, 550, 606, 662, 718, 774, 882, 950, 1014, 1070, 1126, 1182, 1250, 1306, 1362, 1418, 1431, 1444, 1500], 113) := by decide +kernel
theorem dL_law_152 : decode cL_law 152 = .ok (.aload_n 1, 1) := by decide +kernel
theorem dL_law_153 : decode cL_law 153 = .ok (.aload_n 0, 1) := by decide +kernel
theorem dL_law_154 : decode cL_law 154 = .ok (.iload 4, 2) := by decide +kernel
theorem dL_law_156 : decode cL_law 156 = .ok (.iconst 1, 1) := by decide +kernel
theorem dL_law_157 : decode cL_law 157 = .ok (.iadd, 1) := by decide +kernel
theorem dL_law_158 : decode cL_law 158 = .ok (.iaload, 1) := by decide +kernel
theorem dL_law_159 : decode cL_law 159 = .ok (.aload_n 0, 1) := by decide +kernel
theorem dL_law_160 : decode cL_law 160 = .ok (.iload 4, 2) := by decide +kernel
theorem dL_law_162 : decode cL_law 162 = .ok (.iconst 2, 1) := by decide +kernel
theorem dL_law_163 : decode cL_law 163 = .ok (.iadd, 1) := by decide +kernel
theorem dL_law_164 : decode cL_law 164 = .ok (.iaload, 1) := by decide +kernel
theorem dL_law_165 : decode cL_law 165 = .ok (.aload_n 0, 1) := by decide +kernel
theorem dL_law_166 : decode cL_law 166 = .ok (.iload 4, 2) := by decide +kernel
theorem dL_law_168 : decode cL_law 168 = .ok (.iconst 3, 1) := by decide +kernel
theorem dL_law_169 : decode cL_law 169 = .ok (.iadd, 1) := by decide +kernel
theorem dL_law_170 : decode cL_law 170 = .ok (.iaload, 1) := by decide +kernel
theorem dL_law_171 : decode cL_law 171 = .ok (.ifCond .eq 7, 3) := by decide +kernel
theorem dL_law_174 : decode cL_law 174 = .ok (.iconst 1, 1) := by decide +kernel
theorem dL_law_175 : decode cL_law 175 = .ok (.goto 4, 3) := by decide +kernel
theorem dL_law_178 : decode cL_law 178 = .ok (.iconst 0, 1) := by decide +kernel
theorem dL_law_179 : decode cL_law 179 = .ok (.aload_n 3, 1) := by decide +kernel
theorem dL_law_180 : decode cL_law 180 = .ok (.invokestatic 88, 3) := by decide +kernel
theorem dL_law_183 : decode cL_law 183 = .ok (.istore 5, 2) := by decide +kernel
theorem dL_law_185 : decode cL_law 185 = .ok (.aload_n 2, 1) := by decide +kernel
theorem dL_law_186 : decode cL_law 186 = .ok (.aload_n 0, 1) := by decide +kernel
theorem dL_law_187 : decode cL_law 187 = .ok (.iload 4, 2) := by decide +kernel
theorem dL_law_189 : decode cL_law 189 = .ok (.iconst 1, 1) := by decide +kernel
theorem dL_law_190 : decode cL_law 190 = .ok (.iadd, 1) := by decide +kernel
theorem dL_law_191 : decode cL_law 191 = .ok (.iaload, 1) := by decide +kernel
theorem dL_law_192 : decode cL_law 192 = .ok (.aload_n 0, 1) := by decide +kernel
theorem dL_law_193 : decode cL_law 193 = .ok (.iload 4, 2) := by decide +kernel
theorem dL_law_195 : decode cL_law 195 = .ok (.iconst 2, 1) := by decide +kernel
theorem dL_law_196 : decode cL_law 196 = .ok (.iadd, 1) := by decide +kernel
theorem dL_law_197 : decode cL_law 197 = .ok (.iaload, 1) := by decide +kernel
theorem dL_law_198 : decode cL_law 198 = .ok (.aload_n 0, 1) := by decide +kernel
theorem dL_law_199 : decode cL_law 199 = .ok (.iload 4, 2) := by decide +kernel
theorem dL_law_201 : decode cL_law 201 = .ok (.iconst 3, 1) := by decide +kernel
theorem dL_law_202 : decode cL_law 202 = .ok (.iadd, 1) := by decide +kernel
theorem dL_law_203 : decode cL_law 203 = .ok (.iaload, 1) := by decide +kernel
theorem dL_law_204 : decode cL_law 204 = .ok (.ifCond .eq 7, 3) := by decide +kernel
theorem dL_law_207 : decode cL_law 207 = .ok (.iconst 1, 1) := by decide +kernel
theorem dL_law_208 : decode cL_law 208 = .ok (.goto 4, 3) := by decide +kernel
theorem dL_law_211 : decode cL_law 211 = .ok (.iconst 0, 1) := by decide +kernel
theorem dL_law_212 : decode cL_law 212 = .ok (.invokevirtual 93, 3) := by decide +kernel
theorem dL_law_215 : decode cL_law 215 = .ok (.istore 6, 2) := by decide +kernel
theorem dL_law_217 : decode cL_law 217 = .ok (.aload_n 2, 1) := by decide +kernel
theorem dL_law_218 : decode cL_law 218 = .ok (.invokevirtual 94, 3) := by decide +kernel
theorem dL_law_221 : decode cL_law 221 = .ok (.iload 5, 2) := by decide +kernel
theorem dL_law_223 : decode cL_law 223 = .ok (.if_icmp .eq 5, 3) := by decide +kernel
theorem dL_law_226 : decode cL_law 226 = .ok (.iconst 0, 1) := by decide +kernel
theorem dL_law_227 : decode cL_law 227 = .ok (.ireturn, 1) := by decide +kernel
theorem dL_law_228 : decode cL_law 228 = .ok (.iload 5, 2) := by decide +kernel
theorem dL_law_230 : decode cL_law 230 = .ok (.ifCond .ne 15, 3) := by decide +kernel
theorem dL_law_233 : decode cL_law 233 = .ok (.aload_n 3, 1) := by decide +kernel
theorem dL_law_234 : decode cL_law 234 = .ok (.iconst 0, 1) := by decide +kernel
theorem dL_law_235 : decode cL_law 235 = .ok (.laload, 1) := by decide +kernel
theorem dL_law_236 : decode cL_law 236 = .ok (.iload 6, 2) := by decide +kernel
theorem dL_law_238 : decode cL_law 238 = .ok (.i2l, 1) := by decide +kernel
theorem dL_law_239 : decode cL_law 239 = .ok (.lcmp, 1) := by decide +kernel
theorem dL_law_240 : decode cL_law 240 = .ok (.ifCond .eq 5, 3) := by decide +kernel
theorem dL_law_243 : decode cL_law 243 = .ok (.iconst 0, 1) := by decide +kernel
theorem dL_law_244 : decode cL_law 244 = .ok (.ireturn, 1) := by decide +kernel
theorem dL_law_245 : decode cL_law 245 = .ok (.goto 1307, 3) := by decide +kernel
theorem dL_law_248 : decode cL_law 248 = .ok (.aload_n 1, 1) := by decide +kernel
theorem dL_law_249 : decode cL_law 249 = .ok (.aload_n 0, 1) := by decide +kernel
theorem dL_law_250 : decode cL_law 250 = .ok (.iload 4, 2) := by decide +kernel
theorem dL_law_252 : decode cL_law 252 = .ok (.iconst 1, 1) := by decide +kernel
theorem dL_law_253 : decode cL_law 253 = .ok (.iadd, 1) := by decide +kernel
theorem dL_law_254 : decode cL_law 254 = .ok (.iaload, 1) := by decide +kernel
theorem dL_law_255 : decode cL_law 255 = .ok (.aload_n 3, 1) := by decide +kernel
theorem dL_law_256 : decode cL_law 256 = .ok (.invokestatic 98, 3) := by decide +kernel
theorem dL_law_259 : decode cL_law 259 = .ok (.istore 5, 2) := by decide +kernel
theorem dL_law_261 : decode cL_law 261 = .ok (.aload_n 2, 1) := by decide +kernel
theorem dL_law_262 : decode cL_law 262 = .ok (.aload_n 0, 1) := by decide +kernel
theorem dL_law_263 : decode cL_law 263 = .ok (.iload 4, 2) := by decide +kernel
theorem dL_law_265 : decode cL_law 265 = .ok (.iconst 1, 1) := by decide +kernel
theorem dL_law_266 : decode cL_law 266 = .ok (.iadd, 1) := by decide +kernel
theorem dL_law_267 : decode cL_law 267 = .ok (.iaload, 1) := by decide +kernel
theorem dL_law_268 : decode cL_law 268 = .ok (.invokevirtual 101, 3) := by decide +kernel
theorem dL_law_271 : decode cL_law 271 = .ok (.istore 6, 2) := by decide +kernel
theorem dL_law_273 : decode cL_law 273 = .ok (.aload_n 2, 1) := by decide +kernel
theorem dL_law_274 : decode cL_law 274 = .ok (.invokevirtual 94, 3) := by decide +kernel
theorem dL_law_277 : decode cL_law 277 = .ok (.iload 5, 2) := by decide +kernel
theorem dL_law_279 : decode cL_law 279 = .ok (.if_icmp .eq 5, 3) := by decide +kernel
theorem dL_law_282 : decode cL_law 282 = .ok (.iconst 0, 1) := by decide +kernel
theorem dL_law_283 : decode cL_law 283 = .ok (.ireturn, 1) := by decide +kernel
theorem dL_law_284 : decode cL_law 284 = .ok (.iload 5, 2) := by decide +kernel
theorem dL_law_286 : decode cL_law 286 = .ok (.ifCond .ne 15, 3) := by decide +kernel
theorem dL_law_289 : decode cL_law 289 = .ok (.aload_n 3, 1) := by decide +kernel
theorem dL_law_290 : decode cL_law 290 = .ok (.iconst 0, 1) := by decide +kernel
theorem dL_law_291 : decode cL_law 291 = .ok (.laload, 1) := by decide +kernel
theorem dL_law_292 : decode cL_law 292 = .ok (.iload 6, 2) := by decide +kernel
theorem dL_law_294 : decode cL_law 294 = .ok (.i2l, 1) := by decide +kernel
theorem dL_law_295 : decode cL_law 295 = .ok (.lcmp, 1) := by decide +kernel
theorem dL_law_296 : decode cL_law 296 = .ok (.ifCond .eq 5, 3) := by decide +kernel
theorem dL_law_299 : decode cL_law 299 = .ok (.iconst 0, 1) := by decide +kernel
theorem dL_law_300 : decode cL_law 300 = .ok (.ireturn, 1) := by decide +kernel
theorem dL_law_301 : decode cL_law 301 = .ok (.goto 1251, 3) := by decide +kernel
theorem dL_law_304 : decode cL_law 304 = .ok (.aload_n 1, 1) := by decide +kernel
theorem dL_law_305 : decode cL_law 305 = .ok (.aload_n 0, 1) := by decide +kernel
theorem dL_law_306 : decode cL_law 306 = .ok (.iload 4, 2) := by decide +kernel
theorem dL_law_308 : decode cL_law 308 = .ok (.iconst 1, 1) := by decide +kernel
theorem dL_law_309 : decode cL_law 309 = .ok (.iadd, 1) := by decide +kernel
theorem dL_law_310 : decode cL_law 310 = .ok (.iaload, 1) := by decide +kernel
theorem dL_law_311 : decode cL_law 311 = .ok (.aload_n 0, 1) := by decide +kernel
theorem dL_law_312 : decode cL_law 312 = .ok (.iload 4, 2) := by decide +kernel
theorem dL_law_314 : decode cL_law 314 = .ok (.iconst 2, 1) := by decide +kernel
theorem dL_law_315 : decode cL_law 315 = .ok (.iadd, 1) := by decide +kernel
theorem dL_law_316 : decode cL_law 316 = .ok (.iaload, 1) := by decide +kernel
theorem dL_law_317 : decode cL_law 317 = .ok (.aload_n 3, 1) := by decide +kernel
theorem dL_law_318 : decode cL_law 318 = .ok (.invokestatic 102, 3) := by decide +kernel
theorem dL_law_321 : decode cL_law 321 = .ok (.istore 5, 2) := by decide +kernel
theorem dL_law_323 : decode cL_law 323 = .ok (.aload_n 2, 1) := by decide +kernel
theorem dL_law_324 : decode cL_law 324 = .ok (.aload_n 0, 1) := by decide +kernel
theorem dL_law_325 : decode cL_law 325 = .ok (.iload 4, 2) := by decide +kernel
theorem dL_law_327 : decode cL_law 327 = .ok (.iconst 1, 1) := by decide +kernel
theorem dL_law_328 : decode cL_law 328 = .ok (.iadd, 1) := by decide +kernel
theorem dL_law_329 : decode cL_law 329 = .ok (.iaload, 1) := by decide +kernel
theorem dL_law_330 : decode cL_law 330 = .ok (.aload_n 0, 1) := by decide +kernel
theorem dL_law_331 : decode cL_law 331 = .ok (.iload 4, 2) := by decide +kernel
theorem dL_law_333 : decode cL_law 333 = .ok (.iconst 2, 1) := by decide +kernel
theorem dL_law_334 : decode cL_law 334 = .ok (.iadd, 1) := by decide +kernel
theorem dL_law_335 : decode cL_law 335 = .ok (.iaload, 1) := by decide +kernel
theorem dL_law_336 : decode cL_law 336 = .ok (.invokevirtual 105, 3) := by decide +kernel
theorem dL_law_339 : decode cL_law 339 = .ok (.istore 6, 2) := by decide +kernel
theorem dL_law_341 : decode cL_law 341 = .ok (.aload_n 2, 1) := by decide +kernel
theorem dL_law_342 : decode cL_law 342 = .ok (.invokevirtual 94, 3) := by decide +kernel
theorem dL_law_345 : decode cL_law 345 = .ok (.iload 5, 2) := by decide +kernel
theorem dL_law_347 : decode cL_law 347 = .ok (.if_icmp .eq 5, 3) := by decide +kernel
theorem dL_law_350 : decode cL_law 350 = .ok (.iconst 0, 1) := by decide +kernel
theorem dL_law_351 : decode cL_law 351 = .ok (.ireturn, 1) := by decide +kernel
theorem dL_law_352 : decode cL_law 352 = .ok (.iload 5, 2) := by decide +kernel
theorem dL_law_354 : decode cL_law 354 = .ok (.ifCond .ne 15, 3) := by decide +kernel
theorem dL_law_357 : decode cL_law 357 = .ok (.aload_n 3, 1) := by decide +kernel
theorem dL_law_358 : decode cL_law 358 = .ok (.iconst 0, 1) := by decide +kernel
theorem dL_law_359 : decode cL_law 359 = .ok (.laload, 1) := by decide +kernel
theorem dL_law_360 : decode cL_law 360 = .ok (.iload 6, 2) := by decide +kernel
theorem dL_law_362 : decode cL_law 362 = .ok (.i2l, 1) := by decide +kernel
theorem dL_law_363 : decode cL_law 363 = .ok (.lcmp, 1) := by decide +kernel
theorem dL_law_364 : decode cL_law 364 = .ok (.ifCond .eq 5, 3) := by decide +kernel
theorem dL_law_367 : decode cL_law 367 = .ok (.iconst 0, 1) := by decide +kernel
theorem dL_law_368 : decode cL_law 368 = .ok (.ireturn, 1) := by decide +kernel
theorem dL_law_369 : decode cL_law 369 = .ok (.goto 1183, 3) := by decide +kernel
theorem dL_law_372 : decode cL_law 372 = .ok (.aload_n 1, 1) := by decide +kernel
theorem dL_law_373 : decode cL_law 373 = .ok (.aload_n 0, 1) := by decide +kernel
theorem dL_law_374 : decode cL_law 374 = .ok (.iload 4, 2) := by decide +kernel
theorem dL_law_376 : decode cL_law 376 = .ok (.iconst 1, 1) := by decide +kernel
theorem dL_law_377 : decode cL_law 377 = .ok (.iadd, 1) := by decide +kernel
theorem dL_law_378 : decode cL_law 378 = .ok (.iaload, 1) := by decide +kernel
theorem dL_law_379 : decode cL_law 379 = .ok (.aload_n 0, 1) := by decide +kernel
theorem dL_law_380 : decode cL_law 380 = .ok (.iload 4, 2) := by decide +kernel
theorem dL_law_382 : decode cL_law 382 = .ok (.iconst 2, 1) := by decide +kernel
theorem dL_law_383 : decode cL_law 383 = .ok (.iadd, 1) := by decide +kernel
theorem dL_law_384 : decode cL_law 384 = .ok (.iaload, 1) := by decide +kernel
theorem dL_law_385 : decode cL_law 385 = .ok (.aload_n 0, 1) := by decide +kernel
theorem dL_law_386 : decode cL_law 386 = .ok (.iload 4, 2) := by decide +kernel
theorem dL_law_388 : decode cL_law 388 = .ok (.iconst 3, 1) := by decide +kernel
theorem dL_law_389 : decode cL_law 389 = .ok (.iadd, 1) := by decide +kernel
theorem dL_law_390 : decode cL_law 390 = .ok (.iaload, 1) := by decide +kernel
theorem dL_law_391 : decode cL_law 391 = .ok (.aload_n 3, 1) := by decide +kernel
theorem dL_law_392 : decode cL_law 392 = .ok (.invokestatic 106, 3) := by decide +kernel
theorem dL_law_395 : decode cL_law 395 = .ok (.istore 5, 2) := by decide +kernel
theorem dL_law_397 : decode cL_law 397 = .ok (.aload_n 2, 1) := by decide +kernel
theorem dL_law_398 : decode cL_law 398 = .ok (.aload_n 0, 1) := by decide +kernel
theorem dL_law_399 : decode cL_law 399 = .ok (.iload 4, 2) := by decide +kernel
theorem dL_law_401 : decode cL_law 401 = .ok (.iconst 1, 1) := by decide +kernel
theorem dL_law_402 : decode cL_law 402 = .ok (.iadd, 1) := by decide +kernel
theorem dL_law_403 : decode cL_law 403 = .ok (.iaload, 1) := by decide +kernel
theorem dL_law_404 : decode cL_law 404 = .ok (.aload_n 0, 1) := by decide +kernel
theorem dL_law_405 : decode cL_law 405 = .ok (.iload 4, 2) := by decide +kernel
theorem dL_law_407 : decode cL_law 407 = .ok (.iconst 2, 1) := by decide +kernel
theorem dL_law_408 : decode cL_law 408 = .ok (.iadd, 1) := by decide +kernel
theorem dL_law_409 : decode cL_law 409 = .ok (.iaload, 1) := by decide +kernel
theorem dL_law_410 : decode cL_law 410 = .ok (.aload_n 0, 1) := by decide +kernel
theorem dL_law_411 : decode cL_law 411 = .ok (.iload 4, 2) := by decide +kernel
theorem dL_law_413 : decode cL_law 413 = .ok (.iconst 3, 1) := by decide +kernel
theorem dL_law_414 : decode cL_law 414 = .ok (.iadd, 1) := by decide +kernel
theorem dL_law_415 : decode cL_law 415 = .ok (.iaload, 1) := by decide +kernel
theorem dL_law_416 : decode cL_law 416 = .ok (.invokevirtual 109, 3) := by decide +kernel
theorem dL_law_419 : decode cL_law 419 = .ok (.istore 6, 2) := by decide +kernel
theorem dL_law_421 : decode cL_law 421 = .ok (.aload_n 2, 1) := by decide +kernel
theorem dL_law_422 : decode cL_law 422 = .ok (.invokevirtual 94, 3) := by decide +kernel
theorem dL_law_425 : decode cL_law 425 = .ok (.iload 5, 2) := by decide +kernel
theorem dL_law_427 : decode cL_law 427 = .ok (.if_icmp .eq 5, 3) := by decide +kernel
theorem dL_law_430 : decode cL_law 430 = .ok (.iconst 0, 1) := by decide +kernel
theorem dL_law_431 : decode cL_law 431 = .ok (.ireturn, 1) := by decide +kernel
theorem dL_law_432 : decode cL_law 432 = .ok (.iload 5, 2) := by decide +kernel
theorem dL_law_434 : decode cL_law 434 = .ok (.ifCond .ne 15, 3) := by decide +kernel
theorem dL_law_437 : decode cL_law 437 = .ok (.aload_n 3, 1) := by decide +kernel
theorem dL_law_438 : decode cL_law 438 = .ok (.iconst 0, 1) := by decide +kernel
theorem dL_law_439 : decode cL_law 439 = .ok (.laload, 1) := by decide +kernel
theorem dL_law_440 : decode cL_law 440 = .ok (.iload 6, 2) := by decide +kernel
theorem dL_law_442 : decode cL_law 442 = .ok (.i2l, 1) := by decide +kernel
theorem dL_law_443 : decode cL_law 443 = .ok (.lcmp, 1) := by decide +kernel
theorem dL_law_444 : decode cL_law 444 = .ok (.ifCond .eq 5, 3) := by decide +kernel
theorem dL_law_447 : decode cL_law 447 = .ok (.iconst 0, 1) := by decide +kernel
theorem dL_law_448 : decode cL_law 448 = .ok (.ireturn, 1) := by decide +kernel
theorem dL_law_449 : decode cL_law 449 = .ok (.goto 1103, 3) := by decide +kernel
theorem dL_law_452 : decode cL_law 452 = .ok (.aload_n 1, 1) := by decide +kernel
theorem dL_law_453 : decode cL_law 453 = .ok (.aload_n 0, 1) := by decide +kernel
theorem dL_law_454 : decode cL_law 454 = .ok (.iload 4, 2) := by decide +kernel
theorem dL_law_456 : decode cL_law 456 = .ok (.iconst 1, 1) := by decide +kernel
theorem dL_law_457 : decode cL_law 457 = .ok (.iadd, 1) := by decide +kernel
theorem dL_law_458 : decode cL_law 458 = .ok (.iaload, 1) := by decide +kernel
theorem dL_law_459 : decode cL_law 459 = .ok (.aload_n 0, 1) := by decide +kernel
theorem dL_law_460 : decode cL_law 460 = .ok (.iload 4, 2) := by decide +kernel
theorem dL_law_462 : decode cL_law 462 = .ok (.iconst 2, 1) := by decide +kernel
theorem dL_law_463 : decode cL_law 463 = .ok (.iadd, 1) := by decide +kernel
theorem dL_law_464 : decode cL_law 464 = .ok (.iaload, 1) := by decide +kernel
theorem dL_law_465 : decode cL_law 465 = .ok (.aload_n 3, 1) := by decide +kernel
theorem dL_law_466 : decode cL_law 466 = .ok (.invokestatic 110, 3) := by decide +kernel
theorem dL_law_469 : decode cL_law 469 = .ok (.istore 5, 2) := by decide +kernel
theorem dL_law_471 : decode cL_law 471 = .ok (.aload_n 2, 1) := by decide +kernel
theorem dL_law_472 : decode cL_law 472 = .ok (.aload_n 0, 1) := by decide +kernel
theorem dL_law_473 : decode cL_law 473 = .ok (.iload 4, 2) := by decide +kernel
theorem dL_law_475 : decode cL_law 475 = .ok (.iconst 1, 1) := by decide +kernel
theorem dL_law_476 : decode cL_law 476 = .ok (.iadd, 1) := by decide +kernel
theorem dL_law_477 : decode cL_law 477 = .ok (.iaload, 1) := by decide +kernel
theorem dL_law_478 : decode cL_law 478 = .ok (.aload_n 0, 1) := by decide +kernel
theorem dL_law_479 : decode cL_law 479 = .ok (.iload 4, 2) := by decide +kernel
theorem dL_law_481 : decode cL_law 481 = .ok (.iconst 2, 1) := by decide +kernel
theorem dL_law_482 : decode cL_law 482 = .ok (.iadd, 1) := by decide +kernel
theorem dL_law_483 : decode cL_law 483 = .ok (.iaload, 1) := by decide +kernel
theorem dL_law_484 : decode cL_law 484 = .ok (.invokevirtual 112, 3) := by decide +kernel
theorem dL_law_487 : decode cL_law 487 = .ok (.istore 6, 2) := by decide +kernel
theorem dL_law_489 : decode cL_law 489 = .ok (.aload_n 2, 1) := by decide +kernel
theorem dL_law_490 : decode cL_law 490 = .ok (.invokevirtual 94, 3) := by decide +kernel
theorem dL_law_493 : decode cL_law 493 = .ok (.iload 5, 2) := by decide +kernel
theorem dL_law_495 : decode cL_law 495 = .ok (.if_icmp .eq 5, 3) := by decide +kernel
theorem dL_law_498 : decode cL_law 498 = .ok (.iconst 0, 1) := by decide +kernel
theorem dL_law_499 : decode cL_law 499 = .ok (.ireturn, 1) := by decide +kernel
theorem dL_law_500 : decode cL_law 500 = .ok (.iload 5, 2) := by decide +kernel
theorem dL_law_502 : decode cL_law 502 = .ok (.ifCond .ne 15, 3) := by decide +kernel
theorem dL_law_505 : decode cL_law 505 = .ok (.aload_n 3, 1) := by decide +kernel
theorem dL_law_506 : decode cL_law 506 = .ok (.iconst 0, 1) := by decide +kernel
theorem dL_law_507 : decode cL_law 507 = .ok (.laload, 1) := by decide +kernel
theorem dL_law_508 : decode cL_law 508 = .ok (.iload 6, 2) := by decide +kernel
theorem dL_law_510 : decode cL_law 510 = .ok (.i2l, 1) := by decide +kernel
theorem dL_law_511 : decode cL_law 511 = .ok (.lcmp, 1) := by decide +kernel
theorem dL_law_512 : decode cL_law 512 = .ok (.ifCond .eq 5, 3) := by decide +kernel
theorem dL_law_515 : decode cL_law 515 = .ok (.iconst 0, 1) := by decide +kernel
theorem dL_law_516 : decode cL_law 516 = .ok (.ireturn, 1) := by decide +kernel
theorem dL_law_517 : decode cL_law 517 = .ok (.goto 1035, 3) := by decide +kernel
theorem dL_law_520 : decode cL_law 520 = .ok (.aload_n 1, 1) := by decide +kernel
theorem dL_law_521 : decode cL_law 521 = .ok (.aload_n 0, 1) := by decide +kernel
theorem dL_law_522 : decode cL_law 522 = .ok (.iload 4, 2) := by decide +kernel
theorem dL_law_524 : decode cL_law 524 = .ok (.iconst 1, 1) := by decide +kernel
theorem dL_law_525 : decode cL_law 525 = .ok (.iadd, 1) := by decide +kernel
theorem dL_law_526 : decode cL_law 526 = .ok (.iaload, 1) := by decide +kernel
theorem dL_law_527 : decode cL_law 527 = .ok (.aload_n 3, 1) := by decide +kernel
theorem dL_law_528 : decode cL_law 528 = .ok (.invokestatic 113, 3) := by decide +kernel
theorem dL_law_531 : decode cL_law 531 = .ok (.istore 5, 2) := by decide +kernel
theorem dL_law_533 : decode cL_law 533 = .ok (.aload_n 2, 1) := by decide +kernel
theorem dL_law_534 : decode cL_law 534 = .ok (.aload_n 0, 1) := by decide +kernel
theorem dL_law_535 : decode cL_law 535 = .ok (.iload 4, 2) := by decide +kernel
theorem dL_law_537 : decode cL_law 537 = .ok (.iconst 1, 1) := by decide +kernel
theorem dL_law_538 : decode cL_law 538 = .ok (.iadd, 1) := by decide +kernel
theorem dL_law_539 : decode cL_law 539 = .ok (.iaload, 1) := by decide +kernel
theorem dL_law_540 : decode cL_law 540 = .ok (.invokevirtual 115, 3) := by decide +kernel
theorem dL_law_543 : decode cL_law 543 = .ok (.istore 6, 2) := by decide +kernel
theorem dL_law_545 : decode cL_law 545 = .ok (.aload_n 2, 1) := by decide +kernel
theorem dL_law_546 : decode cL_law 546 = .ok (.invokevirtual 94, 3) := by decide +kernel
theorem dL_law_549 : decode cL_law 549 = .ok (.iload 5, 2) := by decide +kernel
theorem dL_law_551 : decode cL_law 551 = .ok (.if_icmp .eq 5, 3) := by decide +kernel
theorem dL_law_554 : decode cL_law 554 = .ok (.iconst 0, 1) := by decide +kernel
theorem dL_law_555 : decode cL_law 555 = .ok (.ireturn, 1) := by decide +kernel
theorem dL_law_556 : decode cL_law 556 = .ok (.iload 5, 2) := by decide +kernel
theorem dL_law_558 : decode cL_law 558 = .ok (.ifCond .ne 15, 3) := by decide +kernel
theorem dL_law_561 : decode cL_law 561 = .ok (.aload_n 3, 1) := by decide +kernel
theorem dL_law_562 : decode cL_law 562 = .ok (.iconst 0, 1) := by decide +kernel
theorem dL_law_563 : decode cL_law 563 = .ok (.laload, 1) := by decide +kernel
theorem dL_law_564 : decode cL_law 564 = .ok (.iload 6, 2) := by decide +kernel
theorem dL_law_566 : decode cL_law 566 = .ok (.i2l, 1) := by decide +kernel
theorem dL_law_567 : decode cL_law 567 = .ok (.lcmp, 1) := by decide +kernel
theorem dL_law_568 : decode cL_law 568 = .ok (.ifCond .eq 5, 3) := by decide +kernel
theorem dL_law_571 : decode cL_law 571 = .ok (.iconst 0, 1) := by decide +kernel
theorem dL_law_572 : decode cL_law 572 = .ok (.ireturn, 1) := by decide +kernel
theorem dL_law_573 : decode cL_law 573 = .ok (.goto 979, 3) := by decide +kernel
theorem dL_law_576 : decode cL_law 576 = .ok (.aload_n 1, 1) := by decide +kernel
theorem dL_law_577 : decode cL_law 577 = .ok (.invokevirtual 116, 3) := by decide +kernel
theorem dL_law_580 : decode cL_law 580 = .ok (.aload_n 2, 1) := by decide +kernel
theorem dL_law_581 : decode cL_law 581 = .ok (.invokevirtual 119, 3) := by decide +kernel
theorem dL_law_584 : decode cL_law 584 = .ok (.if_icmp .eq 968, 3) := by decide +kernel
theorem dL_law_587 : decode cL_law 587 = .ok (.iconst 0, 1) := by decide +kernel
theorem dL_law_588 : decode cL_law 588 = .ok (.ireturn, 1) := by decide +kernel
theorem dL_law_589 : decode cL_law 589 = .ok (.aload_n 1, 1) := by decide +kernel
theorem dL_law_590 : decode cL_law 590 = .ok (.aload_n 0, 1) := by decide +kernel
theorem dL_law_591 : decode cL_law 591 = .ok (.iload 4, 2) := by decide +kernel
theorem dL_law_593 : decode cL_law 593 = .ok (.iconst 1, 1) := by decide +kernel
theorem dL_law_594 : decode cL_law 594 = .ok (.iadd, 1) := by decide +kernel
theorem dL_law_595 : decode cL_law 595 = .ok (.iaload, 1) := by decide +kernel
theorem dL_law_596 : decode cL_law 596 = .ok (.aload_n 3, 1) := by decide +kernel
theorem dL_law_597 : decode cL_law 597 = .ok (.invokestatic 120, 3) := by decide +kernel
theorem dL_law_600 : decode cL_law 600 = .ok (.istore 5, 2) := by decide +kernel
theorem dL_law_602 : decode cL_law 602 = .ok (.aload_n 2, 1) := by decide +kernel
theorem dL_law_603 : decode cL_law 603 = .ok (.aload_n 0, 1) := by decide +kernel
theorem dL_law_604 : decode cL_law 604 = .ok (.iload 4, 2) := by decide +kernel
theorem dL_law_606 : decode cL_law 606 = .ok (.iconst 1, 1) := by decide +kernel
theorem dL_law_607 : decode cL_law 607 = .ok (.iadd, 1) := by decide +kernel
theorem dL_law_608 : decode cL_law 608 = .ok (.iaload, 1) := by decide +kernel
theorem dL_law_609 : decode cL_law 609 = .ok (.invokevirtual 122, 3) := by decide +kernel
theorem dL_law_612 : decode cL_law 612 = .ok (.istore 6, 2) := by decide +kernel
theorem dL_law_614 : decode cL_law 614 = .ok (.aload_n 2, 1) := by decide +kernel
theorem dL_law_615 : decode cL_law 615 = .ok (.invokevirtual 94, 3) := by decide +kernel
theorem dL_law_618 : decode cL_law 618 = .ok (.iload 5, 2) := by decide +kernel
theorem dL_law_620 : decode cL_law 620 = .ok (.if_icmp .eq 5, 3) := by decide +kernel
theorem dL_law_623 : decode cL_law 623 = .ok (.iconst 0, 1) := by decide +kernel
theorem dL_law_624 : decode cL_law 624 = .ok (.ireturn, 1) := by decide +kernel
theorem dL_law_625 : decode cL_law 625 = .ok (.iload 5, 2) := by decide +kernel
theorem dL_law_627 : decode cL_law 627 = .ok (.ifCond .ne 15, 3) := by decide +kernel
theorem dL_law_630 : decode cL_law 630 = .ok (.aload_n 3, 1) := by decide +kernel
theorem dL_law_631 : decode cL_law 631 = .ok (.iconst 0, 1) := by decide +kernel
theorem dL_law_632 : decode cL_law 632 = .ok (.laload, 1) := by decide +kernel
theorem dL_law_633 : decode cL_law 633 = .ok (.iload 6, 2) := by decide +kernel
theorem dL_law_635 : decode cL_law 635 = .ok (.i2l, 1) := by decide +kernel
theorem dL_law_636 : decode cL_law 636 = .ok (.lcmp, 1) := by decide +kernel
theorem dL_law_637 : decode cL_law 637 = .ok (.ifCond .eq 5, 3) := by decide +kernel
theorem dL_law_640 : decode cL_law 640 = .ok (.iconst 0, 1) := by decide +kernel
theorem dL_law_641 : decode cL_law 641 = .ok (.ireturn, 1) := by decide +kernel
theorem dL_law_642 : decode cL_law 642 = .ok (.goto 910, 3) := by decide +kernel
theorem dL_law_645 : decode cL_law 645 = .ok (.aload_n 1, 1) := by decide +kernel
theorem dL_law_646 : decode cL_law 646 = .ok (.aload_n 0, 1) := by decide +kernel
theorem dL_law_647 : decode cL_law 647 = .ok (.iload 4, 2) := by decide +kernel
theorem dL_law_649 : decode cL_law 649 = .ok (.iconst 1, 1) := by decide +kernel
theorem dL_law_650 : decode cL_law 650 = .ok (.iadd, 1) := by decide +kernel
theorem dL_law_651 : decode cL_law 651 = .ok (.iaload, 1) := by decide +kernel
theorem dL_law_652 : decode cL_law 652 = .ok (.aload_n 3, 1) := by decide +kernel
theorem dL_law_653 : decode cL_law 653 = .ok (.invokestatic 123, 3) := by decide +kernel
theorem dL_law_656 : decode cL_law 656 = .ok (.istore 5, 2) := by decide +kernel
theorem dL_law_658 : decode cL_law 658 = .ok (.aload_n 2, 1) := by decide +kernel
theorem dL_law_659 : decode cL_law 659 = .ok (.aload_n 0, 1) := by decide +kernel
theorem dL_law_660 : decode cL_law 660 = .ok (.iload 4, 2) := by decide +kernel
theorem dL_law_662 : decode cL_law 662 = .ok (.iconst 1, 1) := by decide +kernel
theorem dL_law_663 : decode cL_law 663 = .ok (.iadd, 1) := by decide +kernel
theorem dL_law_664 : decode cL_law 664 = .ok (.iaload, 1) := by decide +kernel
theorem dL_law_665 : decode cL_law 665 = .ok (.invokevirtual 125, 3) := by decide +kernel
theorem dL_law_668 : decode cL_law 668 = .ok (.istore 6, 2) := by decide +kernel
theorem dL_law_670 : decode cL_law 670 = .ok (.aload_n 2, 1) := by decide +kernel
theorem dL_law_671 : decode cL_law 671 = .ok (.invokevirtual 94, 3) := by decide +kernel
theorem dL_law_674 : decode cL_law 674 = .ok (.iload 5, 2) := by decide +kernel
theorem dL_law_676 : decode cL_law 676 = .ok (.if_icmp .eq 5, 3) := by decide +kernel
theorem dL_law_679 : decode cL_law 679 = .ok (.iconst 0, 1) := by decide +kernel
theorem dL_law_680 : decode cL_law 680 = .ok (.ireturn, 1) := by decide +kernel
theorem dL_law_681 : decode cL_law 681 = .ok (.iload 5, 2) := by decide +kernel
theorem dL_law_683 : decode cL_law 683 = .ok (.ifCond .ne 15, 3) := by decide +kernel
theorem dL_law_686 : decode cL_law 686 = .ok (.aload_n 3, 1) := by decide +kernel
theorem dL_law_687 : decode cL_law 687 = .ok (.iconst 0, 1) := by decide +kernel
theorem dL_law_688 : decode cL_law 688 = .ok (.laload, 1) := by decide +kernel
theorem dL_law_689 : decode cL_law 689 = .ok (.iload 6, 2) := by decide +kernel
theorem dL_law_691 : decode cL_law 691 = .ok (.i2l, 1) := by decide +kernel
theorem dL_law_692 : decode cL_law 692 = .ok (.lcmp, 1) := by decide +kernel
theorem dL_law_693 : decode cL_law 693 = .ok (.ifCond .eq 5, 3) := by decide +kernel
theorem dL_law_696 : decode cL_law 696 = .ok (.iconst 0, 1) := by decide +kernel
theorem dL_law_697 : decode cL_law 697 = .ok (.ireturn, 1) := by decide +kernel
theorem dL_law_698 : decode cL_law 698 = .ok (.goto 854, 3) := by decide +kernel
theorem dL_law_701 : decode cL_law 701 = .ok (.aload_n 1, 1) := by decide +kernel
theorem dL_law_702 : decode cL_law 702 = .ok (.aload_n 0, 1) := by decide +kernel
theorem dL_law_703 : decode cL_law 703 = .ok (.iload 4, 2) := by decide +kernel
theorem dL_law_705 : decode cL_law 705 = .ok (.iconst 1, 1) := by decide +kernel
theorem dL_law_706 : decode cL_law 706 = .ok (.iadd, 1) := by decide +kernel
theorem dL_law_707 : decode cL_law 707 = .ok (.iaload, 1) := by decide +kernel
theorem dL_law_708 : decode cL_law 708 = .ok (.aload_n 3, 1) := by decide +kernel
theorem dL_law_709 : decode cL_law 709 = .ok (.invokestatic 126, 3) := by decide +kernel
theorem dL_law_712 : decode cL_law 712 = .ok (.istore 5, 2) := by decide +kernel
theorem dL_law_714 : decode cL_law 714 = .ok (.aload_n 2, 1) := by decide +kernel
theorem dL_law_715 : decode cL_law 715 = .ok (.aload_n 0, 1) := by decide +kernel
theorem dL_law_716 : decode cL_law 716 = .ok (.iload 4, 2) := by decide +kernel
theorem dL_law_718 : decode cL_law 718 = .ok (.iconst 1, 1) := by decide +kernel
theorem dL_law_719 : decode cL_law 719 = .ok (.iadd, 1) := by decide +kernel
theorem dL_law_720 : decode cL_law 720 = .ok (.iaload, 1) := by decide +kernel
theorem dL_law_721 : decode cL_law 721 = .ok (.invokevirtual 128, 3) := by decide +kernel
theorem dL_law_724 : decode cL_law 724 = .ok (.istore 6, 2) := by decide +kernel
theorem dL_law_726 : decode cL_law 726 = .ok (.aload_n 2, 1) := by decide +kernel
theorem dL_law_727 : decode cL_law 727 = .ok (.invokevirtual 94, 3) := by decide +kernel
theorem dL_law_730 : decode cL_law 730 = .ok (.iload 5, 2) := by decide +kernel
theorem dL_law_732 : decode cL_law 732 = .ok (.if_icmp .eq 5, 3) := by decide +kernel
theorem dL_law_735 : decode cL_law 735 = .ok (.iconst 0, 1) := by decide +kernel
theorem dL_law_736 : decode cL_law 736 = .ok (.ireturn, 1) := by decide +kernel
theorem dL_law_737 : decode cL_law 737 = .ok (.iload 5, 2) := by decide +kernel
theorem dL_law_739 : decode cL_law 739 = .ok (.ifCond .ne 15, 3) := by decide +kernel
theorem dL_law_742 : decode cL_law 742 = .ok (.aload_n 3, 1) := by decide +kernel
theorem dL_law_743 : decode cL_law 743 = .ok (.iconst 0, 1) := by decide +kernel
theorem dL_law_744 : decode cL_law 744 = .ok (.laload, 1) := by decide +kernel
theorem dL_law_745 : decode cL_law 745 = .ok (.iload 6, 2) := by decide +kernel
theorem dL_law_747 : decode cL_law 747 = .ok (.i2l, 1) := by decide +kernel
theorem dL_law_748 : decode cL_law 748 = .ok (.lcmp, 1) := by decide +kernel
theorem dL_law_749 : decode cL_law 749 = .ok (.ifCond .eq 5, 3) := by decide +kernel
theorem dL_law_752 : decode cL_law 752 = .ok (.iconst 0, 1) := by decide +kernel
theorem dL_law_753 : decode cL_law 753 = .ok (.ireturn, 1) := by decide +kernel
theorem dL_law_754 : decode cL_law 754 = .ok (.goto 798, 3) := by decide +kernel
theorem dL_law_757 : decode cL_law 757 = .ok (.aload_n 1, 1) := by decide +kernel
theorem dL_law_758 : decode cL_law 758 = .ok (.aload_n 0, 1) := by decide +kernel
theorem dL_law_759 : decode cL_law 759 = .ok (.iload 4, 2) := by decide +kernel
theorem dL_law_761 : decode cL_law 761 = .ok (.iconst 1, 1) := by decide +kernel
theorem dL_law_762 : decode cL_law 762 = .ok (.iadd, 1) := by decide +kernel
theorem dL_law_763 : decode cL_law 763 = .ok (.iaload, 1) := by decide +kernel
theorem dL_law_764 : decode cL_law 764 = .ok (.aload_n 3, 1) := by decide +kernel
theorem dL_law_765 : decode cL_law 765 = .ok (.invokestatic 129, 3) := by decide +kernel
theorem dL_law_768 : decode cL_law 768 = .ok (.istore 5, 2) := by decide +kernel
theorem dL_law_770 : decode cL_law 770 = .ok (.aload_n 2, 1) := by decide +kernel
theorem dL_law_771 : decode cL_law 771 = .ok (.aload_n 0, 1) := by decide +kernel
theorem dL_law_772 : decode cL_law 772 = .ok (.iload 4, 2) := by decide +kernel
theorem dL_law_774 : decode cL_law 774 = .ok (.iconst 1, 1) := by decide +kernel
theorem dL_law_775 : decode cL_law 775 = .ok (.iadd, 1) := by decide +kernel
theorem dL_law_776 : decode cL_law 776 = .ok (.iaload, 1) := by decide +kernel
theorem dL_law_777 : decode cL_law 777 = .ok (.invokevirtual 131, 3) := by decide +kernel
theorem dL_law_780 : decode cL_law 780 = .ok (.istore 6, 2) := by decide +kernel
theorem dL_law_782 : decode cL_law 782 = .ok (.aload_n 2, 1) := by decide +kernel
theorem dL_law_783 : decode cL_law 783 = .ok (.invokevirtual 94, 3) := by decide +kernel
theorem dL_law_786 : decode cL_law 786 = .ok (.iload 5, 2) := by decide +kernel
theorem dL_law_788 : decode cL_law 788 = .ok (.if_icmp .eq 5, 3) := by decide +kernel
theorem dL_law_791 : decode cL_law 791 = .ok (.iconst 0, 1) := by decide +kernel
theorem dL_law_792 : decode cL_law 792 = .ok (.ireturn, 1) := by decide +kernel
theorem dL_law_793 : decode cL_law 793 = .ok (.iload 5, 2) := by decide +kernel
theorem dL_law_795 : decode cL_law 795 = .ok (.ifCond .ne 15, 3) := by decide +kernel
theorem dL_law_798 : decode cL_law 798 = .ok (.aload_n 3, 1) := by decide +kernel
theorem dL_law_799 : decode cL_law 799 = .ok (.iconst 0, 1) := by decide +kernel
theorem dL_law_800 : decode cL_law 800 = .ok (.laload, 1) := by decide +kernel
theorem dL_law_801 : decode cL_law 801 = .ok (.iload 6, 2) := by decide +kernel
theorem dL_law_803 : decode cL_law 803 = .ok (.i2l, 1) := by decide +kernel
theorem dL_law_804 : decode cL_law 804 = .ok (.lcmp, 1) := by decide +kernel
theorem dL_law_805 : decode cL_law 805 = .ok (.ifCond .eq 5, 3) := by decide +kernel
theorem dL_law_808 : decode cL_law 808 = .ok (.iconst 0, 1) := by decide +kernel
theorem dL_law_809 : decode cL_law 809 = .ok (.ireturn, 1) := by decide +kernel
theorem dL_law_810 : decode cL_law 810 = .ok (.goto 742, 3) := by decide +kernel
theorem dL_law_813 : decode cL_law 813 = .ok (.aload_n 1, 1) := by decide +kernel
theorem dL_law_814 : decode cL_law 814 = .ok (.aload_n 0, 1) := by decide +kernel
theorem dL_law_815 : decode cL_law 815 = .ok (.iload 4, 2) := by decide +kernel
theorem dL_law_817 : decode cL_law 817 = .ok (.iconst 1, 1) := by decide +kernel
theorem dL_law_818 : decode cL_law 818 = .ok (.iadd, 1) := by decide +kernel
theorem dL_law_819 : decode cL_law 819 = .ok (.iaload, 1) := by decide +kernel
theorem dL_law_820 : decode cL_law 820 = .ok (.aload_n 0, 1) := by decide +kernel
theorem dL_law_821 : decode cL_law 821 = .ok (.iload 4, 2) := by decide +kernel
theorem dL_law_823 : decode cL_law 823 = .ok (.iconst 2, 1) := by decide +kernel
theorem dL_law_824 : decode cL_law 824 = .ok (.iadd, 1) := by decide +kernel
theorem dL_law_825 : decode cL_law 825 = .ok (.iaload, 1) := by decide +kernel
theorem dL_law_826 : decode cL_law 826 = .ok (.aload_n 0, 1) := by decide +kernel
theorem dL_law_827 : decode cL_law 827 = .ok (.iload 4, 2) := by decide +kernel
theorem dL_law_829 : decode cL_law 829 = .ok (.iconst 3, 1) := by decide +kernel
theorem dL_law_830 : decode cL_law 830 = .ok (.iadd, 1) := by decide +kernel
theorem dL_law_831 : decode cL_law 831 = .ok (.iaload, 1) := by decide +kernel
theorem dL_law_832 : decode cL_law 832 = .ok (.aload_n 0, 1) := by decide +kernel
theorem dL_law_833 : decode cL_law 833 = .ok (.iload 4, 2) := by decide +kernel
theorem dL_law_835 : decode cL_law 835 = .ok (.iconst 4, 1) := by decide +kernel
theorem dL_law_836 : decode cL_law 836 = .ok (.iadd, 1) := by decide +kernel
theorem dL_law_837 : decode cL_law 837 = .ok (.iaload, 1) := by decide +kernel
theorem dL_law_838 : decode cL_law 838 = .ok (.ifCond .eq 7, 3) := by decide +kernel
theorem dL_law_841 : decode cL_law 841 = .ok (.iconst 1, 1) := by decide +kernel
theorem dL_law_842 : decode cL_law 842 = .ok (.goto 4, 3) := by decide +kernel
theorem dL_law_845 : decode cL_law 845 = .ok (.iconst 0, 1) := by decide +kernel
theorem dL_law_846 : decode cL_law 846 = .ok (.aload_n 3, 1) := by decide +kernel
theorem dL_law_847 : decode cL_law 847 = .ok (.invokestatic 132, 3) := by decide +kernel
theorem dL_law_850 : decode cL_law 850 = .ok (.istore 5, 2) := by decide +kernel
theorem dL_law_852 : decode cL_law 852 = .ok (.aload_n 2, 1) := by decide +kernel
theorem dL_law_853 : decode cL_law 853 = .ok (.aload_n 0, 1) := by decide +kernel
theorem dL_law_854 : decode cL_law 854 = .ok (.iload 4, 2) := by decide +kernel
theorem dL_law_856 : decode cL_law 856 = .ok (.iconst 1, 1) := by decide +kernel
theorem dL_law_857 : decode cL_law 857 = .ok (.iadd, 1) := by decide +kernel
theorem dL_law_858 : decode cL_law 858 = .ok (.iaload, 1) := by decide +kernel
theorem dL_law_859 : decode cL_law 859 = .ok (.aload_n 0, 1) := by decide +kernel
theorem dL_law_860 : decode cL_law 860 = .ok (.iload 4, 2) := by decide +kernel
theorem dL_law_862 : decode cL_law 862 = .ok (.iconst 2, 1) := by decide +kernel
theorem dL_law_863 : decode cL_law 863 = .ok (.iadd, 1) := by decide +kernel
theorem dL_law_864 : decode cL_law 864 = .ok (.iaload, 1) := by decide +kernel
theorem dL_law_865 : decode cL_law 865 = .ok (.aload_n 0, 1) := by decide +kernel
theorem dL_law_866 : decode cL_law 866 = .ok (.iload 4, 2) := by decide +kernel
theorem dL_law_868 : decode cL_law 868 = .ok (.iconst 3, 1) := by decide +kernel
theorem dL_law_869 : decode cL_law 869 = .ok (.iadd, 1) := by decide +kernel
theorem dL_law_870 : decode cL_law 870 = .ok (.iaload, 1) := by decide +kernel
theorem dL_law_871 : decode cL_law 871 = .ok (.aload_n 0, 1) := by decide +kernel
theorem dL_law_872 : decode cL_law 872 = .ok (.iload 4, 2) := by decide +kernel
theorem dL_law_874 : decode cL_law 874 = .ok (.iconst 4, 1) := by decide +kernel
theorem dL_law_875 : decode cL_law 875 = .ok (.iadd, 1) := by decide +kernel
theorem dL_law_876 : decode cL_law 876 = .ok (.iaload, 1) := by decide +kernel
theorem dL_law_877 : decode cL_law 877 = .ok (.ifCond .eq 7, 3) := by decide +kernel
theorem dL_law_880 : decode cL_law 880 = .ok (.iconst 1, 1) := by decide +kernel
theorem dL_law_881 : decode cL_law 881 = .ok (.goto 4, 3) := by decide +kernel
theorem dL_law_884 : decode cL_law 884 = .ok (.iconst 0, 1) := by decide +kernel
theorem dL_law_885 : decode cL_law 885 = .ok (.invokevirtual 135, 3) := by decide +kernel
theorem dL_law_888 : decode cL_law 888 = .ok (.istore 6, 2) := by decide +kernel
theorem dL_law_890 : decode cL_law 890 = .ok (.aload_n 2, 1) := by decide +kernel
theorem dL_law_891 : decode cL_law 891 = .ok (.invokevirtual 94, 3) := by decide +kernel
theorem dL_law_894 : decode cL_law 894 = .ok (.iload 5, 2) := by decide +kernel
theorem dL_law_896 : decode cL_law 896 = .ok (.if_icmp .eq 5, 3) := by decide +kernel
theorem dL_law_899 : decode cL_law 899 = .ok (.iconst 0, 1) := by decide +kernel
theorem dL_law_900 : decode cL_law 900 = .ok (.ireturn, 1) := by decide +kernel
theorem dL_law_901 : decode cL_law 901 = .ok (.iload 5, 2) := by decide +kernel
theorem dL_law_903 : decode cL_law 903 = .ok (.ifCond .ne 15, 3) := by decide +kernel
theorem dL_law_906 : decode cL_law 906 = .ok (.aload_n 3, 1) := by decide +kernel
theorem dL_law_907 : decode cL_law 907 = .ok (.iconst 0, 1) := by decide +kernel
theorem dL_law_908 : decode cL_law 908 = .ok (.laload, 1) := by decide +kernel
theorem dL_law_909 : decode cL_law 909 = .ok (.iload 6, 2) := by decide +kernel
theorem dL_law_911 : decode cL_law 911 = .ok (.i2l, 1) := by decide +kernel
theorem dL_law_912 : decode cL_law 912 = .ok (.lcmp, 1) := by decide +kernel
theorem dL_law_913 : decode cL_law 913 = .ok (.ifCond .eq 5, 3) := by decide +kernel
theorem dL_law_916 : decode cL_law 916 = .ok (.iconst 0, 1) := by decide +kernel
theorem dL_law_917 : decode cL_law 917 = .ok (.ireturn, 1) := by decide +kernel
theorem dL_law_918 : decode cL_law 918 = .ok (.goto 634, 3) := by decide +kernel
theorem dL_law_921 : decode cL_law 921 = .ok (.aload_n 1, 1) := by decide +kernel
theorem dL_law_922 : decode cL_law 922 = .ok (.aload_n 0, 1) := by decide +kernel
theorem dL_law_923 : decode cL_law 923 = .ok (.iload 4, 2) := by decide +kernel
theorem dL_law_925 : decode cL_law 925 = .ok (.iconst 1, 1) := by decide +kernel
theorem dL_law_926 : decode cL_law 926 = .ok (.iadd, 1) := by decide +kernel
theorem dL_law_927 : decode cL_law 927 = .ok (.iaload, 1) := by decide +kernel
theorem dL_law_928 : decode cL_law 928 = .ok (.aload_n 0, 1) := by decide +kernel
theorem dL_law_929 : decode cL_law 929 = .ok (.iload 4, 2) := by decide +kernel
theorem dL_law_931 : decode cL_law 931 = .ok (.iconst 2, 1) := by decide +kernel
theorem dL_law_932 : decode cL_law 932 = .ok (.iadd, 1) := by decide +kernel
theorem dL_law_933 : decode cL_law 933 = .ok (.iaload, 1) := by decide +kernel
theorem dL_law_934 : decode cL_law 934 = .ok (.aload_n 3, 1) := by decide +kernel
theorem dL_law_935 : decode cL_law 935 = .ok (.invokestatic 136, 3) := by decide +kernel
theorem dL_law_938 : decode cL_law 938 = .ok (.istore 5, 2) := by decide +kernel
theorem dL_law_940 : decode cL_law 940 = .ok (.aload_n 2, 1) := by decide +kernel
theorem dL_law_941 : decode cL_law 941 = .ok (.aload_n 0, 1) := by decide +kernel
theorem dL_law_942 : decode cL_law 942 = .ok (.iload 4, 2) := by decide +kernel
theorem dL_law_944 : decode cL_law 944 = .ok (.iconst 1, 1) := by decide +kernel
theorem dL_law_945 : decode cL_law 945 = .ok (.iadd, 1) := by decide +kernel
theorem dL_law_946 : decode cL_law 946 = .ok (.iaload, 1) := by decide +kernel
theorem dL_law_947 : decode cL_law 947 = .ok (.aload_n 0, 1) := by decide +kernel
theorem dL_law_948 : decode cL_law 948 = .ok (.iload 4, 2) := by decide +kernel
theorem dL_law_950 : decode cL_law 950 = .ok (.iconst 2, 1) := by decide +kernel
theorem dL_law_951 : decode cL_law 951 = .ok (.iadd, 1) := by decide +kernel
theorem dL_law_952 : decode cL_law 952 = .ok (.iaload, 1) := by decide +kernel
theorem dL_law_953 : decode cL_law 953 = .ok (.invokevirtual 138, 3) := by decide +kernel
theorem dL_law_956 : decode cL_law 956 = .ok (.istore 6, 2) := by decide +kernel
theorem dL_law_958 : decode cL_law 958 = .ok (.aload_n 2, 1) := by decide +kernel
theorem dL_law_959 : decode cL_law 959 = .ok (.invokevirtual 94, 3) := by decide +kernel
theorem dL_law_962 : decode cL_law 962 = .ok (.iload 5, 2) := by decide +kernel
theorem dL_law_964 : decode cL_law 964 = .ok (.if_icmp .eq 5, 3) := by decide +kernel
theorem dL_law_967 : decode cL_law 967 = .ok (.iconst 0, 1) := by decide +kernel
theorem dL_law_968 : decode cL_law 968 = .ok (.ireturn, 1) := by decide +kernel
theorem dL_law_969 : decode cL_law 969 = .ok (.iload 5, 2) := by decide +kernel
theorem dL_law_971 : decode cL_law 971 = .ok (.ifCond .ne 15, 3) := by decide +kernel
theorem dL_law_974 : decode cL_law 974 = .ok (.aload_n 3, 1) := by decide +kernel
theorem dL_law_975 : decode cL_law 975 = .ok (.iconst 0, 1) := by decide +kernel
theorem dL_law_976 : decode cL_law 976 = .ok (.laload, 1) := by decide +kernel
theorem dL_law_977 : decode cL_law 977 = .ok (.iload 6, 2) := by decide +kernel
theorem dL_law_979 : decode cL_law 979 = .ok (.i2l, 1) := by decide +kernel
theorem dL_law_980 : decode cL_law 980 = .ok (.lcmp, 1) := by decide +kernel
theorem dL_law_981 : decode cL_law 981 = .ok (.ifCond .eq 5, 3) := by decide +kernel
theorem dL_law_984 : decode cL_law 984 = .ok (.iconst 0, 1) := by decide +kernel
theorem dL_law_985 : decode cL_law 985 = .ok (.ireturn, 1) := by decide +kernel
theorem dL_law_986 : decode cL_law 986 = .ok (.goto 566, 3) := by decide +kernel
theorem dL_law_989 : decode cL_law 989 = .ok (.aload_n 1, 1) := by decide +kernel
theorem dL_law_990 : decode cL_law 990 = .ok (.aload_n 0, 1) := by decide +kernel
theorem dL_law_991 : decode cL_law 991 = .ok (.iload 4, 2) := by decide +kernel
theorem dL_law_993 : decode cL_law 993 = .ok (.iconst 1, 1) := by decide +kernel
theorem dL_law_994 : decode cL_law 994 = .ok (.iadd, 1) := by decide +kernel
theorem dL_law_995 : decode cL_law 995 = .ok (.iaload, 1) := by decide +kernel
theorem dL_law_996 : decode cL_law 996 = .ok (.aload_n 0, 1) := by decide +kernel
theorem dL_law_997 : decode cL_law 997 = .ok (.iload 4, 2) := by decide +kernel
theorem dL_law_999 : decode cL_law 999 = .ok (.iconst 2, 1) := by decide +kernel
theorem dL_law_1000 : decode cL_law 1000 = .ok (.iadd, 1) := by decide +kernel
theorem dL_law_1001 : decode cL_law 1001 = .ok (.iaload, 1) := by decide +kernel
theorem dL_law_1002 : decode cL_law 1002 = .ok (.ifCond .eq 7, 3) := by decide +kernel
theorem dL_law_1005 : decode cL_law 1005 = .ok (.iconst 1, 1) := by decide +kernel
theorem dL_law_1006 : decode cL_law 1006 = .ok (.goto 4, 3) := by decide +kernel
theorem dL_law_1009 : decode cL_law 1009 = .ok (.iconst 0, 1) := by decide +kernel
theorem dL_law_1010 : decode cL_law 1010 = .ok (.invokestatic 139, 3) := by decide +kernel
theorem dL_law_1013 : decode cL_law 1013 = .ok (.istore 5, 2) := by decide +kernel
theorem dL_law_1015 : decode cL_law 1015 = .ok (.aload_n 2, 1) := by decide +kernel
theorem dL_law_1016 : decode cL_law 1016 = .ok (.aload_n 0, 1) := by decide +kernel
theorem dL_law_1017 : decode cL_law 1017 = .ok (.iload 4, 2) := by decide +kernel
theorem dL_law_1019 : decode cL_law 1019 = .ok (.iconst 1, 1) := by decide +kernel
theorem dL_law_1020 : decode cL_law 1020 = .ok (.iadd, 1) := by decide +kernel
theorem dL_law_1021 : decode cL_law 1021 = .ok (.iaload, 1) := by decide +kernel
theorem dL_law_1022 : decode cL_law 1022 = .ok (.aload_n 0, 1) := by decide +kernel
theorem dL_law_1023 : decode cL_law 1023 = .ok (.iload 4, 2) := by decide +kernel
theorem dL_law_1025 : decode cL_law 1025 = .ok (.iconst 2, 1) := by decide +kernel
theorem dL_law_1026 : decode cL_law 1026 = .ok (.iadd, 1) := by decide +kernel
theorem dL_law_1027 : decode cL_law 1027 = .ok (.iaload, 1) := by decide +kernel
theorem dL_law_1028 : decode cL_law 1028 = .ok (.ifCond .eq 7, 3) := by decide +kernel
theorem dL_law_1031 : decode cL_law 1031 = .ok (.iconst 1, 1) := by decide +kernel
theorem dL_law_1032 : decode cL_law 1032 = .ok (.goto 4, 3) := by decide +kernel
theorem dL_law_1035 : decode cL_law 1035 = .ok (.iconst 0, 1) := by decide +kernel
theorem dL_law_1036 : decode cL_law 1036 = .ok (.invokevirtual 142, 3) := by decide +kernel
theorem dL_law_1039 : decode cL_law 1039 = .ok (.aload_n 2, 1) := by decide +kernel
theorem dL_law_1040 : decode cL_law 1040 = .ok (.invokevirtual 94, 3) := by decide +kernel
theorem dL_law_1043 : decode cL_law 1043 = .ok (.iload 5, 2) := by decide +kernel
theorem dL_law_1045 : decode cL_law 1045 = .ok (.if_icmp .eq 5, 3) := by decide +kernel
theorem dL_law_1048 : decode cL_law 1048 = .ok (.iconst 0, 1) := by decide +kernel
theorem dL_law_1049 : decode cL_law 1049 = .ok (.ireturn, 1) := by decide +kernel
theorem dL_law_1050 : decode cL_law 1050 = .ok (.goto 502, 3) := by decide +kernel
theorem dL_law_1053 : decode cL_law 1053 = .ok (.aload_n 1, 1) := by decide +kernel
theorem dL_law_1054 : decode cL_law 1054 = .ok (.aload_n 0, 1) := by decide +kernel
theorem dL_law_1055 : decode cL_law 1055 = .ok (.iload 4, 2) := by decide +kernel
theorem dL_law_1057 : decode cL_law 1057 = .ok (.iconst 1, 1) := by decide +kernel
theorem dL_law_1058 : decode cL_law 1058 = .ok (.iadd, 1) := by decide +kernel
theorem dL_law_1059 : decode cL_law 1059 = .ok (.iaload, 1) := by decide +kernel
theorem dL_law_1060 : decode cL_law 1060 = .ok (.aload_n 3, 1) := by decide +kernel
theorem dL_law_1061 : decode cL_law 1061 = .ok (.invokestatic 143, 3) := by decide +kernel
theorem dL_law_1064 : decode cL_law 1064 = .ok (.istore 5, 2) := by decide +kernel
theorem dL_law_1066 : decode cL_law 1066 = .ok (.aload_n 2, 1) := by decide +kernel
theorem dL_law_1067 : decode cL_law 1067 = .ok (.aload_n 0, 1) := by decide +kernel
theorem dL_law_1068 : decode cL_law 1068 = .ok (.iload 4, 2) := by decide +kernel
theorem dL_law_1070 : decode cL_law 1070 = .ok (.iconst 1, 1) := by decide +kernel
theorem dL_law_1071 : decode cL_law 1071 = .ok (.iadd, 1) := by decide +kernel
theorem dL_law_1072 : decode cL_law 1072 = .ok (.iaload, 1) := by decide +kernel
theorem dL_law_1073 : decode cL_law 1073 = .ok (.invokevirtual 145, 3) := by decide +kernel
theorem dL_law_1076 : decode cL_law 1076 = .ok (.istore 6, 2) := by decide +kernel
theorem dL_law_1078 : decode cL_law 1078 = .ok (.aload_n 2, 1) := by decide +kernel
theorem dL_law_1079 : decode cL_law 1079 = .ok (.invokevirtual 94, 3) := by decide +kernel
theorem dL_law_1082 : decode cL_law 1082 = .ok (.iload 5, 2) := by decide +kernel
theorem dL_law_1084 : decode cL_law 1084 = .ok (.if_icmp .eq 5, 3) := by decide +kernel
theorem dL_law_1087 : decode cL_law 1087 = .ok (.iconst 0, 1) := by decide +kernel
theorem dL_law_1088 : decode cL_law 1088 = .ok (.ireturn, 1) := by decide +kernel
theorem dL_law_1089 : decode cL_law 1089 = .ok (.iload 5, 2) := by decide +kernel
theorem dL_law_1091 : decode cL_law 1091 = .ok (.ifCond .ne 15, 3) := by decide +kernel
theorem dL_law_1094 : decode cL_law 1094 = .ok (.aload_n 3, 1) := by decide +kernel
theorem dL_law_1095 : decode cL_law 1095 = .ok (.iconst 0, 1) := by decide +kernel
theorem dL_law_1096 : decode cL_law 1096 = .ok (.laload, 1) := by decide +kernel
theorem dL_law_1097 : decode cL_law 1097 = .ok (.iload 6, 2) := by decide +kernel
theorem dL_law_1099 : decode cL_law 1099 = .ok (.i2l, 1) := by decide +kernel
theorem dL_law_1100 : decode cL_law 1100 = .ok (.lcmp, 1) := by decide +kernel
theorem dL_law_1101 : decode cL_law 1101 = .ok (.ifCond .eq 5, 3) := by decide +kernel
theorem dL_law_1104 : decode cL_law 1104 = .ok (.iconst 0, 1) := by decide +kernel
theorem dL_law_1105 : decode cL_law 1105 = .ok (.ireturn, 1) := by decide +kernel
theorem dL_law_1106 : decode cL_law 1106 = .ok (.goto 446, 3) := by decide +kernel
theorem dL_law_1109 : decode cL_law 1109 = .ok (.aload_n 1, 1) := by decide +kernel
theorem dL_law_1110 : decode cL_law 1110 = .ok (.aload_n 0, 1) := by decide +kernel
theorem dL_law_1111 : decode cL_law 1111 = .ok (.iload 4, 2) := by decide +kernel
theorem dL_law_1113 : decode cL_law 1113 = .ok (.iconst 1, 1) := by decide +kernel
theorem dL_law_1114 : decode cL_law 1114 = .ok (.iadd, 1) := by decide +kernel
theorem dL_law_1115 : decode cL_law 1115 = .ok (.iaload, 1) := by decide +kernel
theorem dL_law_1116 : decode cL_law 1116 = .ok (.aload_n 3, 1) := by decide +kernel
theorem dL_law_1117 : decode cL_law 1117 = .ok (.invokestatic 146, 3) := by decide +kernel
theorem dL_law_1120 : decode cL_law 1120 = .ok (.istore 5, 2) := by decide +kernel
theorem dL_law_1122 : decode cL_law 1122 = .ok (.aload_n 2, 1) := by decide +kernel
theorem dL_law_1123 : decode cL_law 1123 = .ok (.aload_n 0, 1) := by decide +kernel
theorem dL_law_1124 : decode cL_law 1124 = .ok (.iload 4, 2) := by decide +kernel
theorem dL_law_1126 : decode cL_law 1126 = .ok (.iconst 1, 1) := by decide +kernel
theorem dL_law_1127 : decode cL_law 1127 = .ok (.iadd, 1) := by decide +kernel
theorem dL_law_1128 : decode cL_law 1128 = .ok (.iaload, 1) := by decide +kernel
theorem dL_law_1129 : decode cL_law 1129 = .ok (.invokevirtual 148, 3) := by decide +kernel
theorem dL_law_1132 : decode cL_law 1132 = .ok (.istore 6, 2) := by decide +kernel
theorem dL_law_1134 : decode cL_law 1134 = .ok (.aload_n 2, 1) := by decide +kernel
theorem dL_law_1135 : decode cL_law 1135 = .ok (.invokevirtual 94, 3) := by decide +kernel
theorem dL_law_1138 : decode cL_law 1138 = .ok (.iload 5, 2) := by decide +kernel
theorem dL_law_1140 : decode cL_law 1140 = .ok (.if_icmp .eq 5, 3) := by decide +kernel
theorem dL_law_1143 : decode cL_law 1143 = .ok (.iconst 0, 1) := by decide +kernel
theorem dL_law_1144 : decode cL_law 1144 = .ok (.ireturn, 1) := by decide +kernel
theorem dL_law_1145 : decode cL_law 1145 = .ok (.iload 5, 2) := by decide +kernel
theorem dL_law_1147 : decode cL_law 1147 = .ok (.ifCond .ne 15, 3) := by decide +kernel
theorem dL_law_1150 : decode cL_law 1150 = .ok (.aload_n 3, 1) := by decide +kernel
theorem dL_law_1151 : decode cL_law 1151 = .ok (.iconst 0, 1) := by decide +kernel
theorem dL_law_1152 : decode cL_law 1152 = .ok (.laload, 1) := by decide +kernel
theorem dL_law_1153 : decode cL_law 1153 = .ok (.iload 6, 2) := by decide +kernel
theorem dL_law_1155 : decode cL_law 1155 = .ok (.i2l, 1) := by decide +kernel
theorem dL_law_1156 : decode cL_law 1156 = .ok (.lcmp, 1) := by decide +kernel
theorem dL_law_1157 : decode cL_law 1157 = .ok (.ifCond .eq 5, 3) := by decide +kernel
theorem dL_law_1160 : decode cL_law 1160 = .ok (.iconst 0, 1) := by decide +kernel
theorem dL_law_1161 : decode cL_law 1161 = .ok (.ireturn, 1) := by decide +kernel
theorem dL_law_1162 : decode cL_law 1162 = .ok (.goto 390, 3) := by decide +kernel
theorem dL_law_1165 : decode cL_law 1165 = .ok (.aload_n 1, 1) := by decide +kernel
theorem dL_law_1166 : decode cL_law 1166 = .ok (.aload_n 0, 1) := by decide +kernel
theorem dL_law_1167 : decode cL_law 1167 = .ok (.iload 4, 2) := by decide +kernel
theorem dL_law_1169 : decode cL_law 1169 = .ok (.iconst 1, 1) := by decide +kernel
theorem dL_law_1170 : decode cL_law 1170 = .ok (.iadd, 1) := by decide +kernel
theorem dL_law_1171 : decode cL_law 1171 = .ok (.iaload, 1) := by decide +kernel
theorem dL_law_1172 : decode cL_law 1172 = .ok (.aload_n 3, 1) := by decide +kernel
theorem dL_law_1173 : decode cL_law 1173 = .ok (.invokestatic 149, 3) := by decide +kernel
theorem dL_law_1176 : decode cL_law 1176 = .ok (.istore 5, 2) := by decide +kernel
theorem dL_law_1178 : decode cL_law 1178 = .ok (.aload_n 2, 1) := by decide +kernel
theorem dL_law_1179 : decode cL_law 1179 = .ok (.aload_n 0, 1) := by decide +kernel
theorem dL_law_1180 : decode cL_law 1180 = .ok (.iload 4, 2) := by decide +kernel
theorem dL_law_1182 : decode cL_law 1182 = .ok (.iconst 1, 1) := by decide +kernel
theorem dL_law_1183 : decode cL_law 1183 = .ok (.iadd, 1) := by decide +kernel
theorem dL_law_1184 : decode cL_law 1184 = .ok (.iaload, 1) := by decide +kernel
theorem dL_law_1185 : decode cL_law 1185 = .ok (.invokevirtual 151, 3) := by decide +kernel
theorem dL_law_1188 : decode cL_law 1188 = .ok (.istore 6, 2) := by decide +kernel
theorem dL_law_1190 : decode cL_law 1190 = .ok (.aload_n 2, 1) := by decide +kernel
theorem dL_law_1191 : decode cL_law 1191 = .ok (.invokevirtual 94, 3) := by decide +kernel
theorem dL_law_1194 : decode cL_law 1194 = .ok (.iload 5, 2) := by decide +kernel
theorem dL_law_1196 : decode cL_law 1196 = .ok (.if_icmp .eq 5, 3) := by decide +kernel
theorem dL_law_1199 : decode cL_law 1199 = .ok (.iconst 0, 1) := by decide +kernel
theorem dL_law_1200 : decode cL_law 1200 = .ok (.ireturn, 1) := by decide +kernel
theorem dL_law_1201 : decode cL_law 1201 = .ok (.iload 5, 2) := by decide +kernel
theorem dL_law_1203 : decode cL_law 1203 = .ok (.ifCond .ne 15, 3) := by decide +kernel
theorem dL_law_1206 : decode cL_law 1206 = .ok (.aload_n 3, 1) := by decide +kernel
theorem dL_law_1207 : decode cL_law 1207 = .ok (.iconst 0, 1) := by decide +kernel
theorem dL_law_1208 : decode cL_law 1208 = .ok (.laload, 1) := by decide +kernel
theorem dL_law_1209 : decode cL_law 1209 = .ok (.iload 6, 2) := by decide +kernel
theorem dL_law_1211 : decode cL_law 1211 = .ok (.i2l, 1) := by decide +kernel
theorem dL_law_1212 : decode cL_law 1212 = .ok (.lcmp, 1) := by decide +kernel
theorem dL_law_1213 : decode cL_law 1213 = .ok (.ifCond .eq 5, 3) := by decide +kernel
theorem dL_law_1216 : decode cL_law 1216 = .ok (.iconst 0, 1) := by decide +kernel
theorem dL_law_1217 : decode cL_law 1217 = .ok (.ireturn, 1) := by decide +kernel
theorem dL_law_1218 : decode cL_law 1218 = .ok (.goto 334, 3) := by decide +kernel
theorem dL_law_1221 : decode cL_law 1221 = .ok (.aload_n 1, 1) := by decide +kernel
theorem dL_law_1222 : decode cL_law 1222 = .ok (.aload_n 0, 1) := by decide +kernel
theorem dL_law_1223 : decode cL_law 1223 = .ok (.iload 4, 2) := by decide +kernel
theorem dL_law_1225 : decode cL_law 1225 = .ok (.iconst 1, 1) := by decide +kernel
theorem dL_law_1226 : decode cL_law 1226 = .ok (.iadd, 1) := by decide +kernel
theorem dL_law_1227 : decode cL_law 1227 = .ok (.iaload, 1) := by decide +kernel
theorem dL_law_1228 : decode cL_law 1228 = .ok (.aload_n 0, 1) := by decide +kernel
theorem dL_law_1229 : decode cL_law 1229 = .ok (.iload 4, 2) := by decide +kernel
theorem dL_law_1231 : decode cL_law 1231 = .ok (.iconst 2, 1) := by decide +kernel
theorem dL_law_1232 : decode cL_law 1232 = .ok (.iadd, 1) := by decide +kernel
theorem dL_law_1233 : decode cL_law 1233 = .ok (.iaload, 1) := by decide +kernel
theorem dL_law_1234 : decode cL_law 1234 = .ok (.aload_n 3, 1) := by decide +kernel
theorem dL_law_1235 : decode cL_law 1235 = .ok (.invokestatic 152, 3) := by decide +kernel
theorem dL_law_1238 : decode cL_law 1238 = .ok (.istore 5, 2) := by decide +kernel
theorem dL_law_1240 : decode cL_law 1240 = .ok (.aload_n 2, 1) := by decide +kernel
theorem dL_law_1241 : decode cL_law 1241 = .ok (.aload_n 0, 1) := by decide +kernel
theorem dL_law_1242 : decode cL_law 1242 = .ok (.iload 4, 2) := by decide +kernel
theorem dL_law_1244 : decode cL_law 1244 = .ok (.iconst 1, 1) := by decide +kernel
theorem dL_law_1245 : decode cL_law 1245 = .ok (.iadd, 1) := by decide +kernel
theorem dL_law_1246 : decode cL_law 1246 = .ok (.iaload, 1) := by decide +kernel
theorem dL_law_1247 : decode cL_law 1247 = .ok (.aload_n 0, 1) := by decide +kernel
theorem dL_law_1248 : decode cL_law 1248 = .ok (.iload 4, 2) := by decide +kernel
theorem dL_law_1250 : decode cL_law 1250 = .ok (.iconst 2, 1) := by decide +kernel
theorem dL_law_1251 : decode cL_law 1251 = .ok (.iadd, 1) := by decide +kernel
theorem dL_law_1252 : decode cL_law 1252 = .ok (.iaload, 1) := by decide +kernel
theorem dL_law_1253 : decode cL_law 1253 = .ok (.invokevirtual 154, 3) := by decide +kernel
theorem dL_law_1256 : decode cL_law 1256 = .ok (.istore 6, 2) := by decide +kernel
theorem dL_law_1258 : decode cL_law 1258 = .ok (.aload_n 2, 1) := by decide +kernel
theorem dL_law_1259 : decode cL_law 1259 = .ok (.invokevirtual 94, 3) := by decide +kernel
theorem dL_law_1262 : decode cL_law 1262 = .ok (.iload 5, 2) := by decide +kernel
theorem dL_law_1264 : decode cL_law 1264 = .ok (.if_icmp .eq 5, 3) := by decide +kernel
theorem dL_law_1267 : decode cL_law 1267 = .ok (.iconst 0, 1) := by decide +kernel
theorem dL_law_1268 : decode cL_law 1268 = .ok (.ireturn, 1) := by decide +kernel
theorem dL_law_1269 : decode cL_law 1269 = .ok (.iload 5, 2) := by decide +kernel
theorem dL_law_1271 : decode cL_law 1271 = .ok (.ifCond .ne 15, 3) := by decide +kernel
theorem dL_law_1274 : decode cL_law 1274 = .ok (.aload_n 3, 1) := by decide +kernel
theorem dL_law_1275 : decode cL_law 1275 = .ok (.iconst 0, 1) := by decide +kernel
theorem dL_law_1276 : decode cL_law 1276 = .ok (.laload, 1) := by decide +kernel
theorem dL_law_1277 : decode cL_law 1277 = .ok (.iload 6, 2) := by decide +kernel
theorem dL_law_1279 : decode cL_law 1279 = .ok (.i2l, 1) := by decide +kernel
theorem dL_law_1280 : decode cL_law 1280 = .ok (.lcmp, 1) := by decide +kernel
theorem dL_law_1281 : decode cL_law 1281 = .ok (.ifCond .eq 5, 3) := by decide +kernel
theorem dL_law_1284 : decode cL_law 1284 = .ok (.iconst 0, 1) := by decide +kernel
theorem dL_law_1285 : decode cL_law 1285 = .ok (.ireturn, 1) := by decide +kernel
theorem dL_law_1286 : decode cL_law 1286 = .ok (.goto 266, 3) := by decide +kernel
theorem dL_law_1289 : decode cL_law 1289 = .ok (.aload_n 1, 1) := by decide +kernel
theorem dL_law_1290 : decode cL_law 1290 = .ok (.aload_n 0, 1) := by decide +kernel
theorem dL_law_1291 : decode cL_law 1291 = .ok (.iload 4, 2) := by decide +kernel
theorem dL_law_1293 : decode cL_law 1293 = .ok (.iconst 1, 1) := by decide +kernel
theorem dL_law_1294 : decode cL_law 1294 = .ok (.iadd, 1) := by decide +kernel
theorem dL_law_1295 : decode cL_law 1295 = .ok (.iaload, 1) := by decide +kernel
theorem dL_law_1296 : decode cL_law 1296 = .ok (.aload_n 3, 1) := by decide +kernel
theorem dL_law_1297 : decode cL_law 1297 = .ok (.invokestatic 155, 3) := by decide +kernel
theorem dL_law_1300 : decode cL_law 1300 = .ok (.istore 5, 2) := by decide +kernel
theorem dL_law_1302 : decode cL_law 1302 = .ok (.aload_n 2, 1) := by decide +kernel
theorem dL_law_1303 : decode cL_law 1303 = .ok (.aload_n 0, 1) := by decide +kernel
theorem dL_law_1304 : decode cL_law 1304 = .ok (.iload 4, 2) := by decide +kernel
theorem dL_law_1306 : decode cL_law 1306 = .ok (.iconst 1, 1) := by decide +kernel
theorem dL_law_1307 : decode cL_law 1307 = .ok (.iadd, 1) := by decide +kernel
theorem dL_law_1308 : decode cL_law 1308 = .ok (.iaload, 1) := by decide +kernel
theorem dL_law_1309 : decode cL_law 1309 = .ok (.invokevirtual 157, 3) := by decide +kernel
theorem dL_law_1312 : decode cL_law 1312 = .ok (.istore 6, 2) := by decide +kernel
theorem dL_law_1314 : decode cL_law 1314 = .ok (.aload_n 2, 1) := by decide +kernel
theorem dL_law_1315 : decode cL_law 1315 = .ok (.invokevirtual 94, 3) := by decide +kernel
theorem dL_law_1318 : decode cL_law 1318 = .ok (.iload 5, 2) := by decide +kernel
theorem dL_law_1320 : decode cL_law 1320 = .ok (.if_icmp .eq 5, 3) := by decide +kernel
theorem dL_law_1323 : decode cL_law 1323 = .ok (.iconst 0, 1) := by decide +kernel
theorem dL_law_1324 : decode cL_law 1324 = .ok (.ireturn, 1) := by decide +kernel
theorem dL_law_1325 : decode cL_law 1325 = .ok (.iload 5, 2) := by decide +kernel
theorem dL_law_1327 : decode cL_law 1327 = .ok (.ifCond .ne 15, 3) := by decide +kernel
theorem dL_law_1330 : decode cL_law 1330 = .ok (.aload_n 3, 1) := by decide +kernel
theorem dL_law_1331 : decode cL_law 1331 = .ok (.iconst 0, 1) := by decide +kernel
theorem dL_law_1332 : decode cL_law 1332 = .ok (.laload, 1) := by decide +kernel
theorem dL_law_1333 : decode cL_law 1333 = .ok (.iload 6, 2) := by decide +kernel
theorem dL_law_1335 : decode cL_law 1335 = .ok (.i2l, 1) := by decide +kernel
theorem dL_law_1336 : decode cL_law 1336 = .ok (.lcmp, 1) := by decide +kernel
theorem dL_law_1337 : decode cL_law 1337 = .ok (.ifCond .eq 5, 3) := by decide +kernel
theorem dL_law_1340 : decode cL_law 1340 = .ok (.iconst 0, 1) := by decide +kernel
theorem dL_law_1341 : decode cL_law 1341 = .ok (.ireturn, 1) := by decide +kernel
theorem dL_law_1342 : decode cL_law 1342 = .ok (.goto 210, 3) := by decide +kernel
theorem dL_law_1345 : decode cL_law 1345 = .ok (.aload_n 1, 1) := by decide +kernel
theorem dL_law_1346 : decode cL_law 1346 = .ok (.aload_n 0, 1) := by decide +kernel
theorem dL_law_1347 : decode cL_law 1347 = .ok (.iload 4, 2) := by decide +kernel
theorem dL_law_1349 : decode cL_law 1349 = .ok (.iconst 1, 1) := by decide +kernel
theorem dL_law_1350 : decode cL_law 1350 = .ok (.iadd, 1) := by decide +kernel
theorem dL_law_1351 : decode cL_law 1351 = .ok (.iaload, 1) := by decide +kernel
theorem dL_law_1352 : decode cL_law 1352 = .ok (.aload_n 3, 1) := by decide +kernel
theorem dL_law_1353 : decode cL_law 1353 = .ok (.invokestatic 158, 3) := by decide +kernel
theorem dL_law_1356 : decode cL_law 1356 = .ok (.istore 5, 2) := by decide +kernel
theorem dL_law_1358 : decode cL_law 1358 = .ok (.aload_n 2, 1) := by decide +kernel
theorem dL_law_1359 : decode cL_law 1359 = .ok (.aload_n 0, 1) := by decide +kernel
theorem dL_law_1360 : decode cL_law 1360 = .ok (.iload 4, 2) := by decide +kernel
theorem dL_law_1362 : decode cL_law 1362 = .ok (.iconst 1, 1) := by decide +kernel
theorem dL_law_1363 : decode cL_law 1363 = .ok (.iadd, 1) := by decide +kernel
theorem dL_law_1364 : decode cL_law 1364 = .ok (.iaload, 1) := by decide +kernel
theorem dL_law_1365 : decode cL_law 1365 = .ok (.invokevirtual 160, 3) := by decide +kernel
theorem dL_law_1368 : decode cL_law 1368 = .ok (.istore 6, 2) := by decide +kernel
theorem dL_law_1370 : decode cL_law 1370 = .ok (.aload_n 2, 1) := by decide +kernel
theorem dL_law_1371 : decode cL_law 1371 = .ok (.invokevirtual 94, 3) := by decide +kernel
theorem dL_law_1374 : decode cL_law 1374 = .ok (.iload 5, 2) := by decide +kernel
theorem dL_law_1376 : decode cL_law 1376 = .ok (.if_icmp .eq 5, 3) := by decide +kernel
theorem dL_law_1379 : decode cL_law 1379 = .ok (.iconst 0, 1) := by decide +kernel
theorem dL_law_1380 : decode cL_law 1380 = .ok (.ireturn, 1) := by decide +kernel
theorem dL_law_1381 : decode cL_law 1381 = .ok (.iload 5, 2) := by decide +kernel
theorem dL_law_1383 : decode cL_law 1383 = .ok (.ifCond .ne 15, 3) := by decide +kernel
theorem dL_law_1386 : decode cL_law 1386 = .ok (.aload_n 3, 1) := by decide +kernel
theorem dL_law_1387 : decode cL_law 1387 = .ok (.iconst 0, 1) := by decide +kernel
theorem dL_law_1388 : decode cL_law 1388 = .ok (.laload, 1) := by decide +kernel
theorem dL_law_1389 : decode cL_law 1389 = .ok (.iload 6, 2) := by decide +kernel
theorem dL_law_1391 : decode cL_law 1391 = .ok (.i2l, 1) := by decide +kernel
theorem dL_law_1392 : decode cL_law 1392 = .ok (.lcmp, 1) := by decide +kernel
theorem dL_law_1393 : decode cL_law 1393 = .ok (.ifCond .eq 5, 3) := by decide +kernel
theorem dL_law_1396 : decode cL_law 1396 = .ok (.iconst 0, 1) := by decide +kernel
theorem dL_law_1397 : decode cL_law 1397 = .ok (.ireturn, 1) := by decide +kernel
theorem dL_law_1398 : decode cL_law 1398 = .ok (.goto 154, 3) := by decide +kernel
theorem dL_law_1401 : decode cL_law 1401 = .ok (.aload_n 1, 1) := by decide +kernel
theorem dL_law_1402 : decode cL_law 1402 = .ok (.aload_n 0, 1) := by decide +kernel
theorem dL_law_1403 : decode cL_law 1403 = .ok (.iload 4, 2) := by decide +kernel
theorem dL_law_1405 : decode cL_law 1405 = .ok (.iconst 1, 1) := by decide +kernel
theorem dL_law_1406 : decode cL_law 1406 = .ok (.iadd, 1) := by decide +kernel
theorem dL_law_1407 : decode cL_law 1407 = .ok (.iaload, 1) := by decide +kernel
theorem dL_law_1408 : decode cL_law 1408 = .ok (.aload_n 3, 1) := by decide +kernel
theorem dL_law_1409 : decode cL_law 1409 = .ok (.invokestatic 161, 3) := by decide +kernel
theorem dL_law_1412 : decode cL_law 1412 = .ok (.istore 5, 2) := by decide +kernel
theorem dL_law_1414 : decode cL_law 1414 = .ok (.aload_n 2, 1) := by decide +kernel
theorem dL_law_1415 : decode cL_law 1415 = .ok (.aload_n 0, 1) := by decide +kernel
theorem dL_law_1416 : decode cL_law 1416 = .ok (.iload 4, 2) := by decide +kernel
theorem dL_law_1418 : decode cL_law 1418 = .ok (.iconst 1, 1) := by decide +kernel
theorem dL_law_1419 : decode cL_law 1419 = .ok (.iadd, 1) := by decide +kernel
theorem dL_law_1420 : decode cL_law 1420 = .ok (.iaload, 1) := by decide +kernel
theorem dL_law_1421 : decode cL_law 1421 = .ok (.invokevirtual 163, 3) := by decide +kernel
theorem dL_law_1424 : decode cL_law 1424 = .ok (.istore 6, 2) := by decide +kernel
theorem dL_law_1426 : decode cL_law 1426 = .ok (.aload_n 2, 1) := by decide +kernel
theorem dL_law_1427 : decode cL_law 1427 = .ok (.invokevirtual 94, 3) := by decide +kernel
theorem dL_law_1430 : decode cL_law 1430 = .ok (.iload 5, 2) := by decide +kernel
theorem dL_law_1432 : decode cL_law 1432 = .ok (.if_icmp .eq 5, 3) := by decide +kernel
theorem dL_law_1435 : decode cL_law 1435 = .ok (.iconst 0, 1) := by decide +kernel
theorem dL_law_1436 : decode cL_law 1436 = .ok (.ireturn, 1) := by decide +kernel
theorem dL_law_1437 : decode cL_law 1437 = .ok (.iload 5, 2) := by decide +kernel
theorem dL_law_1439 : decode cL_law 1439 = .ok (.ifCond .ne 15, 3) := by decide +kernel
theorem dL_law_1442 : decode cL_law 1442 = .ok (.aload_n 3, 1) := by decide +kernel
theorem dL_law_1443 : decode cL_law 1443 = .ok (.iconst 0, 1) := by decide +kernel
theorem dL_law_1444 : decode cL_law 1444 = .ok (.laload, 1) := by decide +kernel
theorem dL_law_1445 : decode cL_law 1445 = .ok (.iload 6, 2) := by decide +kernel
theorem dL_law_1447 : decode cL_law 1447 = .ok (.i2l, 1) := by decide +kernel
theorem dL_law_1448 : decode cL_law 1448 = .ok (.lcmp, 1) := by decide +kernel
theorem dL_law_1449 : decode cL_law 1449 = .ok (.ifCond .eq 5, 3) := by decide +kernel
theorem dL_law_1452 : decode cL_law 1452 = .ok (.iconst 0, 1) := by decide +kernel
theorem dL_law_1453 : decode cL_law 1453 = .ok (.ireturn, 1) := by decide +kernel
theorem dL_law_1454 : decode cL_law 1454 = .ok (.goto 98, 3) := by decide +kernel
theorem dL_law_1457 : decode cL_law 1457 = .ok (.aload_n 1, 1) := by decide +kernel
theorem dL_law_1458 : decode cL_law 1458 = .ok (.invokevirtual 164, 3) := by decide +kernel
theorem dL_law_1461 : decode cL_law 1461 = .ok (.aload_n 2, 1) := by decide +kernel
theorem dL_law_1462 : decode cL_law 1462 = .ok (.invokevirtual 167, 3) := by decide +kernel
theorem dL_law_1465 : decode cL_law 1465 = .ok (.if_icmp .eq 87, 3) := by decide +kernel
theorem dL_law_1468 : decode cL_law 1468 = .ok (.iconst 0, 1) := by decide +kernel
theorem dL_law_1469 : decode cL_law 1469 = .ok (.ireturn, 1) := by decide +kernel
theorem dL_law_1470 : decode cL_law 1470 = .ok (.aload_n 1, 1) := by decide +kernel
theorem dL_law_1471 : decode cL_law 1471 = .ok (.invokevirtual 168, 3) := by decide +kernel
theorem dL_law_1474 : decode cL_law 1474 = .ok (.aload_n 2, 1) := by decide +kernel
theorem dL_law_1475 : decode cL_law 1475 = .ok (.invokevirtual 171, 3) := by decide +kernel
theorem dL_law_1478 : decode cL_law 1478 = .ok (.if_icmp .eq 74, 3) := by decide +kernel
theorem dL_law_1481 : decode cL_law 1481 = .ok (.iconst 0, 1) := by decide +kernel
theorem dL_law_1482 : decode cL_law 1482 = .ok (.ireturn, 1) := by decide +kernel
theorem dL_law_1483 : decode cL_law 1483 = .ok (.aload_n 1, 1) := by decide +kernel
theorem dL_law_1484 : decode cL_law 1484 = .ok (.aload_n 0, 1) := by decide +kernel
theorem dL_law_1485 : decode cL_law 1485 = .ok (.iload 4, 2) := by decide +kernel
theorem dL_law_1487 : decode cL_law 1487 = .ok (.iconst 1, 1) := by decide +kernel
theorem dL_law_1488 : decode cL_law 1488 = .ok (.iadd, 1) := by decide +kernel
theorem dL_law_1489 : decode cL_law 1489 = .ok (.iaload, 1) := by decide +kernel
theorem dL_law_1490 : decode cL_law 1490 = .ok (.aload_n 3, 1) := by decide +kernel
theorem dL_law_1491 : decode cL_law 1491 = .ok (.invokestatic 172, 3) := by decide +kernel
theorem dL_law_1494 : decode cL_law 1494 = .ok (.istore 5, 2) := by decide +kernel
theorem dL_law_1496 : decode cL_law 1496 = .ok (.aload_n 2, 1) := by decide +kernel
theorem dL_law_1497 : decode cL_law 1497 = .ok (.aload_n 0, 1) := by decide +kernel
theorem dL_law_1498 : decode cL_law 1498 = .ok (.iload 4, 2) := by decide +kernel
theorem dL_law_1500 : decode cL_law 1500 = .ok (.iconst 1, 1) := by decide +kernel
theorem dL_law_1501 : decode cL_law 1501 = .ok (.iadd, 1) := by decide +kernel
theorem dL_law_1502 : decode cL_law 1502 = .ok (.iaload, 1) := by decide +kernel
theorem dL_law_1503 : decode cL_law 1503 = .ok (.invokevirtual 174, 3) := by decide +kernel
theorem dL_law_1506 : decode cL_law 1506 = .ok (.istore 6, 2) := by decide +kernel
theorem dL_law_1508 : decode cL_law 1508 = .ok (.aload_n 2, 1) := by decide +kernel
theorem dL_law_1509 : decode cL_law 1509 = .ok (.invokevirtual 94, 3) := by decide +kernel
theorem dL_law_1512 : decode cL_law 1512 = .ok (.iload 5, 2) := by decide +kernel
theorem dL_law_1514 : decode cL_law 1514 = .ok (.if_icmp .eq 5, 3) := by decide +kernel
theorem dL_law_1517 : decode cL_law 1517 = .ok (.iconst 0, 1) := by decide +kernel
theorem dL_law_1518 : decode cL_law 1518 = .ok (.ireturn, 1) := by decide +kernel
theorem dL_law_1519 : decode cL_law 1519 = .ok (.iload 5, 2) := by decide +kernel
theorem dL_law_1521 : decode cL_law 1521 = .ok (.ifCond .ne 15, 3) := by decide +kernel
theorem dL_law_1524 : decode cL_law 1524 = .ok (.aload_n 3, 1) := by decide +kernel
theorem dL_law_1525 : decode cL_law 1525 = .ok (.iconst 0, 1) := by decide +kernel
theorem dL_law_1526 : decode cL_law 1526 = .ok (.laload, 1) := by decide +kernel
theorem dL_law_1527 : decode cL_law 1527 = .ok (.iload 6, 2) := by decide +kernel
theorem dL_law_1529 : decode cL_law 1529 = .ok (.i2l, 1) := by decide +kernel
theorem dL_law_1530 : decode cL_law 1530 = .ok (.lcmp, 1) := by decide +kernel
theorem dL_law_1531 : decode cL_law 1531 = .ok (.ifCond .eq 5, 3) := by decide +kernel
theorem dL_law_1534 : decode cL_law 1534 = .ok (.iconst 0, 1) := by decide +kernel
theorem dL_law_1535 : decode cL_law 1535 = .ok (.ireturn, 1) := by decide +kernel
theorem dL_law_1536 : decode cL_law 1536 = .ok (.goto 16, 3) := by decide +kernel
theorem dL_law_1539 : decode cL_law 1539 = .ok (.aload_n 1, 1) := by decide +kernel
theorem dL_law_1540 : decode cL_law 1540 = .ok (.invokevirtual 175, 3) := by decide +kernel
theorem dL_law_1543 : decode cL_law 1543 = .ok (.aload_n 2, 1) := by decide +kernel
theorem dL_law_1544 : decode cL_law 1544 = .ok (.invokevirtual 178, 3) := by decide +kernel
theorem dL_law_1547 : decode cL_law 1547 = .ok (.if_icmp .eq 5, 3) := by decide +kernel
theorem dL_law_1550 : decode cL_law 1550 = .ok (.iconst 0, 1) := by decide +kernel
theorem dL_law_1551 : decode cL_law 1551 = .ok (.ireturn, 1) := by decide +kernel
theorem dL_law_1552 : decode cL_law 1552 = .ok (.iinc 4 5, 3) := by decide +kernel
theorem dL_law_1555 : decode cL_law 1555 = .ok (.goto (-1532), 3) := by decide +kernel
theorem dL_law_1558 : decode cL_law 1558 = .ok (.iconst 1, 1) := by decide +kernel
theorem dL_law_1559 : decode cL_law 1559 = .ok (.ireturn, 1) := by decide +kernel
end
section
/-! the judgement: from every heap that V allows, the machine at this frame comes to Q; rows of it -/
section KF
variable {p : Program} {l : Launch} {e : Env} {R : Room} {s : State} {m : MethodId} {args : Array Value} {below : List Frame} {meth : Method} {c : Code} {Q : State → Prop}
variable {A : Nat → Prop} {V V' : Heap → Prop} {k n nL pc : Nat} {lv lv' : List (Nat × Value)} {st rest : List Value} {cc : ByteArray} {own : String}
def kG (p : Program) (l : Launch) (e : Env) (R : Room) (s : State) (m : MethodId) (args : Array Value) (below : List Frame) (meth : Method) (c : Code) (Q : State → Prop) (A : Nat → Prop) (nL : Nat) (V : Heap → Prop) (k n pc : Nat) (lv : List (Nat × Value)) (st : List Value) : Prop :=
  ∀ (H : Heap) (locs : List Loc) (ls : Array Slot), V H → va_S A s.heap H locs → lv_has ls nL lv → W p l e R s m args below meth c H locs k n Q (F0 m pc ls st)
def kX (p : Program) (l : Launch) (e : Env) (R : Room) (s : State) (m : MethodId) (args : Array Value) (below : List Frame) (meth : Method) (c : Code) (Q : State → Prop) (A : Nat → Prop) (nL : Nat) (V : Heap → Prop) (k n pc : Nat) (lv : List (Nat × Value)) (E : String) : Prop :=
  ∀ (H : Heap) (locs : List Loc) (ls : Array Slot) (rest : List Value) (q : Addr) (ce : Cell), V H → va_S A s.heap H locs → lv_has ls nL lv → H[q]? = some ce → ce.vm = .none → s.vm.findClass E = some ce.cls → vx_W p l e R s m args below meth c H locs k n Q (F0 m pc ls rest) q
theorem k_iconst (C0 : CallFix p m c cc nL s args TT own) {i : Int} (v : Int32) (d : decode cc pc = .ok (.iconst i, 1)) (hv : Int32.ofInt i = v) (g : kG p l e R s m args below meth c Q A nL V k n (pc + 1) lv (.int v :: st)) : kG p l e R s m args below meth c Q A nL V k n pc lv st := fun H locs ls hV hS hl => lv_iconst C0.1 C0.2.1 d hv (g H locs ls hV hS hl)
theorem k_bipush (C0 : CallFix p m c cc nL s args TT own) {i : Int} (v : Int32) (d : decode cc pc = .ok (.bipush i, 2)) (hv : (Int8.ofInt i).toInt32 = v) (g : kG p l e R s m args below meth c Q A nL V k n (pc + 2) lv (.int v :: st)) : kG p l e R s m args below meth c Q A nL V k n pc lv st := fun H locs ls hV hS hl => lv_bipush C0.1 C0.2.1 d hv (g H locs ls hV hS hl)
theorem k_sipush (C0 : CallFix p m c cc nL s args TT own) {i : Int} (v : Int32) (d : decode cc pc = .ok (.sipush i, 3)) (hv : (Int16.ofInt i).toInt32 = v) (g : kG p l e R s m args below meth c Q A nL V k n (pc + 3) lv (.int v :: st)) : kG p l e R s m args below meth c Q A nL V k n pc lv st := fun H locs ls hV hS hl => lv_sipush C0.1 C0.2.1 d hv (g H locs ls hV hS hl)
theorem k_lconst (C0 : CallFix p m c cc nL s args TT own) {i : Fin 2} (v : Int64) (d : decode cc pc = .ok (.lconst i, 1)) (hv : Int64.ofNat (i : Nat) = v) (g : kG p l e R s m args below meth c Q A nL V k n (pc + 1) lv (.long v :: st)) : kG p l e R s m args below meth c Q A nL V k n pc lv st := fun H locs ls hV hS hl => lv_lconst C0.1 C0.2.1 d hv (g H locs ls hV hS hl)
theorem k_null (C0 : CallFix p m c cc nL s args TT own) (d : decode cc pc = .ok (.aconst_null, 1)) (g : kG p l e R s m args below meth c Q A nL V k n (pc + 1) lv (.null :: st)) : kG p l e R s m args below meth c Q A nL V k n pc lv st := fun H locs ls hV hS hl => lv_null C0.1 C0.2.1 d (g H locs ls hV hS hl)
theorem k_ldc (C0 : CallFix p m c cc nL s args TT own) {i : Nat} {v : Int32} (d : decode cc pc = .ok (.ldc i, 2)) (hc : Cond.constant own i v ∈ TT) (g : kG p l e R s m args below meth c Q A nL V k n (pc + 2) lv (.int v :: st)) : kG p l e R s m args below meth c Q A nL V k n pc lv st := fun H locs ls hV hS hl => lv_ldc C0.1 C0.2.1 C0.2.2.2.1 (C0.2.2.2.2 _ hc) d (g H locs ls hV hS hl)
theorem k_ldc2 (C0 : CallFix p m c cc nL s args TT own) {i : Nat} {v : Int64} (d : decode cc pc = .ok (.ldc2_w i, 3)) (hc : Cond.constantLong own i v ∈ TT) (g : kG p l e R s m args below meth c Q A nL V k n (pc + 3) lv (.long v :: st)) : kG p l e R s m args below meth c Q A nL V k n pc lv st := fun H locs ls hV hS hl => lv_ldc2 C0.1 C0.2.1 C0.2.2.2.1 (C0.2.2.2.2 _ hc) d (g H locs ls hV hS hl)
theorem k_iload_n (C0 : CallFix p m c cc nL s args TT own) {i : Fin 4} {x : Int32} (d : decode cc pc = .ok (.iload_n i, 1)) (j : Nat) (hj : lv[j]? = some ((i : Nat), .int x)) (g : kG p l e R s m args below meth c Q A nL V k n (pc + 1) lv (.int x :: st)) : kG p l e R s m args below meth c Q A nL V k n pc lv st := fun H locs ls hV hS hl => lv_iload_n C0.1 C0.2.1 d rfl (lv_at hl j hj) (g H locs ls hV hS hl)
theorem k_iload (C0 : CallFix p m c cc nL s args TT own) {i : Nat} {x : Int32} (d : decode cc pc = .ok (.iload i, 2)) (j : Nat) (hj : lv[j]? = some (i, .int x)) (g : kG p l e R s m args below meth c Q A nL V k n (pc + 2) lv (.int x :: st)) : kG p l e R s m args below meth c Q A nL V k n pc lv st := fun H locs ls hV hS hl => lv_iload C0.1 C0.2.1 d (lv_at hl j hj) (g H locs ls hV hS hl)
theorem k_lload_n (C0 : CallFix p m c cc nL s args TT own) {i : Fin 4} {x : Int64} (d : decode cc pc = .ok (.lload_n i, 1)) (j : Nat) (hj : lv[j]? = some ((i : Nat), .long x)) (g : kG p l e R s m args below meth c Q A nL V k n (pc + 1) lv (.long x :: st)) : kG p l e R s m args below meth c Q A nL V k n pc lv st := fun H locs ls hV hS hl => lv_lload_n C0.1 C0.2.1 d rfl (lv_at hl j hj) (g H locs ls hV hS hl)
theorem k_lload (C0 : CallFix p m c cc nL s args TT own) {i : Nat} {x : Int64} (d : decode cc pc = .ok (.lload i, 2)) (j : Nat) (hj : lv[j]? = some (i, .long x)) (g : kG p l e R s m args below meth c Q A nL V k n (pc + 2) lv (.long x :: st)) : kG p l e R s m args below meth c Q A nL V k n pc lv st := fun H locs ls hV hS hl => lv_lload C0.1 C0.2.1 d (lv_at hl j hj) (g H locs ls hV hS hl)
theorem k_aload_n (C0 : CallFix p m c cc nL s args TT own) {i : Fin 4} {x : Nat} (d : decode cc pc = .ok (.aload_n i, 1)) (j : Nat) (hj : lv[j]? = some ((i : Nat), .ref x)) (g : kG p l e R s m args below meth c Q A nL V k n (pc + 1) lv (.ref x :: st)) : kG p l e R s m args below meth c Q A nL V k n pc lv st := fun H locs ls hV hS hl => lv_aload_n C0.1 C0.2.1 d rfl (lv_at hl j hj) (g H locs ls hV hS hl)
theorem k_aload (C0 : CallFix p m c cc nL s args TT own) {i : Nat} {x : Nat} (d : decode cc pc = .ok (.aload i, 2)) (j : Nat) (hj : lv[j]? = some (i, .ref x)) (g : kG p l e R s m args below meth c Q A nL V k n (pc + 2) lv (.ref x :: st)) : kG p l e R s m args below meth c Q A nL V k n pc lv st := fun H locs ls hV hS hl => lv_aload C0.1 C0.2.1 d (lv_at hl j hj) (g H locs ls hV hS hl)
theorem k_istore_n (C0 : CallFix p m c cc nL s args TT own) {i : Fin 4} {x : Int32} (lv2 : List (Nat × Value)) (d : decode cc pc = .ok (.istore_n i, 1)) (hn : (i : Nat) < nL) (hl2 : ((i : Nat), Value.int x) :: lv.filter (fun q => !(q.1 == (i : Nat)) && !(q.1 + 1 == (i : Nat) && q.2.category == 2)) = lv2) (g : kG p l e R s m args below meth c Q A nL V k n (pc + 1) lv2 st) : kG p l e R s m args below meth c Q A nL V k n pc lv (.int x :: st) := fun H locs ls hV hS hl => lv_istore_n C0.1 C0.2.1 d rfl hl hn hl2 (fun ls2 h2 => g H locs ls2 hV hS h2)
theorem k_istore (C0 : CallFix p m c cc nL s args TT own) {i : Nat} {x : Int32} (lv2 : List (Nat × Value)) (d : decode cc pc = .ok (.istore i, 2)) (hn : i < nL) (hl2 : (i, Value.int x) :: lv.filter (fun q => !(q.1 == i) && !(q.1 + 1 == i && q.2.category == 2)) = lv2) (g : kG p l e R s m args below meth c Q A nL V k n (pc + 2) lv2 st) : kG p l e R s m args below meth c Q A nL V k n pc lv (.int x :: st) := fun H locs ls hV hS hl => lv_istore C0.1 C0.2.1 d hl hn hl2 (fun ls2 h2 => g H locs ls2 hV hS h2)
theorem k_astore_n (C0 : CallFix p m c cc nL s args TT own) {i : Fin 4} {x : Nat} (lv2 : List (Nat × Value)) (d : decode cc pc = .ok (.astore_n i, 1)) (hn : (i : Nat) < nL) (hl2 : ((i : Nat), Value.ref x) :: lv.filter (fun q => !(q.1 == (i : Nat)) && !(q.1 + 1 == (i : Nat) && q.2.category == 2)) = lv2) (g : kG p l e R s m args below meth c Q A nL V k n (pc + 1) lv2 st) : kG p l e R s m args below meth c Q A nL V k n pc lv (.ref x :: st) := fun H locs ls hV hS hl => lv_astore_n C0.1 C0.2.1 d rfl hl hn hl2 (fun ls2 h2 => g H locs ls2 hV hS h2)
theorem k_astore (C0 : CallFix p m c cc nL s args TT own) {i : Nat} {x : Nat} (lv2 : List (Nat × Value)) (d : decode cc pc = .ok (.astore i, 2)) (hn : i < nL) (hl2 : (i, Value.ref x) :: lv.filter (fun q => !(q.1 == i) && !(q.1 + 1 == i && q.2.category == 2)) = lv2) (g : kG p l e R s m args below meth c Q A nL V k n (pc + 2) lv2 st) : kG p l e R s m args below meth c Q A nL V k n pc lv (.ref x :: st) := fun H locs ls hV hS hl => lv_astore C0.1 C0.2.1 d hl hn hl2 (fun ls2 h2 => g H locs ls2 hV hS h2)
theorem k_lstore_n (C0 : CallFix p m c cc nL s args TT own) {i : Fin 4} {x : Int64} (lv2 : List (Nat × Value)) (d : decode cc pc = .ok (.lstore_n i, 1)) (hn : (i : Nat) + 1 < nL) (hl2 : ((i : Nat), Value.long x) :: lv.filter (fun q => !(q.1 == (i : Nat)) && (!(q.1 == (i : Nat) + 1) && !(q.1 + 1 == (i : Nat) && q.2.category == 2))) = lv2) (g : kG p l e R s m args below meth c Q A nL V k n (pc + 1) lv2 st) : kG p l e R s m args below meth c Q A nL V k n pc lv (.long x :: st) := fun H locs ls hV hS hl => lv_lstore_n C0.1 C0.2.1 d rfl hl hn hl2 (fun ls2 h2 => g H locs ls2 hV hS h2)
theorem k_lstore (C0 : CallFix p m c cc nL s args TT own) {i : Nat} {x : Int64} (lv2 : List (Nat × Value)) (d : decode cc pc = .ok (.lstore i, 2)) (hn : i + 1 < nL) (hl2 : (i, Value.long x) :: lv.filter (fun q => !(q.1 == i) && (!(q.1 == i + 1) && !(q.1 + 1 == i && q.2.category == 2))) = lv2) (g : kG p l e R s m args below meth c Q A nL V k n (pc + 2) lv2 st) : kG p l e R s m args below meth c Q A nL V k n pc lv (.long x :: st) := fun H locs ls hV hS hl => lv_lstore C0.1 C0.2.1 d hl hn hl2 (fun ls2 h2 => g H locs ls2 hV hS h2)
theorem k_iinc (C0 : CallFix p m c cc nL s args TT own) {i : Nat} {z : Int} {x : Int32} (v : Int32) (lv2 : List (Nat × Value)) (d : decode cc pc = .ok (.iinc i z, 3)) (j : Nat) (hj : lv[j]? = some (i, .int x)) (hv : x + Int32.ofInt z = v) (hn : i < nL) (hl2 : (i, Value.int v) :: lv.filter (fun q => !(q.1 == i) && !(q.1 + 1 == i && q.2.category == 2)) = lv2) (g : kG p l e R s m args below meth c Q A nL V k n (pc + 3) lv2 st) : kG p l e R s m args below meth c Q A nL V k n pc lv st := fun H locs ls hV hS hl => lv_iinc C0.1 C0.2.1 d hl hj hv hn hl2 (fun ls2 h2 => g H locs ls2 hV hS h2)
theorem k_iadd (C0 : CallFix p m c cc nL s args TT own) {x y : Int32} (d : decode cc pc = .ok (.iadd, 1)) (g : kG p l e R s m args below meth c Q A nL V k n (pc + 1) lv (.int (x + y) :: st)) : kG p l e R s m args below meth c Q A nL V k n pc lv (.int y :: .int x :: st) := fun H locs ls hV hS hl => lv_iadd C0.1 C0.2.1 d (g H locs ls hV hS hl)
theorem k_isub (C0 : CallFix p m c cc nL s args TT own) {x y : Int32} (d : decode cc pc = .ok (.isub, 1)) (g : kG p l e R s m args below meth c Q A nL V k n (pc + 1) lv (.int (x - y) :: st)) : kG p l e R s m args below meth c Q A nL V k n pc lv (.int y :: .int x :: st) := fun H locs ls hV hS hl => lv_isub C0.1 C0.2.1 d (g H locs ls hV hS hl)
theorem k_imul (C0 : CallFix p m c cc nL s args TT own) {x y : Int32} (d : decode cc pc = .ok (.imul, 1)) (g : kG p l e R s m args below meth c Q A nL V k n (pc + 1) lv (.int (x * y) :: st)) : kG p l e R s m args below meth c Q A nL V k n pc lv (.int y :: .int x :: st) := fun H locs ls hV hS hl => lv_imul C0.1 C0.2.1 d (g H locs ls hV hS hl)
theorem k_iand (C0 : CallFix p m c cc nL s args TT own) {x y : Int32} (d : decode cc pc = .ok (.iand, 1)) (g : kG p l e R s m args below meth c Q A nL V k n (pc + 1) lv (.int (x &&& y) :: st)) : kG p l e R s m args below meth c Q A nL V k n pc lv (.int y :: .int x :: st) := fun H locs ls hV hS hl => lv_iand C0.1 C0.2.1 d (g H locs ls hV hS hl)
theorem k_idiv (C0 : CallFix p m c cc nL s args TT own) {x y : Int32} (d : decode cc pc = .ok (.idiv, 1)) (hne : ¬ y = 0) (g : kG p l e R s m args below meth c Q A nL V k n (pc + 1) lv (.int (x / y) :: st)) : kG p l e R s m args below meth c Q A nL V k n pc lv (.int y :: .int x :: st) := fun H locs ls hV hS hl => lv_idiv C0.1 C0.2.1 d hne (g H locs ls hV hS hl)
theorem k_irem (C0 : CallFix p m c cc nL s args TT own) {x y : Int32} (d : decode cc pc = .ok (.irem, 1)) (hne : ¬ y = 0) (g : kG p l e R s m args below meth c Q A nL V k n (pc + 1) lv (.int (x - x / y * y) :: st)) : kG p l e R s m args below meth c Q A nL V k n pc lv (.int y :: .int x :: st) := fun H locs ls hV hS hl => lv_irem C0.1 C0.2.1 d hne (g H locs ls hV hS hl)
theorem k_ishr (C0 : CallFix p m c cc nL s args TT own) {x y : Int32} (d : decode cc pc = .ok (.ishr, 1)) (g : kG p l e R s m args below meth c Q A nL V k n (pc + 1) lv (.int (x >>> (y &&& 31)) :: st)) : kG p l e R s m args below meth c Q A nL V k n pc lv (.int y :: .int x :: st) := fun H locs ls hV hS hl => lv_ishr C0.1 C0.2.1 d (g H locs ls hV hS hl)
theorem k_ladd (C0 : CallFix p m c cc nL s args TT own) {x y : Int64} (d : decode cc pc = .ok (.ladd, 1)) (g : kG p l e R s m args below meth c Q A nL V k n (pc + 1) lv (.long (x + y) :: st)) : kG p l e R s m args below meth c Q A nL V k n pc lv (.long y :: .long x :: st) := fun H locs ls hV hS hl => lv_ladd C0.1 C0.2.1 d (g H locs ls hV hS hl)
theorem k_lsub (C0 : CallFix p m c cc nL s args TT own) {x y : Int64} (d : decode cc pc = .ok (.lsub, 1)) (g : kG p l e R s m args below meth c Q A nL V k n (pc + 1) lv (.long (x - y) :: st)) : kG p l e R s m args below meth c Q A nL V k n pc lv (.long y :: .long x :: st) := fun H locs ls hV hS hl => lv_lsub C0.1 C0.2.1 d (g H locs ls hV hS hl)
theorem k_land (C0 : CallFix p m c cc nL s args TT own) {x y : Int64} (d : decode cc pc = .ok (.land, 1)) (g : kG p l e R s m args below meth c Q A nL V k n (pc + 1) lv (.long (x &&& y) :: st)) : kG p l e R s m args below meth c Q A nL V k n pc lv (.long y :: .long x :: st) := fun H locs ls hV hS hl => lv_land C0.1 C0.2.1 d (g H locs ls hV hS hl)
theorem k_lor (C0 : CallFix p m c cc nL s args TT own) {x y : Int64} (d : decode cc pc = .ok (.lor, 1)) (g : kG p l e R s m args below meth c Q A nL V k n (pc + 1) lv (.long (x ||| y) :: st)) : kG p l e R s m args below meth c Q A nL V k n pc lv (.long y :: .long x :: st) := fun H locs ls hV hS hl => lv_lor C0.1 C0.2.1 d (g H locs ls hV hS hl)
theorem k_i2l (C0 : CallFix p m c cc nL s args TT own) {x : Int32} (d : decode cc pc = .ok (.i2l, 1)) (g : kG p l e R s m args below meth c Q A nL V k n (pc + 1) lv (.long x.toInt64 :: st)) : kG p l e R s m args below meth c Q A nL V k n pc lv (.int x :: st) := fun H locs ls hV hS hl => lv_i2l C0.1 C0.2.1 d rfl (g H locs ls hV hS hl)
theorem k_l2i (C0 : CallFix p m c cc nL s args TT own) {x : Int64} (d : decode cc pc = .ok (.l2i, 1)) (g : kG p l e R s m args below meth c Q A nL V k n (pc + 1) lv (.int x.toInt32 :: st)) : kG p l e R s m args below meth c Q A nL V k n pc lv (.long x :: st) := fun H locs ls hV hS hl => lv_l2i C0.1 C0.2.1 d rfl (g H locs ls hV hS hl)
theorem k_lshl (C0 : CallFix p m c cc nL s args TT own) {x : Int64} {y : Int32} (d : decode cc pc = .ok (.lshl, 1)) (g : kG p l e R s m args below meth c Q A nL V k n (pc + 1) lv (.long (x <<< (y.toInt64 &&& 63)) :: st)) : kG p l e R s m args below meth c Q A nL V k n pc lv (.int y :: .long x :: st) := fun H locs ls hV hS hl => lv_lshl C0.1 C0.2.1 d rfl (g H locs ls hV hS hl)
theorem k_lshr (C0 : CallFix p m c cc nL s args TT own) {x : Int64} {y : Int32} (d : decode cc pc = .ok (.lshr, 1)) (g : kG p l e R s m args below meth c Q A nL V k n (pc + 1) lv (.long (x >>> (y.toInt64 &&& 63)) :: st)) : kG p l e R s m args below meth c Q A nL V k n pc lv (.int y :: .long x :: st) := fun H locs ls hV hS hl => lv_lshr C0.1 C0.2.1 d rfl (g H locs ls hV hS hl)
theorem k_lcmp (C0 : CallFix p m c cc nL s args TT own) {x y : Int64} (d : decode cc pc = .ok (.lcmp, 1)) (g : kG p l e R s m args below meth c Q A nL V k n (pc + 1) lv (.int (lg_cmp x y) :: st)) : kG p l e R s m args below meth c Q A nL V k n pc lv (.long y :: .long x :: st) := fun H locs ls hV hS hl => W.lcmp C0.1 C0.2.1 d (g H locs ls hV hS hl)
theorem k_dup (C0 : CallFix p m c cc nL s args TT own) {a : Value} (d : decode cc pc = .ok (.dup, 1)) (ha : a.category = 1) (g : kG p l e R s m args below meth c Q A nL V k n (pc + 1) lv (a :: a :: st)) : kG p l e R s m args below meth c Q A nL V k n pc lv (a :: st) := fun H locs ls hV hS hl => lv_dup C0.1 C0.2.1 d ha (g H locs ls hV hS hl)
theorem k_pop (C0 : CallFix p m c cc nL s args TT own) {a : Value} (d : decode cc pc = .ok (.pop, 1)) (ha : a.category = 1) (g : kG p l e R s m args below meth c Q A nL V k n (pc + 1) lv st) : kG p l e R s m args below meth c Q A nL V k n pc lv (a :: st) := fun H locs ls hV hS hl => lv_pop C0.1 C0.2.1 d ha (g H locs ls hV hS hl)
theorem k_dup2 (C0 : CallFix p m c cc nL s args TT own) {a b : Value} (d : decode cc pc = .ok (.dup2, 1)) (ha : a.category = 1) (hb : b.category = 1) (g : kG p l e R s m args below meth c Q A nL V k n (pc + 1) lv (a :: b :: a :: b :: st)) : kG p l e R s m args below meth c Q A nL V k n pc lv (a :: b :: st) := fun H locs ls hV hS hl => lv_dup2_11 C0.1 C0.2.1 d ha hb (g H locs ls hV hS hl)
theorem k_dup_x1 (C0 : CallFix p m c cc nL s args TT own) {a b : Value} (d : decode cc pc = .ok (.dup_x1, 1)) (ha : a.category = 1) (hb : b.category = 1) (g : kG p l e R s m args below meth c Q A nL V k n (pc + 1) lv (a :: b :: a :: st)) : kG p l e R s m args below meth c Q A nL V k n pc lv (a :: b :: st) := fun H locs ls hV hS hl => lv_dup_x1 C0.1 C0.2.1 d ha hb (g H locs ls hV hS hl)
theorem k_goto (C0 : CallFix p m c cc nL s args TT own) {off : Int} (tgt : Nat) (d : decode cc pc = .ok (.goto off, 3)) (ht : (pc : Int) + off = (tgt : Int)) (g : kG p l e R s m args below meth c Q A nL V k n tgt lv st) : kG p l e R s m args below meth c Q A nL V k n pc lv st := fun H locs ls hV hS hl => lv_goto C0.1 C0.2.1 d ht (g H locs ls hV hS hl)
theorem k_if_eq (C0 : CallFix p m c cc nL s args TT own) {x : Int32} {off : Int} (tgt : Nat) (d : decode cc pc = .ok (.ifCond .eq off, 3)) (ht : (pc : Int) + off = (tgt : Int)) (gt : x = 0 → kG p l e R s m args below meth c Q A nL V k n tgt lv st) (gf : ¬ x = 0 → kG p l e R s m args below meth c Q A nL V k n (pc + 3) lv st) : kG p l e R s m args below meth c Q A nL V k n pc lv (.int x :: st) := fun H locs ls hV hS hl => lv_if_eq C0.1 C0.2.1 d ht (fun h => gt h H locs ls hV hS hl) (fun h => gf h H locs ls hV hS hl)
theorem k_icmp_eq (C0 : CallFix p m c cc nL s args TT own) {x y : Int32} {off : Int} (tgt : Nat) (d : decode cc pc = .ok (.if_icmp .eq off, 3)) (ht : (pc : Int) + off = (tgt : Int)) (gt : x = y → kG p l e R s m args below meth c Q A nL V k n tgt lv st) (gf : ¬ x = y → kG p l e R s m args below meth c Q A nL V k n (pc + 3) lv st) : kG p l e R s m args below meth c Q A nL V k n pc lv (.int y :: .int x :: st) := fun H locs ls hV hS hl => lv_icmp_eq C0.1 C0.2.1 d ht (fun h => gt h H locs ls hV hS hl) (fun h => gf h H locs ls hV hS hl)
theorem k_if_ne (C0 : CallFix p m c cc nL s args TT own) {x : Int32} {off : Int} (tgt : Nat) (d : decode cc pc = .ok (.ifCond .ne off, 3)) (ht : (pc : Int) + off = (tgt : Int)) (gt : ¬ x = 0 → kG p l e R s m args below meth c Q A nL V k n tgt lv st) (gf : x = 0 → kG p l e R s m args below meth c Q A nL V k n (pc + 3) lv st) : kG p l e R s m args below meth c Q A nL V k n pc lv (.int x :: st) := fun H locs ls hV hS hl => lv_if_ne C0.1 C0.2.1 d ht (fun h => gt h H locs ls hV hS hl) (fun h => gf h H locs ls hV hS hl)
theorem k_icmp_ne (C0 : CallFix p m c cc nL s args TT own) {x y : Int32} {off : Int} (tgt : Nat) (d : decode cc pc = .ok (.if_icmp .ne off, 3)) (ht : (pc : Int) + off = (tgt : Int)) (gt : ¬ x = y → kG p l e R s m args below meth c Q A nL V k n tgt lv st) (gf : x = y → kG p l e R s m args below meth c Q A nL V k n (pc + 3) lv st) : kG p l e R s m args below meth c Q A nL V k n pc lv (.int y :: .int x :: st) := fun H locs ls hV hS hl => lv_icmp_ne C0.1 C0.2.1 d ht (fun h => gt h H locs ls hV hS hl) (fun h => gf h H locs ls hV hS hl)
theorem k_if_lt (C0 : CallFix p m c cc nL s args TT own) {x : Int32} {off : Int} (tgt : Nat) (d : decode cc pc = .ok (.ifCond .lt off, 3)) (ht : (pc : Int) + off = (tgt : Int)) (gt : x < 0 → kG p l e R s m args below meth c Q A nL V k n tgt lv st) (gf : ¬ x < 0 → kG p l e R s m args below meth c Q A nL V k n (pc + 3) lv st) : kG p l e R s m args below meth c Q A nL V k n pc lv (.int x :: st) := fun H locs ls hV hS hl => lv_if_lt C0.1 C0.2.1 d ht (fun h => gt h H locs ls hV hS hl) (fun h => gf h H locs ls hV hS hl)
theorem k_icmp_lt (C0 : CallFix p m c cc nL s args TT own) {x y : Int32} {off : Int} (tgt : Nat) (d : decode cc pc = .ok (.if_icmp .lt off, 3)) (ht : (pc : Int) + off = (tgt : Int)) (gt : x < y → kG p l e R s m args below meth c Q A nL V k n tgt lv st) (gf : ¬ x < y → kG p l e R s m args below meth c Q A nL V k n (pc + 3) lv st) : kG p l e R s m args below meth c Q A nL V k n pc lv (.int y :: .int x :: st) := fun H locs ls hV hS hl => lv_icmp_lt C0.1 C0.2.1 d ht (fun h => gt h H locs ls hV hS hl) (fun h => gf h H locs ls hV hS hl)
theorem k_if_ge (C0 : CallFix p m c cc nL s args TT own) {x : Int32} {off : Int} (tgt : Nat) (d : decode cc pc = .ok (.ifCond .ge off, 3)) (ht : (pc : Int) + off = (tgt : Int)) (gt : 0 ≤ x → kG p l e R s m args below meth c Q A nL V k n tgt lv st) (gf : ¬ 0 ≤ x → kG p l e R s m args below meth c Q A nL V k n (pc + 3) lv st) : kG p l e R s m args below meth c Q A nL V k n pc lv (.int x :: st) := fun H locs ls hV hS hl => lv_if_ge C0.1 C0.2.1 d ht (fun h => gt h H locs ls hV hS hl) (fun h => gf h H locs ls hV hS hl)
theorem k_icmp_ge (C0 : CallFix p m c cc nL s args TT own) {x y : Int32} {off : Int} (tgt : Nat) (d : decode cc pc = .ok (.if_icmp .ge off, 3)) (ht : (pc : Int) + off = (tgt : Int)) (gt : y ≤ x → kG p l e R s m args below meth c Q A nL V k n tgt lv st) (gf : ¬ y ≤ x → kG p l e R s m args below meth c Q A nL V k n (pc + 3) lv st) : kG p l e R s m args below meth c Q A nL V k n pc lv (.int y :: .int x :: st) := fun H locs ls hV hS hl => lv_icmp_ge C0.1 C0.2.1 d ht (fun h => gt h H locs ls hV hS hl) (fun h => gf h H locs ls hV hS hl)
theorem k_if_gt (C0 : CallFix p m c cc nL s args TT own) {x : Int32} {off : Int} (tgt : Nat) (d : decode cc pc = .ok (.ifCond .gt off, 3)) (ht : (pc : Int) + off = (tgt : Int)) (gt : 0 < x → kG p l e R s m args below meth c Q A nL V k n tgt lv st) (gf : ¬ 0 < x → kG p l e R s m args below meth c Q A nL V k n (pc + 3) lv st) : kG p l e R s m args below meth c Q A nL V k n pc lv (.int x :: st) := fun H locs ls hV hS hl => lv_if_gt C0.1 C0.2.1 d ht (fun h => gt h H locs ls hV hS hl) (fun h => gf h H locs ls hV hS hl)
theorem k_icmp_gt (C0 : CallFix p m c cc nL s args TT own) {x y : Int32} {off : Int} (tgt : Nat) (d : decode cc pc = .ok (.if_icmp .gt off, 3)) (ht : (pc : Int) + off = (tgt : Int)) (gt : y < x → kG p l e R s m args below meth c Q A nL V k n tgt lv st) (gf : ¬ y < x → kG p l e R s m args below meth c Q A nL V k n (pc + 3) lv st) : kG p l e R s m args below meth c Q A nL V k n pc lv (.int y :: .int x :: st) := fun H locs ls hV hS hl => lv_icmp_gt C0.1 C0.2.1 d ht (fun h => gt h H locs ls hV hS hl) (fun h => gf h H locs ls hV hS hl)
theorem k_if_le (C0 : CallFix p m c cc nL s args TT own) {x : Int32} {off : Int} (tgt : Nat) (d : decode cc pc = .ok (.ifCond .le off, 3)) (ht : (pc : Int) + off = (tgt : Int)) (gt : x ≤ 0 → kG p l e R s m args below meth c Q A nL V k n tgt lv st) (gf : ¬ x ≤ 0 → kG p l e R s m args below meth c Q A nL V k n (pc + 3) lv st) : kG p l e R s m args below meth c Q A nL V k n pc lv (.int x :: st) := fun H locs ls hV hS hl => lv_if_le C0.1 C0.2.1 d ht (fun h => gt h H locs ls hV hS hl) (fun h => gf h H locs ls hV hS hl)
theorem k_icmp_le (C0 : CallFix p m c cc nL s args TT own) {x y : Int32} {off : Int} (tgt : Nat) (d : decode cc pc = .ok (.if_icmp .le off, 3)) (ht : (pc : Int) + off = (tgt : Int)) (gt : x ≤ y → kG p l e R s m args below meth c Q A nL V k n tgt lv st) (gf : ¬ x ≤ y → kG p l e R s m args below meth c Q A nL V k n (pc + 3) lv st) : kG p l e R s m args below meth c Q A nL V k n pc lv (.int y :: .int x :: st) := fun H locs ls hV hS hl => lv_icmp_le C0.1 C0.2.1 d ht (fun h => gt h H locs ls hV hS hl) (fun h => gf h H locs ls hV hS hl)
theorem k_acmp_eq (C0 : CallFix p m c cc nL s args TT own) {rx ry : Nat} {off : Int} (tgt : Nat) (d : decode cc pc = .ok (.if_acmp .eq off, 3)) (ht : (pc : Int) + off = (tgt : Int)) (gt : rx = ry → kG p l e R s m args below meth c Q A nL V k n tgt lv st) (gf : ¬ rx = ry → kG p l e R s m args below meth c Q A nL V k n (pc + 3) lv st) : kG p l e R s m args below meth c Q A nL V k n pc lv (.ref ry :: .ref rx :: st) := fun H locs ls hV hS hl => lv_acmp_eq (rx := some rx) (ry := some ry) C0.1 C0.2.1 d ht (fun h => gt (by simpa using h) H locs ls hV hS hl) (fun h => gf (by simpa using h) H locs ls hV hS hl)
theorem k_acmp_ne (C0 : CallFix p m c cc nL s args TT own) {rx ry : Nat} {off : Int} (tgt : Nat) (d : decode cc pc = .ok (.if_acmp .ne off, 3)) (ht : (pc : Int) + off = (tgt : Int)) (gt : ¬ rx = ry → kG p l e R s m args below meth c Q A nL V k n tgt lv st) (gf : rx = ry → kG p l e R s m args below meth c Q A nL V k n (pc + 3) lv st) : kG p l e R s m args below meth c Q A nL V k n pc lv (.ref ry :: .ref rx :: st) := fun H locs ls hV hS hl => lv_acmp_ne (rx := some rx) (ry := some ry) C0.1 C0.2.1 d ht (fun h => gt (by simpa using h) H locs ls hV hS hl) (fun h => gf (by simpa using h) H locs ls hV hS hl)
/-- a value that two roads push before they meet at pcJ -/
theorem k_join (Pr : Int32 → Prop) (pcJ : Nat) (drop : Nat) {st : List Value} (t : (∀ x : Int32, Pr x → kG p l e R s m args below meth c Q A nL V k n pcJ lv (.int x :: st.drop drop)) → kG p l e R s m args below meth c Q A nL V k n pc lv st) (J : ∀ x : Int32, Pr x → kG p l e R s m args below meth c Q A nL V k n pcJ lv (.int x :: st.drop drop)) : kG p l e R s m args below meth c Q A nL V k n pc lv st := t J
theorem k_cut {B G : Prop} (b : B) (g : B → G) : G := g b
theorem k_W (hVV : ∀ H, V H → V' H) (g : kG p l e R s m args below meth c Q A nL V' k n pc lv st) : kG p l e R s m args below meth c Q A nL V k n pc lv st := fun H locs ls hV hS hl => g H locs ls (hVV H hV) hS hl
theorem k_lv (ks : List Nat) (hl2 : lv_pick lv ks = lv') (g : kG p l e R s m args below meth c Q A nL V k n pc lv' st) : kG p l e R s m args below meth c Q A nL V k n pc lv st := fun H locs ls hV hS hl => g H locs ls hV hS (lv_sub hl ks hl2)
theorem k_wid {k2 n2 : Nat} (h1 : k ≤ k2) (h2 : n ≤ n2) (g : kG p l e R s m args below meth c Q A nL V k2 n2 pc lv st) : kG p l e R s m args below meth c Q A nL V k n pc lv st := fun H locs ls hV hS hl => W.widen h1 h2 (g H locs ls hV hS hl)
theorem k_ex {B : Prop} (hB : ∀ H, V H → B) (g : B → kG p l e R s m args below meth c Q A nL V k n pc lv st) : kG p l e R s m args below meth c Q A nL V k n pc lv st := fun H locs ls hV hS hl => g (hB H hV) H locs ls hV hS hl
theorem k_exV {S : Type} {VS : S → Heap → Prop} (g : ∀ u, kG p l e R s m args below meth c Q A nL (VS u) k n pc lv st) : kG p l e R s m args below meth c Q A nL (fun H => ∃ u, VS u H) k n pc lv st := fun H locs ls hV hS hl => by
  obtain ⟨u, hu⟩ := hV
  exact g u H locs ls hu hS hl

end KF
end
section
/-! what every contract is given of its start; contracts; calls; ends; throws -/
section KD
def kTy (Y : Nat → Nat) : List (ClassId × FieldType) := [(Y 0, .int), (Y 1, .long), (Y 2, .object "ShopPaymaster$Land"), (Y 3, .object "java/lang/Object")]
def kStr : List (Nat × String) := [(112, "the sale was refunded"), (123, "the month of the sale is too long ago"), (156, "the product is the same"), (163, "the product is of another maker"), (197, "the day would be above the last one"), (202, "no such land"), (206, "no such maker"), (213, "no such product"), (215, "no such sale"), (217, "no such subscription"), (219, "an argument is out of range"), (221, "there are as many as there may be"), (227, "the subscription has ended")]
def kNc : List (String × String) := [("java/lang/IllegalStateException", "java/lang/IllegalArgumentException"), ("java/lang/IllegalStateException", "java/lang/IndexOutOfBoundsException"), ("java/lang/IllegalArgumentException", "java/lang/IllegalStateException"), ("java/lang/IndexOutOfBoundsException", "java/lang/IllegalArgumentException"), ("java/lang/IndexOutOfBoundsException", "java/lang/IllegalStateException"), ("java/lang/IllegalArgumentException", "java/lang/IndexOutOfBoundsException")]
def kCa : List (String × String) := [("java/lang/IllegalArgumentException", "java/lang/IllegalArgumentException"), ("java/lang/IllegalStateException", "java/lang/IllegalStateException"), ("java/lang/IndexOutOfBoundsException", "java/lang/IndexOutOfBoundsException"), (RX1, "java/lang/Object"), (RX2, "java/lang/Object"), (RX3, "java/lang/Object"), (RX4, "java/lang/Object")]
/-- of the heap: static fields that nobody writes -/
def SK (A : Nat → Prop) (Y : Nat → Nat) (U : State) (H : Heap) : Prop := vx_Zq Bundle.tN "UNASSIGNED_STACK" Bundle.steD A U H ∧ vx_Zq Bundle.tN "SUPPRESSED_SENTINEL" Bundle.listD A U H ∧ va_Z RJx4a65c "DEFAULTCAPACITY_EMPTY_ELEMENTDATA" "[Ljava/lang/Object;" (.ref (Y 4)) A U H ∧ va_T (.object "java/lang/Object") (Y 4) 0 (fun _ => .null) A U H
/-- of the tables -/
def UK (D : va_G) (Y : Nat → Nat) (U : State) : Prop := va_K D vwCl (kTy Y) U ∧ (∀ q ∈ kStr, ∃ a, vk_R RX5 q.1 q.2 a U) ∧ va_Mi "[Ljava/lang/Object;" (Y 5) U ∧ va_Dc U ∧ (∀ q ∈ kNc, va_Nc q.1 q.2 U) ∧ (∀ q ∈ kCa, va_Nw (.castable q.1 q.2) U) ∧ (va_Nw (.declares kD0) U ∧ va_Nw (.declares kD1) U ∧ va_Nw (.declares kD2) U) ∧ va_AO "java/lang/Object" U ∧ va_AO "ShopPaymaster$Land" U
def PK (D : va_G) (Y : Nat → Nat) (A : Nat → Prop) (U : State) : Prop := UK D Y U ∧ (∀ q, U.heap.size ≤ q → A q) ∧ SK A Y U U.heap
theorem SK.moved {A : Nat → Prop} {Y : Nat → Nat} {u U : State} {H : Heap} (hvm : u.vm.Alike U.vm) (h : SK A Y u H) : SK A Y U H := ⟨vx_Zq.moved hvm h.1, vx_Zq.moved hvm h.2.1, va_Z.moved hvm h.2.2.1, va_T.moved hvm h.2.2.2⟩
theorem SK.kept {A : Nat → Prop} {Y : Nat → Nat} {U : State} {H H1 : Heap} (h : SK A Y U H) (hq : ∀ a : Nat, a < H.size → ¬ A a → H1[a]? = H[a]?) : SK A Y U H1 := ⟨vx_Zq.kept h.1 hq, vx_Zq.kept h.2.1 hq, va_Z.kept h.2.2.1 hq, va_T.kept h.2.2.2 hq⟩
theorem SK.narrow {A B : Nat → Prop} {Y : Nat → Nat} {U : State} {H : Heap} (h : SK A Y U H) (hAB : ∀ q, B q → A q) : SK B Y U H := ⟨vx_Zq.narrow h.1 hAB, vx_Zq.narrow h.2.1 hAB, va_Z.narrow h.2.2.1 hAB, va_T.narrow h.2.2.2 hAB⟩
theorem UK.warm {D : va_G} {Y : Nat → Nat} {s U : State} (hW : s.WarmedH U.vm) (h : UK D Y s) : UK D Y U := by
  obtain ⟨h1, h2, h3, h4, h5, h8, h9, h6, h7⟩ := h
  refine ⟨h1.moved hW.alike, fun q hq => ?_, h3.moved hW.alike, h4.moved hW.alike, fun q hq => (h5 q hq).moved hW.alike, fun q hq => va_Nw.warmC hW (h8 q hq), ⟨va_Nw.warmD hW h9.1, va_Nw.warmD hW h9.2.1, va_Nw.warmD hW h9.2.2⟩, h6.moved hW.alike, h7.moved hW.alike⟩
  obtain ⟨a, ha⟩ := h2 q hq
  exact ⟨a, ha.warm hW⟩
theorem UK.same {D : va_G} {Y : Nat → Nat} {s U : State} (hv : U.vm = s.vm) (h : UK D Y s) : UK D Y U := h.warm (by rw [hv]; exact State.WarmedH.refl s)
theorem PK.calling {D : va_G} {Y : Nat → Nat} {A : Nat → Prop} {U : State} (h : PK D Y A U) (g : JFrame) (mk : MethodId) (a : Array Value) : PK D Y A (U.calling g mk a) := ⟨h.1.same rfl, h.2.1, SK.moved (Vm.Alike.refl U.vm) h.2.2⟩
/-- at a callee's start -/
theorem PK.next {D : va_G} {Y : Nat → Nat} {A : Nat → Prop} {s U : State} {locs : List Loc} (h : PK D Y A s) (hW : s.WarmedH U.vm) (hS : va_S A s.heap U.heap locs) : PK D Y A U := ⟨h.1.warm hW, fun q hq => h.2.1 q (Nat.le_trans hS.1 hq), SK.moved hW.alike (h.2.2.kept hS.2.1)⟩
/-- a callee that may write less: its own cells B, and new ones -/
theorem PK.nextB {D : va_G} {Y : Nat → Nat} {A B : Nat → Prop} {s U : State} {locs : List Loc} (h : PK D Y A s) (hW : s.WarmedH U.vm) (hS : va_S A s.heap U.heap locs) (hB : ∀ q, B q → A q) (hn : ∀ q, U.heap.size ≤ q → B q) : PK D Y B U := ⟨h.1.warm hW, hn, SK.moved hW.alike ((h.2.2.kept hS.2.1).narrow hB)⟩
def cQ {S : Type} (rv : S → Option Value) (V' : S → Heap → Prop) (A : Nat → Prop) : Array Value → State → Outcome → State → Prop := fun _ st o t => (∃ u, o = .returned (rv u) ∧ V' u t.heap) ∧ va_F A st t
def cX (VX : String → Heap → Prop) (A : Nat → Prop) : String → State → State → Prop := fun E st t => VX E t.heap ∧ va_F A st t
/-- A CONTRACT: from V, with arguments As: it returns rv u with V' u, or throws E with VX E; at most mc cells of ms slots are new; nothing but A changes -/
def CT (l : Launch) (y : MethodName) (w0 : Cond) (F LOC : Nat) (D : va_G) (Y : Nat → Nat) (A : Nat → Prop) (As : List Value) (V : Heap → Prop) {S : Type} (rv : S → Option Value) (V' : S → Heap → Prop) (VX : String → Heap → Prop) (mc ms : Nat) : Prop :=
  vx_Met l y (w0 :: TT) { frames := F, cells := mc, slots := ms, locals := LOC } (va_Pc As (fun U => V U.heap ∧ PK D Y A U)) (cQ rv V' A) (cX VX A) mc ms A
def noX : String → Heap → Prop := fun _ _ => False
theorem TT_in (w : Cond) (h : w ∈ TT) : w ∈ TT ∧ ((w.onTables && w.keeps) = true ∨ ∃ ty, w = .arrayClass ty) := ⟨h, good_of_word (TT_gd w h)⟩
theorem goodTT {y : MethodName} {b : ByteArray} {n : Nat} {r : Option FieldType} (h : Cond.code y b n r ∈ TT) : GoodIn TT (Cond.code y b n r :: TT) := fun w hw => TT_in w ((List.mem_cons.mp hw).elim (fun e => e ▸ h) id)
theorem goodTV {own : String} {idx : Nat} {y : MethodName} {b : ByteArray} {n : Nat} {r : Option FieldType} (h1 : Cond.methodLink own idx y ∈ TT) (h2 : Cond.instanceMethod y ∈ TT) (h3 : Cond.selects y.cls y y ∈ TT) (h4 : Cond.initialized y.cls ∈ TT) (h5 : Cond.code y b n r ∈ TT) : GoodIn TT (wsV own idx y.cls y (Cond.code y b n r :: TT)) := by
  intro w hw
  rcases List.mem_append.mp hw with hw | hw
  · refine TT_in w ?_
    simp only [List.mem_cons, List.not_mem_nil, or_false] at hw
    rcases hw with rfl | rfl | rfl | rfl <;> assumption
  · exact goodTT h5 w hw
theorem goodTS {own : String} {idx : Nat} {y : MethodName} {ws : List Cond} (h1 : Cond.methodLink own idx y ∈ TT) (h2 : Cond.static y ∈ TT) (h4 : Cond.initialized y.cls ∈ TT) (h5 : GoodIn TT ws) : GoodIn TT (va_wsS own idx y ws) := by
  intro w hw
  rcases List.mem_append.mp hw with hw | hw
  · refine TT_in w ?_
    simp only [List.mem_cons, List.not_mem_nil, or_false] at hw
    rcases hw with rfl | rfl | rfl <;> assumption
  · exact h5 w hw
theorem goodTW {y : MethodName} {b : ByteArray} {n : Nat} {r : Option FieldType} {hh : List (Nat × Nat × Nat × Nat)} (h : Cond.codeWith y b n r hh ∈ TT) : GoodIn TT (Cond.codeWith y b n r hh :: TT) := fun w hw => TT_in w ((List.mem_cons.mp hw).elim (fun e => e ▸ h) id)
end KD
section KE
variable {p : Program} {l : Launch} {e : Env} {R : Room} {s : State} {m : MethodId} {args : Array Value} {below : List Frame} {meth : Method} {c : Code} {Q : State → Prop}
variable {A : Nat → Prop} {V : Heap → Prop} {k n nL pc : Nat} {lv : List (Nat × Value)} {st rest : List Value} {cc : ByteArray} {own : String} {D : va_G} {Y : Nat → Nat}
theorem va_S.toF {s t : State} {H : Heap} {locs : List Loc} (h : va_S A s.heap H locs) (ht : t.heap = H) : va_F A s t := h.F ht
/-- behind a call: what came back, or was thrown -/
theorem k_run {S : Type} {rv : S → Option Value} {V' : S → Heap → Prop} {VX : String → Heap → Prop} {mc ms : Nat} {st0 : List Value} {a : Array Value}
    (hr : ∀ (H : Heap) (locs : List Loc) (ls : Array Slot), V H → va_S A s.heap H locs → lv_has ls nL lv → vx_Run p l e R s m args below meth c H locs k n mc ms (F0 m pc ls st0) rest (cQ rv V' A a) (cX VX A) A)
    (kx : ∀ E, kX p l e R s m args below meth c Q A nL (VX E) (k + mc) (n + ms) pc lv E)
    (kk : ∀ u, kG p l e R s m args below meth c Q A nL (V' u) (k + mc) (n + ms) (pc + 3) lv ((rv u).toList ++ rest)) : kG p l e R s m args below meth c Q A nL V k n pc lv st0 := by
  intro H locs ls hV hS hl T hT X
  rcases hr H locs ls hV hS hl T hT X with ⟨v, st₀, t, T', L, h0, X', hL, e1, e2, ⟨⟨u, hv, hp⟩, hF⟩, go⟩ | ⟨q, st₀, t, T', L, E, ce, h0, X', hL, e1, e2, ⟨hp, hF⟩, hce, hcv, hcl, go⟩
  · cases hv
    obtain ⟨k1, k2, k3⟩ := vx_keep (A0 := A) (A1 := A) h0 e1 hS (fun q _ h => h) (fun q h => h) hL hF
    obtain ⟨t2, a1, b1⟩ := kk u T'.heap (locs ++ L) ls (by rw [e1]; exact hp) k3 hl T' rfl X'
    exact ⟨t2, go t2 a1, b1⟩
  · obtain ⟨k1, k2, k3⟩ := vx_keep (A0 := A) (A1 := A) h0 e1 hS (fun q _ h => h) (fun q h => h) hL hF
    obtain ⟨t2, a1, b1⟩ := kx E T'.heap (locs ++ L) ls rest q ce (by rw [e1]; exact hp) k3 hl (by rw [e1]; exact hce) hcv hcl T' rfl X'
    exact ⟨t2, go.trans a1, b1⟩
theorem k_blind {As : List Value} {V : Heap → Prop} : FrameBlind (va_Pc As (fun U => V U.heap ∧ PK D Y A U)) := fun a U g mk h => ⟨h.1, h.2.1, h.2.2.calling g mk a⟩
theorem k_callV (C0 : CallFix p m c cc nL s args TT own) (K0 : PK D Y A s) {idx maxL F LOC mc ms b0 : Nat} {y : MethodName} {bytes : ByteArray} {ret : Option FieldType} {as : List Value} {S : Type} {rv : S → Option Value} {V' : S → Heap → Prop} {VX : String → Heap → Prop} {st0 : List Value}
    (d : decode cc pc = .ok (.invokevirtual idx, 3)) (hM : CT l y (Cond.code y bytes maxL ret) F LOC D Y A (.ref b0 :: as) V rv V' VX mc ms)
    (hw : GoodIn TT (wsV own idx y.cls y (Cond.code y bytes maxL ret :: TT))) (hy : y.cls ≠ "java/lang/invoke/MethodHandle" ∧ y.cls ≠ "java/lang/invoke/VarHandle" ∧ (parseMethodDescriptor y.desc).map (fun d => d.parameters.length) = some as.length)
    (hrecv : ∀ H, V H → ∃ cellB : Cell, H[b0]? = some cellB ∧ cellB.vm.isStatics = false ∧ s.vm.findClass y.cls = some cellB.cls) (hst : st0 = as.reverse ++ .ref b0 :: rest) (hcat : (rest.map fun v => v.category).sum ≤ 8)
    (hR : F + 1 ≤ R.frames ∧ 8 + (maxL + 11) + LOC ≤ R.locals) (hf : k + mc ≤ R.cells ∧ n + ms ≤ R.slots)
    (kx : ∀ E, kX p l e R s m args below meth c Q A nL (VX E) (k + mc) (n + ms) pc lv E)
    (kk : ∀ u, kG p l e R s m args below meth c Q A nL (V' u) (k + mc) (n + ms) (pc + 3) lv ((rv u).toList ++ rest)) : kG p l e R s m args below meth c Q A nL V k n pc lv st0 :=
  k_run (a := (Value.ref b0 :: as).toArray) (fun H locs ls hV hS hl => vx_runV C0 hM (cwV as.length C0.2.2.2.2 hw rfl rfl rfl ⟨rfl, hy⟩ hR) ⟨k_blind, hrecv H hV, fun U hU hW => ⟨rfl, by rw [hU]; exact hV, K0.next hW (by rw [hU]; exact hS)⟩⟩ rfl rfl hl.1 hst (lv_room hcat) d hf) kx kk
theorem k_callS (C0 : CallFix p m c cc nL s args TT own) (K0 : PK D Y A s) {idx maxL F LOC mc ms : Nat} {y : MethodName} {bytes : ByteArray} {ret : Option FieldType} {as : List Value} {S : Type} {rv : S → Option Value} {V' : S → Heap → Prop} {VX : String → Heap → Prop} {st0 : List Value}
    (d : decode cc pc = .ok (.invokestatic idx, 3)) (hM : CT l y (Cond.code y bytes maxL ret) F LOC D Y A as V rv V' VX mc ms)
    (hw : GoodIn TT (va_wsS own idx y (Cond.code y bytes maxL ret :: TT))) (hy : y.cls ≠ "java/lang/invoke/MethodHandle" ∧ y.cls ≠ "java/lang/invoke/VarHandle" ∧ (parseMethodDescriptor y.desc).map (fun d => d.parameters.length) = some as.length)
    (hst : st0 = as.reverse ++ rest) (hcat : (rest.map fun v => v.category).sum ≤ 8)
    (hR : F + 1 ≤ R.frames ∧ 8 + (maxL + 11) + LOC ≤ R.locals) (hf : k + mc ≤ R.cells ∧ n + ms ≤ R.slots)
    (kx : ∀ E, kX p l e R s m args below meth c Q A nL (VX E) (k + mc) (n + ms) pc lv E)
    (kk : ∀ u, kG p l e R s m args below meth c Q A nL (V' u) (k + mc) (n + ms) (pc + 3) lv ((rv u).toList ++ rest)) : kG p l e R s m args below meth c Q A nL V k n pc lv st0 :=
  k_run (a := as.toArray) (fun H locs ls hV hS hl => vx_runS C0 hM (va_cwS as.length C0.2.2.2.2 hw rfl rfl rfl hy hR) ⟨k_blind, fun U hU hW => ⟨rfl, by rw [hU]; exact hV, K0.next hW (by rw [hU]; exact hS)⟩⟩ rfl rfl hl.1 hst (lv_room hcat) d hf) kx kk
theorem k_callI (C0 : CallFix p m c cc nL s args TT own) (K0 : PK D Y A s) {idx maxL F LOC mc ms b0 : Nat} {y : MethodName} {bytes : ByteArray} {as : List Value} {S : Type} {rv : S → Option Value} {V' : S → Heap → Prop} {VX : String → Heap → Prop} {st0 : List Value}
    (d : decode cc pc = .ok (.invokespecial idx, 3)) (hM : CT l y (Cond.code y bytes maxL none) F LOC D Y A (.ref b0 :: as) V rv V' VX mc ms)
    (h5 : Cond.code y bytes maxL none ∈ TT) (h4 : Cond.initialized y.cls ∈ TT) (h1 : Cond.methodLink own idx y ∈ TT) (h2 : Cond.instanceMethod y ∈ TT) (hn1 : y.name = "<init>") (hy : y.cls ≠ "java/lang/invoke/MethodHandle" ∧ y.cls ≠ "java/lang/invoke/VarHandle" ∧ (parseMethodDescriptor y.desc).map (fun d => d.parameters.length) = some as.length)
    (hst : st0 = as.reverse ++ .ref b0 :: rest) (hcat : (rest.map fun v => v.category).sum ≤ 8)
    (hR : F + 1 ≤ R.frames ∧ 8 + (maxL + 11) + LOC ≤ R.locals) (hf : k + mc ≤ R.cells ∧ n + ms ≤ R.slots)
    (kx : ∀ E, kX p l e R s m args below meth c Q A nL (VX E) (k + mc) (n + ms) pc lv E)
    (kk : ∀ u, kG p l e R s m args below meth c Q A nL (V' u) (k + mc) (n + ms) (pc + 3) lv ((rv u).toList ++ rest)) : kG p l e R s m args below meth c Q A nL V k n pc lv st0 :=
  k_run (a := (Value.ref b0 :: as).toArray) (fun H locs ls hV hS hl => vx_runI C0 hM (cwI as.length C0.2.2.2.2 (goodTT h5) rfl rfl rfl (C0.2.2.2.2 _ h4) (C0.2.2.2.2 _ h1) (C0.2.2.2.2 _ h2) hn1 hy hR) ⟨k_blind, fun U hU hW => ⟨rfl, by rw [hU]; exact hV, K0.next hW (by rw [hU]; exact hS)⟩⟩ rfl rfl hl.1 hst (lv_room hcat) d hf) kx kk
theorem k_objInit (C0 : CallFix p m c cc nL s args TT own) {idx b0 : Nat} (d : decode cc pc = .ok (.invokespecial idx, 3)) (h1 : Cond.methodLink own idx objectInit ∈ TT) (h2 : Cond.instanceMethod objectInit ∈ TT) (h3 : Cond.code objectInit ⟨#[0xb1]⟩ 1 none ∈ TT)
    (hfr : 1 ≤ R.frames) (hlo : (rest.map fun v => v.category).sum + 12 ≤ R.locals) (g : kG p l e R s m args below meth c Q A nL V k n (pc + 3) lv rest) : kG p l e R s m args below meth c Q A nL V k n pc lv (.ref b0 :: rest) := fun H locs ls hV hS hl =>
  W.objInit C0.1 C0.2.1 C0.2.2.2.1 (C0.2.2.2.2 _ h1) (C0.2.2.2.2 _ h2) (C0.2.2.2.2 _ h3) rfl (by rw [C0.2.2.1]; exact hl.1) rfl d hfr (by show 2 * 0 + _ + 12 ≤ _; omega) (g H locs ls hV hS hl)
theorem kX_no (E : String) : kX p l e R s m args below meth c Q A nL (noX E) k n pc lv E := fun _ _ _ _ _ _ h => h.elim
section KEnd
variable {S : Type} {rv : S → Option Value} {V' : S → Heap → Prop} {VX : String → Heap → Prop} {mc ms : Nat}
abbrev kQ (below : List Frame) {S : Type} (rv : S → Option Value) (V' : S → Heap → Prop) (VX : String → Heap → Prop) (A : Nat → Prop) (args : Array Value) (s : State) (mc ms : Nat) : State → Prop := vx_MQ below (cQ rv V' A) (cX VX A) args s mc ms A
theorem k_iret (C0 : CallFix p m c cc nL s args TT own) {v : Int32} (d : decode cc pc = .ok (.ireturn, 1)) (hr : meth.sig.returnType = some .int) (hlk : meth.locks = false) (hk : k ≤ mc) (hn : n ≤ ms) (u : S) (hu : rv u = some (.int v)) (hV : ∀ H, V H → V' u H) : kG p l e R s m args below meth c (kQ below rv V' VX A args s mc ms) A nL V k n pc lv [.int v] := fun H locs ls hV0 hS hl =>
  W.widen hk hn (vx_ret (W.iret C0.1 C0.2.1 hr (fun t ht hW => ⟨⟨u, by rw [hu], by rw [ht]; exact hV H hV0⟩, hS.F ht⟩) hS.2.2 d hlk))
theorem k_zret (C0 : CallFix p m c cc nL s args TT own) {v : Int32} {ty : FieldType} (d : decode cc pc = .ok (.ireturn, 1)) (hr : meth.sig.returnType = some ty) (hz : narrow ty (.int v) = .int v) (hlk : meth.locks = false) (hk : k ≤ mc) (hn : n ≤ ms) (u : S) (hu : rv u = some (.int v)) (hV : ∀ H, V H → V' u H) : kG p l e R s m args below meth c (kQ below rv V' VX A args s mc ms) A nL V k n pc lv [.int v] := fun H locs ls hV0 hS hl =>
  W.widen hk hn (vx_ret (W.zret C0.1 C0.2.1 hr hz (fun t ht hW => ⟨⟨u, by rw [hu], by rw [ht]; exact hV H hV0⟩, hS.F ht⟩) hS.2.2 d hlk))
theorem k_aret (C0 : CallFix p m c cc nL s args TT own) {v : Nat} {ty : FieldType} (d : decode cc pc = .ok (.areturn, 1)) (hr : meth.sig.returnType = some ty) (hrt : (∃ n, ty = .object n) ∨ ∃ t, ty = .array t) (hlk : meth.locks = false) (hk : k ≤ mc) (hn : n ≤ ms) (u : S) (hu : rv u = some (.ref v)) (hV : ∀ H, V H → V' u H) : kG p l e R s m args below meth c (kQ below rv V' VX A args s mc ms) A nL V k n pc lv [.ref v] := fun H locs ls hV0 hS hl =>
  W.widen hk hn (vx_ret (W.aret C0.1 C0.2.1 hr hrt (Or.inr ⟨_, rfl⟩) (fun t ht hW => ⟨⟨u, by rw [hu], by rw [ht]; exact hV H hV0⟩, hS.F ht⟩) hS.2.2 d hlk))
theorem k_vret (C0 : CallFix p m c cc nL s args TT own) (d : decode cc pc = .ok (.return_, 1)) (hr : meth.sig.returnType = none) (hlk : meth.locks = false) (hk : k ≤ mc) (hn : n ≤ ms) (u : S) (hu : rv u = none) (hV : ∀ H, V H → V' u H) : kG p l e R s m args below meth c (kQ below rv V' VX A args s mc ms) A nL V k n pc lv [] := fun H locs ls hV0 hS hl =>
  W.widen hk hn (vx_ret (W.vret C0.1 C0.2.1 hr (fun t ht hW => ⟨⟨u, by rw [hu], by rw [ht]; exact hV H hV0⟩, hS.F ht⟩) hS.2.2 d hlk))
theorem kX_out {E : String} (htab : ∀ x ∈ c.exceptionTable.toList, False) (hlk : meth.locks = false) (hk : k ≤ mc) (hn : n ≤ ms) (hV : ∀ H, V H → VX E H) : kX p l e R s m args below meth c (kQ below rv V' VX A args s mc ms) A nL V k n pc lv E := fun H locs ls rest q ce hV0 hS hl hcell hcv hcl =>
  vx_out (fun x hx => (htab x hx).elim) hlk hcell hcv hcl (fun t ht _ => ⟨by rw [ht]; exact hV H hV0, hS.F ht⟩) hS.2.2 hk hn
theorem k_throwS (C0 : CallFix p m c cc nL s args TT own) (K0 : PK D Y A s) (hlt : l.stackTraces = false) (htab : ∀ x ∈ c.exceptionTable.toList, False) (hlk : meth.locks = false) {ik is ic : Nat} {cls text : String} (hown : own = RX5) (hstr : (is, text) ∈ kStr) (hcls : Bundle.fit cls = true)
    (hk1 : Cond.classLink RX5 ik cls ∈ TT) (hini : Cond.initialized cls ∈ TT) (hx : ∀ w ∈ (vx_atS RX5 ic cls ["java/lang/RuntimeException", "java/lang/Exception"]).filter goodWord, w ∈ TT) (hy : ∀ w ∈ (vx_atS RX5 ic cls ["java/lang/RuntimeException", "java/lang/Exception"]).filter (fun w => !goodWord w), w ∈ [Cond.castable cls cls, .declares kD0, .declares kD1, .declares kD2]) (hz : ∀ w ∈ Cond.classLink RX5 ik cls :: Cond.initialized cls :: vx_atS RX5 ic cls ["java/lang/RuntimeException", "java/lang/Exception"], vx_ot w = true) (hca : (cls, cls) ∈ kCa)
    (d0 : decode cc pc = .ok (.new ik, 3)) (d3 : decode cc (pc + 3) = .ok (.dup, 1)) (d4 : decode cc (pc + 4) = .ok (.ldc is, 2)) (d6 : decode cc (pc + 6) = .ok (.invokespecial ic, 3)) (d9 : decode cc (pc + 9) = .ok (.athrow, 1))
    (hR1 : 5 < R.frames) (hR2 : 82 ≤ R.locals) (hR3 : k + 1 ≤ R.cells) (hR4 : n + 6 ≤ R.slots) (hk : k + 1 ≤ mc) (hn : n + 6 ≤ ms) (hst : (st.map fun v => v.category).sum = 0)
    (hV : ∀ H H' : Heap, V H → H.size ≤ H'.size → (∀ q : Nat, q < H.size → H'[q]? = H[q]?) → VX cls H') : kG p l e R s m args below meth c (kQ below rv V' VX A args s mc ms) A nL V k n pc lv st := by
  subst hown
  intro H locs ls hV0 hS hl
  obtain ⟨sa, hsa⟩ := K0.1.2.1 _ hstr
  have hU := K0.1
  obtain ⟨-, -, -, -, -, u1, u2, -, -⟩ := hU
  refine vx_throwS (A := A) (names := ["java/lang/RuntimeException", "java/lang/Exception"]) C0.1 C0.2.1 hlt C0.2.2.2.1 hcls (by decide +kernel) (C0.2.2.2.2 _ hk1) (C0.2.2.2.2 _ hini) hsa
    (vx_hat (fun w h => C0.2.2.2.2 w (hx w h)) hy (vx_c (va_Nw.use rfl (u1 _ hca)) (vx_c (va_Nw.use rfl u2.1) (vx_c (va_Nw.use rfl u2.2.1) (vx_c (va_Nw.use rfl u2.2.2) vx_n))))) hz K0.2.2.1 K0.2.2.2.1 hS (by rw [C0.2.2.1]; exact hl.1) d0 d3 d4 d6 d9 (fun x h => (htab x h).elim) hR1 (by rw [hst]; exact hR2) hR3 hR4 hlk
    (fun t hal hz1 hq1 => ⟨hV H _ hV0 hz1 hq1, ?_⟩) hS.2.2 hk hn
  exact ⟨Nat.le_trans hS.1 hz1, fun q h1 h2 => (hq1 q (Nat.lt_of_lt_of_le h1 hS.1)).trans (hS.2.1 q h1 h2)⟩
/-- a contract out of its body's walk -/
theorem CT.of {l : Launch} {y : MethodName} {cc : ByteArray} {maxL : Nat} {ret : Option FieldType} {F LOC : Nat} {As : List Value} {V : Heap → Prop} (hy : plainName y.cls = true) (hAs : (lg_sl As).length ≤ maxL)
    (body : ∀ (p : Program) (e : Env) (s : State) (m : MethodId) (below : List Frame) (meth : Method) (c : Code), CallFix p m c cc maxL s As.toArray TT y.cls → PK D Y A s → meth.sig.returnType = ret → meth.locks = false → (∀ x ∈ c.exceptionTable.toList, False) → meth.name = y.name →
      kG p l e { frames := F, cells := mc, slots := ms, locals := LOC } s m As.toArray below meth c (kQ below rv V' VX A As.toArray s mc ms) A maxL V 0 0 0 (lv_args 0 As) []) :
    CT l y (Cond.code y cc maxL ret) F LOC D Y A As V rv V' VX mc ms := by
  refine vx_ofW (cc := cc) (maxL := maxL) (ret := ret) hy rfl ?_
  intro p e s m args below meth c s₁ B hml ht hv
  obtain ⟨rfl, hV0, hK⟩ := hv
  have hts := atoms_spec (ws := Cond.code y cc maxL ret :: TT) B.pre
  have h := body p e s m below meth c ⟨B.exec, B.bytes, hml, findClass_of_methodNamed B.named, fun w hw => hts w (List.mem_cons_of_mem _ hw)⟩ hK B.returns B.notSynchronized ht (name_of_methodNamed B.named B.method).1
  rw [lg_entry_eq]
  exact h s.heap [] _ hV0 va_S.rf (lv_entry As hAs)
end KEnd
end KE
end
section
/-! rows that touch the heap: V says what the cell holds, V' what holds behind a store -/
section KH
variable {p : Program} {l : Launch} {e : Env} {R : Room} {s : State} {m : MethodId} {args : Array Value} {below : List Frame} {meth : Method} {c : Code} {Q : State → Prop}
variable {A : Nat → Prop} {V V' : Heap → Prop} {k n nL pc : Nat} {lv : List (Nat × Value)} {st rest : List Value} {cc : ByteArray} {own : String} {D : va_G} {Y : Nat → Nat} {a : Nat}
theorem at_P {q : Nat × va_E} {H : Heap} (h : va_at D vwCl q H) : va_P D vwCl [q] H := fun i x hx => by
  match i, hx with
  | 0, hx => cases hx; exact h
  | i + 1, hx => simp at hx
theorem k_get (C0 : CallFix p m c cc nL s args TT own) (K0 : PK D Y A s) {ref C : String} {T : u_T} {N ci index : Nat} {fs : List Value} {v : Value} (hin : ∀ w ∈ u_ws C T N, w ∈ TT) (hc : vwCl[ci]? = some (C, T, N)) (j : Nat) (hj : j < N) (d : decode cc pc = .ok (.getfield index, 3)) (hlink : Cond.fieldLink own index ref (T j).2.1 (T j).2.2.1 ∈ TT) (hsame : ∀ x, s.fieldFound? (T j).1 (T j).2.1 (T j).2.2.1 = some x → s.fieldFound? ref (T j).2.1 (T j).2.2.1 = some x)
    (hV : ∀ H, V H → va_at D vwCl (a, .inr (ci, fs)) H) (hv : fs[j]? = some v) (g : kG p l e R s m args below meth c Q A nL V k n (pc + 3) lv (v :: st)) : kG p l e R s m args below meth c Q A nL V k n pc lv (.ref a :: st) := fun H locs ls hV0 hS hl =>
  va_get (ws := [(a, .inr (ci, fs))]) C0.1 C0.2.1 C0.2.2.2.2 hin C0.2.2.2.1 K0.1.1 (at_P (hV H hV0)) 0 rfl hc j hj (C0.2.2.2.2 _ hlink) hsame hv d (g H locs ls hV0 hS hl)
theorem k_put (C0 : CallFix p m c cc nL s args TT own) (K0 : PK D Y A s) {ref C : String} {T : u_T} {N ci index : Nat} {fs : List Value} {v : Value} {ty : FieldType} (hin : ∀ w ∈ u_ws C T N, w ∈ TT) (hc : vwCl[ci]? = some (C, T, N)) (ty0 : Nat → FieldType) (hty : ∀ k, k < N → parseFieldDescriptor (T k).2.2.1 = some (ty0 k)) (hnm : ∀ a, a < N → ∀ b, b < N → a ≠ b → (T a).2.1 ≠ (T b).2.1) (j : Nat) (hj : j < N) (d : decode cc pc = .ok (.putfield index, 3)) (hlink : Cond.fieldLink own index ref (T j).2.1 (T j).2.2.1 ∈ TT) (hsame : ∀ x, s.fieldFound? (T j).1 (T j).2.1 (T j).2.2.1 = some x → s.fieldFound? ref (T j).2.1 (T j).2.2.1 = some x) (hfin : (T j).2.2.2 = false) (hd : parseFieldDescriptor (T j).2.2.1 = some ty) (hn : narrow ty v = v) (hfit : fits ty v = true) (hl2 : j < fs.length)
    (hV : ∀ H, V H → va_at D vwCl (a, .inr (ci, fs)) H ∧ A a) (hV' : ∀ H H', V H → H'.size = H.size → va_at D vwCl (a, .inr (ci, fs.set j v)) H' → (∀ q, q ≠ a → H'[q]? = H[q]?) → V' H') (g : kG p l e R s m args below meth c Q A nL V' k n (pc + 3) lv st) : kG p l e R s m args below meth c Q A nL V k n pc lv (v :: .ref a :: st) := by
  intro H locs ls hV0 hS hl
  obtain ⟨⟨r, h1, cell, q1, q2, q3, q4⟩, hAa⟩ := hV H hV0
  have hap := va_apart (own := own) C0.2.2.2.2 hin ty0 hty hnm K0.1.1 hc
  have hr : r = (C, T, N) := Option.some.inj (h1.symm.trans hc)
  subst hr
  obtain ⟨hSl, hfc, kC, hkC, hkind⟩ := K0.1.1.1 ci _ hc
  obtain ⟨cf, kf, fi, f, hi, hsl⟩ := hSl j hj
  have hlay := C0.2.2.2.2 _ (hin _ (u_in_lay hj))
  unfold u_lay at hlay
  rw [if_neg (by rw [hfin]; decide)] at hlay
  have hst := (u_facts hfc hkC (u_lays C0.2.2.2.2 hin hj) hi).1
  have h6 := u_store hfc hkC hkind hlay hi hd hn hfit
  refine W.putK C0.1 C0.2.1 (f := f) ⟨C0.2.2.2.1, C0.2.2.2.2 _ hlink, ⟨_, _, _, hsame _ hi⟩, hst⟩ (by rw [q2]; exact h6) q1 q3 (by rw [hsl]; exact k2_hasslot (q4 j hj)) rfl rfl d fun H' e1 e2 e3 => ?_
  rw [hsl] at e1 ⊢
  exact g H' _ ls (hV' H H' hV0 e2 ⟨_, hc, t_OB.to (V := updV (vp_V fs) j v) ⟨_, e1, q2, q3, t_set q4 hap hj v⟩ (fun i _ => vp_updV_set hl2 v i)⟩ e3) (hS.put e2 e3 hAa) hl
theorem k_putF (C0 : CallFix p m c cc nL s args TT own) (K0 : PK D Y A s) {ref C : String} {T : u_T} {N ci index : Nat} {fs : List Value} {v : Value} {ty : FieldType} (hin : ∀ w ∈ u_ws C T N, w ∈ TT) (hc : vwCl[ci]? = some (C, T, N)) (ty0 : Nat → FieldType) (hty : ∀ k, k < N → parseFieldDescriptor (T k).2.2.1 = some (ty0 k)) (hnm : ∀ a, a < N → ∀ b, b < N → a ≠ b → (T a).2.1 ≠ (T b).2.1) (j : Nat) (hj : j < N) (d : decode cc pc = .ok (.putfield index, 3)) (hlink : Cond.fieldLink own index ref (T j).2.1 (T j).2.2.1 ∈ TT) (hsame : ∀ x, s.fieldFound? (T j).1 (T j).2.1 (T j).2.2.1 = some x → s.fieldFound? ref (T j).2.1 (T j).2.2.1 = some x) (hfin : (T j).2.2.2 = true) (hin2 : meth.name = "<init>") (hdecl : (T j).1 = own) (hd : parseFieldDescriptor (T j).2.2.1 = some ty) (hn : narrow ty v = v) (hfit : fits ty v = true) (hl2 : j < fs.length)
    (hV : ∀ H, V H → va_at D vwCl (a, .inr (ci, fs)) H ∧ A a) (hV' : ∀ H H', V H → H'.size = H.size → va_at D vwCl (a, .inr (ci, fs.set j v)) H' → (∀ q, q ≠ a → H'[q]? = H[q]?) → V' H') (g : kG p l e R s m args below meth c Q A nL V' k n (pc + 3) lv st) : kG p l e R s m args below meth c Q A nL V k n pc lv (v :: .ref a :: st) := by
  intro H locs ls hV0 hS hl
  obtain ⟨⟨r, h1, cell, q1, q2, q3, q4⟩, hAa⟩ := hV H hV0
  have hap := va_apart (own := own) C0.2.2.2.2 hin ty0 hty hnm K0.1.1 hc
  have hr : r = (C, T, N) := Option.some.inj (h1.symm.trans hc)
  subst hr
  obtain ⟨hSl, hfc, kC, hkC, hkind⟩ := K0.1.1.1 ci _ hc
  obtain ⟨cf, kf, fi, f, hi, hsl⟩ := hSl j hj
  have hlay := C0.2.2.2.2 _ (hin _ (u_in_lay hj))
  unfold u_lay at hlay
  rw [if_pos hfin] at hlay
  have hst := (u_facts hfc hkC (u_lays C0.2.2.2.2 hin hj) hi).1
  have hcf : m.cls = cf := by
    obtain ⟨_, _, c', _, _, _, -, -, hf', -, -, -, hown2, -⟩ := Cond.laysFinal_spec hlay
    have e1 : c' = cf := by have := hi.symm.trans hf'; simp at this; exact this.1.symm
    rw [hdecl] at hown2
    rw [← e1]; exact Option.some.inj (C0.2.2.2.1.symm.trans hown2)
  have h6 := u_fits hfc hkC hkind (Or.inr hlay) hi hd hn hfit
  refine W.putFinK C0.1 C0.2.1 C0.2.2.2.1 (C0.2.2.2.2 _ hlink) (hsame _ hi) hst hcf hin2 (by rw [q2]; exact h6) q1 q3 (by rw [hsl]; exact k2_hasslot (q4 j hj)) rfl rfl d fun H' e1 e2 e3 => ?_
  rw [hsl] at e1 ⊢
  exact g H' _ ls (hV' H H' hV0 e2 ⟨_, hc, t_OB.to (V := updV (vp_V fs) j v) ⟨_, e1, q2, q3, t_set q4 hap hj v⟩ (fun i _ => vp_updV_set hl2 v i)⟩ e3) (hS.put e2 e3 hAa) hl
theorem k_alen (C0 : CallFix p m c cc nL s args TT own) (K0 : PK D Y A s) {x : vp_A} (t0 : Nat) {cA : ClassId} {ty : FieldType} (ht : (kTy Y)[t0]? = some (cA, ty)) (v : Int32) (hv : Int32.ofNat x.1 = v) (d : decode cc pc = .ok (.arraylength, 1)) (hV : ∀ H, V H → va_at D vwCl (a, .inl (cA, x)) H) (g : kG p l e R s m args below meth c Q A nL V k n (pc + 1) lv (.int v :: st)) : kG p l e R s m args below meth c Q A nL V k n pc lv (.ref a :: st) := fun H locs ls hV0 hS hl =>
  va_alen (ws := [(a, .inl (cA, x))]) C0.1 C0.2.1 K0.1.1 (at_P (hV H hV0)) 0 t0 rfl ht hv d (g H locs ls hV0 hS hl)
theorem k_iald (C0 : CallFix p m c cc nL s args TT own) (K0 : PK D Y A s) {N : Nat} {f : Nat → Int32} {i : Int32} (hi : vp_in i N) (d : decode cc pc = .ok (.iaload, 1)) (hV : ∀ H, V H → va_at D vwCl (a, .inl (Y 0, N, .inl f)) H) (g : kG p l e R s m args below meth c Q A nL V k n (pc + 1) lv (.int (f i.toNatClampNeg) :: st)) : kG p l e R s m args below meth c Q A nL V k n pc lv (.int i :: .ref a :: st) := fun H locs ls hV0 hS hl =>
  va_iald (ws := [(a, .inl (Y 0, N, .inl f))]) C0.1 C0.2.1 K0.1.1 (at_P (hV H hV0)) 0 0 rfl rfl hi d (g H locs ls hV0 hS hl)
theorem k_lald (C0 : CallFix p m c cc nL s args TT own) (K0 : PK D Y A s) {N : Nat} {f : Nat → Int64} {i : Int32} (hi : vp_in i N) (d : decode cc pc = .ok (.laload, 1)) (hV : ∀ H, V H → va_at D vwCl (a, .inl (Y 1, N, .inr (.inl f))) H) (g : kG p l e R s m args below meth c Q A nL V k n (pc + 1) lv (.long (f i.toNatClampNeg) :: st)) : kG p l e R s m args below meth c Q A nL V k n pc lv (.int i :: .ref a :: st) := fun H locs ls hV0 hS hl =>
  va_lald (ws := [(a, .inl (Y 1, N, .inr (.inl f)))]) C0.1 C0.2.1 K0.1.1 (at_P (hV H hV0)) 0 1 rfl rfl hi d (g H locs ls hV0 hS hl)
theorem k_aald (C0 : CallFix p m c cc nL s args TT own) (K0 : PK D Y A s) {N t0 : Nat} {cA : ClassId} {C : String} {f : Nat → Option Nat} {i : Int32} {v : Nat} (ht : (kTy Y)[t0]? = some (cA, .object C)) (hi : vp_in i N) (d : decode cc pc = .ok (.aaload, 1)) (hV : ∀ H, V H → va_at D vwCl (a, .inl (cA, N, .inr (.inr (.inr (.inr f))))) H) (hv : f i.toNatClampNeg = some v) (g : kG p l e R s m args below meth c Q A nL V k n (pc + 1) lv (.ref v :: st)) : kG p l e R s m args below meth c Q A nL V k n pc lv (.int i :: .ref a :: st) := fun H locs ls hV0 hS hl =>
  va_aldq (ws := [(a, .inl (cA, N, .inr (.inr (.inr (.inr f)))))]) C0.1 C0.2.1 K0.1.1 (at_P (hV H hV0)) 0 t0 rfl ht hi d (by rw [hv]; exact g H locs ls hV0 hS hl)
theorem k_iast (C0 : CallFix p m c cc nL s args TT own) (K0 : PK D Y A s) {N : Nat} {f : Nat → Int32} {i x : Int32} (hi : vp_in i N) (d : decode cc pc = .ok (.iastore, 1)) (hV : ∀ H, V H → va_at D vwCl (a, .inl (Y 0, N, .inl f)) H ∧ A a) (hV' : ∀ H H', V H → H'.size = H.size → va_at D vwCl (a, .inl (Y 0, N, .inl (upd f i.toNatClampNeg x))) H' → (∀ q, q ≠ a → H'[q]? = H[q]?) → V' H') (g : kG p l e R s m args below meth c Q A nL V' k n (pc + 1) lv st) : kG p l e R s m args below meth c Q A nL V k n pc lv (.int x :: .int i :: .ref a :: st) := fun H locs ls hV0 hS hl => by
  refine W.iast C0.1 C0.2.1 (hV H hV0).1 ((K0.1.1.2 0 _ rfl).1 N (fun j => .int (f j))) (fun q => by cases q) (by show ¬ (i < 0 ∨ (arrV _ _ _).slots.size ≤ _); rw [arrV_size]; exact hi) rfl rfl d fun H1 e z oq => ?_
  refine g H1 _ ls (hV' H H1 hV0 z ?_ oq) (hS.put z oq (hV H hV0).2) hl
  show H1[a]? = some (vp_cell _ _)
  rw [e]
  rw [vp_cell_i, vp_cell_i, arrV_store]
  congr 2
  funext q
  by_cases hq : q = i.toNatClampNeg
  · subst hq
    simp [updV, upd]
  · simp [updV, upd, hq]
theorem k_last (C0 : CallFix p m c cc nL s args TT own) (K0 : PK D Y A s) {N : Nat} {f : Nat → Int64} {i : Int32} {x : Int64} (hi : vp_in i N) (d : decode cc pc = .ok (.lastore, 1)) (hV : ∀ H, V H → va_at D vwCl (a, .inl (Y 1, N, .inr (.inl f))) H ∧ A a) (hV' : ∀ H H', V H → H'.size = H.size → va_at D vwCl (a, .inl (Y 1, N, .inr (.inl (vp_updL f i.toNatClampNeg x)))) H' → (∀ q, q ≠ a → H'[q]? = H[q]?) → V' H') (g : kG p l e R s m args below meth c Q A nL V' k n (pc + 1) lv st) : kG p l e R s m args below meth c Q A nL V k n pc lv (.long x :: .int i :: .ref a :: st) := fun H locs ls hV0 hS hl => by
  refine W.last C0.1 C0.2.1 (hV H hV0).1 ((K0.1.1.2 1 _ rfl).1 N (fun j => .long (f j))) (fun q => by cases q) (by show ¬ (i < 0 ∨ (arrV _ _ _).slots.size ≤ _); rw [arrV_size]; exact hi) rfl rfl d fun H1 e z oq => ?_
  refine g H1 _ ls (hV' H H1 hV0 z ?_ oq) (hS.put z oq (hV H hV0).2) hl
  show H1[a]? = some (vp_cell _ _)
  rw [e]
  rw [vp_cell_l, vp_cell_l, arrV_store]
  congr 2
  funext q
  by_cases hq : q = i.toNatClampNeg
  · subst hq
    simp [updV, vp_updL]
  · simp [updV, vp_updL, hq]
theorem k_aast (C0 : CallFix p m c cc nL s args TT own) (K0 : PK D Y A s) {N t0 ci v : Nat} {cA : ClassId} {E : String} {r : vw_C} {vs : List Value} {f : Nat → Option Nat} {i : Int32} (ht : (kTy Y)[t0]? = some (cA, .object E)) (hi : vp_in i N) (d : decode cc pc = .ok (.aastore, 1)) (hc : vwCl[ci]? = some r) (hca : ∀ comp cv : ClassId, s.vm.findClass E = some comp → ClassAt s r.1 cv → s.vm.assignable cv comp = true)
    (hVv : ∀ H, V H → va_at D vwCl (v, .inr (ci, vs)) H) (hV : ∀ H, V H → va_at D vwCl (a, .inl (cA, N, .inr (.inr (.inr (.inr f))))) H ∧ A a) (hV' : ∀ H H', V H → H'.size = H.size → va_at D vwCl (a, .inl (cA, N, .inr (.inr (.inr (.inr (va_up f i.toNatClampNeg (some v))))))) H' → (∀ q, q ≠ a → H'[q]? = H[q]?) → V' H') (g : kG p l e R s m args below meth c Q A nL V' k n (pc + 1) lv st) : kG p l e R s m args below meth c Q A nL V k n pc lv (.ref v :: .int i :: .ref a :: st) := fun H locs ls hV0 hS hl => by
  have hlt : i.toNatClampNeg < N := Nat.not_le.mp fun q => hi (Or.inr q)
  have h0 : ¬ i < 0 := fun q => hi (Or.inl q)
  obtain ⟨r', hr', cellV, g1, g2, g3, -⟩ := hVv H hV0
  have hcls := (K0.1.1.1 ci r hc).2
  obtain ⟨kA, comp, k1, k2, k3, -⟩ := (K0.1.1.2 t0 _ ht).2
  obtain ⟨kE, hkE, -⟩ := Vm.findClass_spec k3
  have f3 := hca _ _ k3 hcls
  obtain ⟨kC, hkC, -⟩ := hcls.2
  refine W.aast C0.1 C0.2.1 (hV H hV0).1 (fun q h => by cases h) (fun h => by cases h) k1 k2 rfl hkE ⟨h0, by show _ < (arrV _ _ _).slots.size; rw [arrV_size]; exact hlt⟩ g1 (fun q h => by rw [g3] at h; cases h) (by rw [g2]; exact hkC) (by rw [g2]; exact f3) rfl rfl d fun H1 e z oq => ?_
  refine g H1 _ ls (hV' H H1 hV0 z ?_ oq) (hS.put z oq (hV H hV0).2) hl
  show H1[a]? = some (vp_cell _ _)
  rw [e]
  rw [vp_cell_q, vp_cell_q, arrV_store]
  congr 2
  funext q
  by_cases hq : q = i.toNatClampNeg
  · subst hq
    simp [updV, va_up, va_rf]
  · simp [updV, va_up, hq]
theorem k_new {V' : Nat → Heap → Prop} (C0 : CallFix p m c cc nL s args TT own) (K0 : PK D Y A s) {C : String} {T : u_T} {N ci index : Nat} {fs : List Value} (hin : ∀ w ∈ u_ws C T N, w ∈ TT) (hc : vwCl[ci]? = some (C, T, N)) (ty : Nat → FieldType) (hty : ∀ k, k < N → parseFieldDescriptor (T k).2.2.1 = some (ty k)) (hcl : Cond.classLink own index C ∈ TT) (hinst : Cond.instantiable C N ∈ TT) (hini : Cond.initialized C ∈ TT) (hfs : ∀ j, j < N → defaultValue (ty j) = vp_V fs j) (hcells : k + 1 ≤ R.cells) (hslots : n + N ≤ R.slots) (d : decode cc pc = .ok (.new index, 3))
    (hV' : ∀ H H', V H → H'.size = H.size + 1 → va_at D vwCl (H.size, .inr (ci, fs)) H' → (∀ q, q < H.size → H'[q]? = H[q]?) → A H.size → V' H.size H') (g : ∀ q, kG p l e R s m args below meth c Q A nL (V' q) (k + 1) (n + N) (pc + 3) lv (.ref q :: st)) : kG p l e R s m args below meth c Q A nL V k n pc lv st := fun H locs ls hV0 hS hl => by
  have hKn := K0.1.1.1 ci _ hc
  refine W.newcK C0.1 C0.2.1 C0.2.2.2.1 (C0.2.2.2.2 _ hcl) (C0.2.2.2.2 _ hinst) (C0.2.2.2.2 _ hini) rfl d hcells hslots hKn.2.1 rfl fun H1 kC hkC e1 z1 o1 => ?_
  exact g H.size H1 locs ls (hV' H H1 hV0 z1 ⟨_, hc, (u_born ty C0.2.2.2.2 hin hKn hkC e1 hty).to hfs⟩ o1 (K0.2.1 _ hS.1)) ⟨Nat.le_trans hS.1 (by omega), fun x h1 h2 => (o1 x (Nat.lt_of_lt_of_le h1 hS.1)).trans (hS.2.1 x h1 h2), hS.2.2⟩ hl
theorem k_newai {V' : Nat → Heap → Prop} (C0 : CallFix p m c cc nL s args TT own) (K0 : PK D Y A s) {x : Int32} (N : Nat) (harr : Cond.arrayClass .int ∈ TT) (hx : ¬ x < 0) (hN : x.toNatClampNeg = N) (hb : N ≤ 100000) (hcells : k + 1 ≤ R.cells) (hslots : n + N ≤ R.slots) (d : decode cc pc = .ok (.newarray .int, 2))
    (hV' : ∀ H H', V H → H'.size = H.size + 1 → va_at D vwCl (H.size, .inl (Y 0, N, .inl (fun _ => 0))) H' → (∀ q, q < H.size → H'[q]? = H[q]?) → A H.size → V' H.size H') (g : ∀ q, kG p l e R s m args below meth c Q A nL (V' q) (k + 1) (n + N) (pc + 2) lv (.ref q :: st)) : kG p l e R s m args below meth c Q A nL V k n pc lv (.int x :: st) := fun H locs ls hV0 hS hl => by
  refine va_newaK C0.1 C0.2.1 (atype := .int) (C0.2.2.2.2 _ harr) rfl d rfl hx hN (by show N * 4 ≤ 536870912; omega) hcells hslots rfl fun H1 cA e1 z1 o1 hAr hNm => ?_
  have hcA : cA = Y 0 := Option.some.inj (hNm.symm.trans (show s.vm.findClass ("[" ++ FieldType.int.toString) = some (Y 0) from (K0.1.1.2 0 _ rfl).2))
  subst hcA
  exact g H.size H1 locs ls (hV' H H1 hV0 z1 e1 o1 (K0.2.1 _ hS.1)) ⟨Nat.le_trans hS.1 (by omega), fun x h1 h2 => (o1 x (Nat.lt_of_lt_of_le h1 hS.1)).trans (hS.2.1 x h1 h2), hS.2.2⟩ hl
theorem k_newal {V' : Nat → Heap → Prop} (C0 : CallFix p m c cc nL s args TT own) (K0 : PK D Y A s) {x : Int32} (N : Nat) (harr : Cond.arrayClass .long ∈ TT) (hx : ¬ x < 0) (hN : x.toNatClampNeg = N) (hb : N ≤ 100000) (hcells : k + 1 ≤ R.cells) (hslots : n + N ≤ R.slots) (d : decode cc pc = .ok (.newarray .long, 2))
    (hV' : ∀ H H', V H → H'.size = H.size + 1 → va_at D vwCl (H.size, .inl (Y 1, N, .inr (.inl (fun _ => 0)))) H' → (∀ q, q < H.size → H'[q]? = H[q]?) → A H.size → V' H.size H') (g : ∀ q, kG p l e R s m args below meth c Q A nL (V' q) (k + 1) (n + N) (pc + 2) lv (.ref q :: st)) : kG p l e R s m args below meth c Q A nL V k n pc lv (.int x :: st) := fun H locs ls hV0 hS hl => by
  refine va_newaK C0.1 C0.2.1 (atype := .long) (C0.2.2.2.2 _ harr) rfl d rfl hx hN (by show N * 8 ≤ 536870912; omega) hcells hslots rfl fun H1 cA e1 z1 o1 hAr hNm => ?_
  have hcA : cA = Y 1 := Option.some.inj (hNm.symm.trans (show s.vm.findClass ("[" ++ FieldType.long.toString) = some (Y 1) from (K0.1.1.2 1 _ rfl).2))
  subst hcA
  exact g H.size H1 locs ls (hV' H H1 hV0 z1 e1 o1 (K0.2.1 _ hS.1)) ⟨Nat.le_trans hS.1 (by omega), fun x h1 h2 => (o1 x (Nat.lt_of_lt_of_le h1 hS.1)).trans (hS.2.1 x h1 h2), hS.2.2⟩ hl
theorem k_newq {V' : Nat → Heap → Prop} (C0 : CallFix p m c cc nL s args TT own) (K0 : PK D Y A s) {C : String} {cA : ClassId} {index t0 : Nat} {x : Int32} (N : Nat) (hclink : Cond.classLink own index C ∈ TT) (hover : va_AO C s) (ht : (kTy Y)[t0]? = some (cA, .object C)) (hx : ¬ x < 0) (hN : x.toNatClampNeg = N) (hb : N ≤ 100000) (hcells : k + 1 ≤ R.cells) (hslots : n + N ≤ R.slots) (d : decode cc pc = .ok (.anewarray index, 3))
    (hV' : ∀ H H', V H → H'.size = H.size + 1 → va_at D vwCl (H.size, .inl (cA, N, .inr (.inr (.inr (.inr (fun _ => none)))))) H' → (∀ q, q < H.size → H'[q]? = H[q]?) → A H.size → V' H.size H') (g : ∀ q, kG p l e R s m args below meth c Q A nL (V' q) (k + 1) (n + N) (pc + 3) lv (.ref q :: st)) : kG p l e R s m args below meth c Q A nL V k n pc lv (.int x :: st) := fun H locs ls hV0 hS hl => by
  subst hN
  refine W.anew C0.1 C0.2.1 C0.2.2.2.1 (C0.2.2.2.2 _ hclink) (va_AO.use hover) rfl d rfl hx (by omega) hcells hslots fun cA2 kA comp f1 f2 f3 f4 => ?_
  generalize hH1 : H.push ({ cls := cA2, slots := Array.replicate x.toNatClampNeg .null, vm := .none } : Cell) = H1
  have z1 : H1.size = H.size + 1 := by rw [← hH1, Array.size_push]
  have e1 : H1[H.size]? = some (arrV cA2 x.toNatClampNeg (fun _ => .null)) := by rw [← hH1, Array.getElem?_push_size, ← arrV_new]
  have o1 : ∀ q : Nat, q < H.size → H1[q]? = H[q]? := fun q hq => by rw [← hH1, Array.getElem?_push, if_neg (Nat.ne_of_lt hq)]
  have hcA : cA2 = cA := by
    obtain ⟨-, -, -, -, -, h4⟩ := (K0.1.1.2 t0 _ ht).2
    exact Option.some.inj (f1.symm.trans h4)
  subst hcA
  exact g H.size H1 locs ls (hV' H H1 hV0 z1 e1 o1 (K0.2.1 _ hS.1)) ⟨Nat.le_trans hS.1 (by omega), fun x h1 h2 => (o1 x (Nat.lt_of_lt_of_le h1 hS.1)).trans (hS.2.1 x h1 h2), hS.2.2⟩ hl
theorem k_recv (K0 : PK D Y A s) {ci : Nat} {q : vw_C} {fs : List Value} {H : Heap} (hc : vwCl[ci]? = some q) (h : va_at D vwCl (a, .inr (ci, fs)) H) : ∃ cell : Cell, H[a]? = some cell ∧ cell.vm.isStatics = false ∧ s.vm.findClass q.1 = some cell.cls := va_recv (ws := [(a, .inr (ci, fs))]) K0.1.1 (at_P h) hc (q0 := 0) rfl
/-- checkcast of an object of just that class -/
theorem k_castS (C0 : CallFix p m c cc nL s args TT own) (K0 : PK D Y A s) {ci index : Nat} {q : vw_C} {fs : List Value} (hc : vwCl[ci]? = some q) (hlink : Cond.classLink own index q.1 ∈ TT) (d : decode cc pc = .ok (.checkcast index, 3)) (hV : ∀ H, V H → va_at D vwCl (a, .inr (ci, fs)) H) (g : kG p l e R s m args below meth c Q A nL V k n (pc + 3) lv (.ref a :: st)) : kG p l e R s m args below meth c Q A nL V k n pc lv (.ref a :: st) := fun H locs ls hV0 hS hl =>
  va_castS C0.1 C0.2.1 C0.2.2.2.1 (C0.2.2.2.2 _ hlink) (K0.1.1.1 ci q hc).2 (k_recv K0 hc (hV H hV0)) d (g H locs ls hV0 hS hl)
theorem k_castA (C0 : CallFix p m c cc nL s args TT own) {index : Nat} {nm : String} {cA : ClassId} {x : vp_A} (hlink : Cond.classLink own index nm ∈ TT) (d : decode cc pc = .ok (.checkcast index, 3)) (hnm : s.vm.findClass nm = some cA) (hV : ∀ H, V H → va_at D vwCl (a, .inl (cA, x)) H) (g : kG p l e R s m args below meth c Q A nL V k n (pc + 3) lv (.ref a :: st)) : kG p l e R s m args below meth c Q A nL V k n pc lv (.ref a :: st) := fun H locs ls hV0 hS hl =>
  va_castA (ws := [(a, .inl (cA, x))]) C0.1 C0.2.1 C0.2.2.2.1 (C0.2.2.2.2 _ hlink) (at_P (hV H hV0)) 0 rfl hnm d (g H locs ls hV0 hS hl)
end KH
end
section
/-! the reference's world: its object at o, its arrays at al f (f: the field that holds them), its numbers mu -/
abbrev Rm : Type := (Nat → Nat → Int32) × (Nat → Int64)
def rI (mu : Rm) (f i : Nat) (v : Int32) : Rm := (fun g => if g = f then upd (mu.1 f) i v else mu.1 g, mu.2)
def rR (mu : Rm) (i : Nat) (v : Int64) : Rm := (mu.1, vp_updL mu.2 i v)
def rLen (f : Nat) : Nat := if f = 9 then 720 else if f = 12 then 100 else if f = 11 then 20 else if f < 4 then 5 else if f < 9 then 6 else 40
abbrev rArr (f : Nat) : Prop := f ∈ [1, 2, 3, 5, 6, 7, 8, 9, 11, 12, 16, 17, 18, 19, 20, 21, 22]
abbrev rAny (f : Nat) : Prop := f ∈ [1, 2, 3, 5, 6, 7, 8, 9, 11, 12, 16, 17, 18, 19, 20, 21, 22, 14]
def rObj (al : Nat → Nat) (mu : Rm) : List Value := [.int (mu.1 0 0), .ref (al 1), .ref (al 2), .ref (al 3), .int (mu.1 4 0), .ref (al 5), .ref (al 6), .ref (al 7), .ref (al 8), .ref (al 9), .int (mu.1 10 0), .ref (al 11), .ref (al 12), .int (mu.1 13 0), .ref (al 14), .int (mu.1 15 0), .ref (al 16), .ref (al 17), .ref (al 18), .ref (al 19), .ref (al 20), .ref (al 21), .ref (al 22), .int (mu.1 23 0), .int (mu.1 24 0), .int (mu.1 25 0)]
def WR (D : va_G) (Y : Nat → Nat) (A : Nat → Prop) (o : Nat) (al : Nat → Nat) (mu : Rm) (H : Heap) : Prop :=
  (va_at D vwCl (o, .inr (7, rObj al mu)) H ∧ A o) ∧ (∀ f, rArr f → va_at D vwCl (al f, .inl (Y 0, rLen f, .inl (mu.1 f))) H ∧ A (al f)) ∧ (va_at D vwCl (al 14, .inl (Y 1, 5400, .inr (.inl mu.2))) H ∧ A (al 14)) ∧ (∀ f, rAny f → al f ≠ o) ∧ (∀ f g, rAny f → rAny g → al f = al g → f = g)
theorem rArr_any {f : Nat} (h : rArr f) : rAny f := by
  simp only [rArr, rAny, List.mem_cons, List.not_mem_nil, or_false] at h ⊢
  omega
theorem WR.kept {D : va_G} {Y : Nat → Nat} {A : Nat → Prop} {o : Nat} {al : Nat → Nat} {mu : Rm} {H H' : Heap} (h : WR D Y A o al mu H) (ho : H'[o]? = H[o]?) (ha : ∀ f, rAny f → H'[al f]? = H[al f]?) : WR D Y A o al mu H' :=
  ⟨⟨h.1.1.kept ho, h.1.2⟩, fun f hf => ⟨(h.2.1 f hf).1.kept (ha f (rArr_any hf)), (h.2.1 f hf).2⟩, ⟨h.2.2.1.1.kept (ha 14 (by decide)), h.2.2.1.2⟩, h.2.2.2⟩
theorem WR.putS {D : va_G} {Y : Nat → Nat} {A : Nat → Prop} {o : Nat} {al : Nat → Nat} {mu : Rm} {H H' : Heap} (h : WR D Y A o al mu H) (f : Nat) (v : Int32) (hs : (rObj al mu).set f (.int v) = rObj al (rI mu f 0 v)) (hf : ¬ rArr f) (h1 : va_at D vwCl (o, .inr (7, (rObj al mu).set f (.int v))) H') (oq : ∀ q, q ≠ o → H'[q]? = H[q]?) : WR D Y A o al (rI mu f 0 v) H' := by
  refine ⟨⟨by rw [← hs]; exact h1, h.1.2⟩, fun g hg => ⟨?_, (h.2.1 g hg).2⟩, ⟨h.2.2.1.1.kept (oq _ (h.2.2.2.1 14 (by decide))), h.2.2.1.2⟩, h.2.2.2⟩
  have hgf : g ≠ f := fun z => hf (z ▸ hg)
  have e : (rI mu f 0 v).1 g = mu.1 g := if_neg hgf
  rw [e]
  exact (h.2.1 g hg).1.kept (oq _ (h.2.2.2.1 g (rArr_any hg)))
theorem WR.putA {D : va_G} {Y : Nat → Nat} {A : Nat → Prop} {o : Nat} {al : Nat → Nat} {mu : Rm} {H H' : Heap} (h : WR D Y A o al mu H) (f i : Nat) (v : Int32) (hs : rObj al (rI mu f i v) = rObj al mu) (hf : rArr f) (h1 : va_at D vwCl (al f, .inl (Y 0, rLen f, .inl (upd (mu.1 f) i v))) H') (oq : ∀ q, q ≠ al f → H'[q]? = H[q]?) : WR D Y A o al (rI mu f i v) H' := by
  refine ⟨⟨by rw [hs]; exact h.1.1.kept (oq _ (fun z => h.2.2.2.1 f (rArr_any hf) z.symm)), h.1.2⟩, fun g hg => ⟨?_, (h.2.1 g hg).2⟩, ⟨h.2.2.1.1.kept (oq _ (fun z => ?_)), h.2.2.1.2⟩, h.2.2.2⟩
  · by_cases hgf : g = f
    · subst hgf
      have e : (rI mu g i v).1 g = upd (mu.1 g) i v := if_pos rfl
      rw [e]; exact h1
    · have e : (rI mu f i v).1 g = mu.1 g := if_neg hgf
      rw [e]
      exact (h.2.1 g hg).1.kept (oq _ (fun z => hgf (h.2.2.2.2 g f (rArr_any hg) (rArr_any hf) z)))
  · have h14 := h.2.2.2.2 14 f (by decide) (rArr_any hf) z
    subst h14
    exact absurd hf (by decide)
theorem WR.putR {D : va_G} {Y : Nat → Nat} {A : Nat → Prop} {o : Nat} {al : Nat → Nat} {mu : Rm} {H H' : Heap} (h : WR D Y A o al mu H) (i : Nat) (v : Int64) (h1 : va_at D vwCl (al 14, .inl (Y 1, 5400, .inr (.inl (vp_updL mu.2 i v)))) H') (oq : ∀ q, q ≠ al 14 → H'[q]? = H[q]?) : WR D Y A o al (rR mu i v) H' := by
  refine ⟨⟨h.1.1.kept (oq _ (fun z => h.2.2.2.1 14 (by decide) z.symm)), h.1.2⟩, fun g hg => ⟨(h.2.1 g hg).1.kept (oq _ (fun z => ?_)), (h.2.1 g hg).2⟩, ⟨h1, h.2.2.1.2⟩, h.2.2.2⟩
  have h14 := h.2.2.2.2 g 14 (rArr_any hg) (by decide) z
  subst h14
  exact absurd hg (by decide)
theorem rI_tr {mu : Rm} {f j g i : Nat} {x v : Int32} (h : g ≠ f) (e : mu.1 g i = v) : (rI mu f j x).1 g i = v := (congrFun (if_neg h) i).trans e
theorem rR_tr {mu : Rm} {j g i : Nat} {x : Int64} {v : Int32} (e : mu.1 g i = v) : (rR mu j x).1 g i = v := e
theorem rI_at {mu : Rm} {f : Nat} {v : Int32} : (rI mu f 0 v).1 f 0 = v := (congrFun (if_pos rfl) 0).trans (if_pos rfl)
theorem rObj_arr (al : Nat → Nat) (mu : Rm) {f : Nat} (hf : rArr f) (i : Nat) (v : Int32) : rObj al (rI mu f i v) = rObj al mu := by
  have e : ∀ g : Nat, g ∈ [0, 4, 10, 13, 15, 23, 24, 25] → (rI mu f i v).1 g = mu.1 g := fun g hg => if_neg (fun z => by
    subst z
    simp only [rArr, List.mem_cons, List.not_mem_nil, or_false] at hf hg
    omega)
  simp only [rObj, e 0 (by decide), e 4 (by decide), e 10 (by decide), e 13 (by decide), e 15 (by decide), e 23 (by decide), e 24 (by decide), e 25 (by decide)]
theorem rs_0 (al : Nat → Nat) (mu : Rm) (v : Int32) : (rObj al mu).set 0 (.int v) = rObj al (rI mu 0 0 v) := rfl
theorem rs_4 (al : Nat → Nat) (mu : Rm) (v : Int32) : (rObj al mu).set 4 (.int v) = rObj al (rI mu 4 0 v) := rfl
theorem rs_10 (al : Nat → Nat) (mu : Rm) (v : Int32) : (rObj al mu).set 10 (.int v) = rObj al (rI mu 10 0 v) := rfl
theorem rs_13 (al : Nat → Nat) (mu : Rm) (v : Int32) : (rObj al mu).set 13 (.int v) = rObj al (rI mu 13 0 v) := rfl
theorem rs_15 (al : Nat → Nat) (mu : Rm) (v : Int32) : (rObj al mu).set 15 (.int v) = rObj al (rI mu 15 0 v) := rfl
theorem rs_23 (al : Nat → Nat) (mu : Rm) (v : Int32) : (rObj al mu).set 23 (.int v) = rObj al (rI mu 23 0 v) := rfl
theorem rs_24 (al : Nat → Nat) (mu : Rm) (v : Int32) : (rObj al mu).set 24 (.int v) = rObj al (rI mu 24 0 v) := rfl
theorem rs_25 (al : Nat → Nat) (mu : Rm) (v : Int32) : (rObj al mu).set 25 (.int v) = rObj al (rI mu 25 0 v) := rfl
theorem rg_0 (al : Nat → Nat) (mu : Rm) : (rObj al mu)[0]? = some (.int (mu.1 0 0)) := rfl
theorem rg_4 (al : Nat → Nat) (mu : Rm) : (rObj al mu)[4]? = some (.int (mu.1 4 0)) := rfl
theorem rg_10 (al : Nat → Nat) (mu : Rm) : (rObj al mu)[10]? = some (.int (mu.1 10 0)) := rfl
theorem rg_13 (al : Nat → Nat) (mu : Rm) : (rObj al mu)[13]? = some (.int (mu.1 13 0)) := rfl
theorem rg_15 (al : Nat → Nat) (mu : Rm) : (rObj al mu)[15]? = some (.int (mu.1 15 0)) := rfl
theorem rg_23 (al : Nat → Nat) (mu : Rm) : (rObj al mu)[23]? = some (.int (mu.1 23 0)) := rfl
theorem rg_24 (al : Nat → Nat) (mu : Rm) : (rObj al mu)[24]? = some (.int (mu.1 24 0)) := rfl
theorem rg_25 (al : Nat → Nat) (mu : Rm) : (rObj al mu)[25]? = some (.int (mu.1 25 0)) := rfl
theorem vp_inI {n N : Nat} {x : Int32} (e : x = nI n) (h : n < N) (hN : N < 2 ^ 31) : vp_in x N := by rw [e]; exact vp_in_nI h hN
theorem sel0 {H : Prop} [Decidable H] {a b : Int32} (h : (if H then (1 : Int32) else 0) = 0) : b = (if H then a else b) := by
  by_cases hh : H
  · rw [if_pos hh] at h; exact absurd h (by decide)
  · rw [if_neg hh]
theorem sel1 {H : Prop} [Decidable H] {a b : Int32} (h : ¬ (if H then (1 : Int32) else 0) = 0) : a = (if H then a else b) := by
  by_cases hh : H
  · rw [if_pos hh]
  · rw [if_neg hh] at h; exact absurd rfl h
theorem vp_m5 {a b : Nat} (ha : a < 20) (hb : b < 5) : vp_in (5 * nI a + nI b) 100 := vp_inI (n := 5 * a + b) (by rw [← nI_add, ← pk_mul]; rfl) (by omega) (by decide)
theorem vp_m120 {a b : Nat} (ha : a < 6) (hb : b < 120) : vp_in (120 * nI a + nI b) 720 := vp_inI (n := 120 * a + b) (by rw [← nI_add, ← pk_mul]; rfl) (by omega) (by decide)
section KR
variable {p : Program} {l : Launch} {e : Env} {R : Room} {s : State} {m : MethodId} {args : Array Value} {below : List Frame} {meth : Method} {c : Code} {Q : State → Prop}
variable {A : Nat → Prop} {k n nL pc : Nat} {lv : List (Nat × Value)} {st rest : List Value} {cc : ByteArray} {D : va_G} {Y : Nat → Nat} {o : Nat} {al : Nat → Nat} {mu : Rm}
theorem r_get (C0 : CallFix p m c cc nL s args TT RX6) (K0 : PK D Y A s) (f : Nat) {index : Nat} {v : Value} (d : decode cc pc = .ok (.getfield index, 3)) (hlink : Cond.fieldLink RX6 index RX6 (TX6 f).2.1 (TX6 f).2.2.1 ∈ TT) (hf : f < 26) (hd : (TX6 f).1 = RX6) (hv : (rObj al mu)[f]? = some v) (g : kG p l e R s m args below meth c Q A nL (WR D Y A o al mu) k n (pc + 3) lv (v :: st)) : kG p l e R s m args below meth c Q A nL (WR D Y A o al mu) k n pc lv (.ref o :: st) :=
  k_get C0 K0 inX6 rfl f hf d hlink (fun x h => by rw [hd] at h; exact h) (fun H hV => hV.1.1) hv g
theorem r_getI (C0 : CallFix p m c cc nL s args TT RX6) (K0 : PK D Y A s) (f : Nat) {index : Nat} (v : Int32) (d : decode cc pc = .ok (.getfield index, 3)) (hlink : Cond.fieldLink RX6 index RX6 (TX6 f).2.1 (TX6 f).2.2.1 ∈ TT) (hf : f < 26) (hd : (TX6 f).1 = RX6) (hg : (rObj al mu)[f]? = some (.int (mu.1 f 0))) (hv : mu.1 f 0 = v) (g : kG p l e R s m args below meth c Q A nL (WR D Y A o al mu) k n (pc + 3) lv (.int v :: st)) : kG p l e R s m args below meth c Q A nL (WR D Y A o al mu) k n pc lv (.ref o :: st) :=
  r_get C0 K0 f d hlink hf hd hg (by rw [hv]; exact g)
theorem r_putS (C0 : CallFix p m c cc nL s args TT RX6) (K0 : PK D Y A s) (f : Nat) {index : Nat} {v : Int32} (d : decode cc pc = .ok (.putfield index, 3)) (hlink : Cond.fieldLink RX6 index RX6 (TX6 f).2.1 (TX6 f).2.2.1 ∈ TT) (hf : f < 26) (hd : (TX6 f).1 = RX6) (hfin : (TX6 f).2.2.2 = false) (hty : parseFieldDescriptor (TX6 f).2.2.1 = some .int) (hs : (rObj al mu).set f (.int v) = rObj al (rI mu f 0 v)) (hna : ¬ rArr f) (g : kG p l e R s m args below meth c Q A nL (WR D Y A o al (rI mu f 0 v)) k n (pc + 3) lv st) : kG p l e R s m args below meth c Q A nL (WR D Y A o al mu) k n pc lv (.int v :: .ref o :: st) :=
  k_put C0 K0 inX6 rfl tyX6 tyX6_ok nmX6 f hf d hlink (fun x h => by rw [hd] at h; exact h) hfin hty rfl rfl (by show f < 26; exact hf) (fun H hV => hV.1) (fun H H' hV _ h1 oq => hV.putS f v hs hna h1 oq) g
theorem r_iald (C0 : CallFix p m c cc nL s args TT RX6) (K0 : PK D Y A s) (f : Nat) {i : Int32} (d : decode cc pc = .ok (.iaload, 1)) (hA : rArr f) (hi : vp_in i (rLen f)) {v : Int32} (hv : mu.1 f i.toNatClampNeg = v) (g : kG p l e R s m args below meth c Q A nL (WR D Y A o al mu) k n (pc + 1) lv (.int v :: st)) : kG p l e R s m args below meth c Q A nL (WR D Y A o al mu) k n pc lv (.int i :: .ref (al f) :: st) :=
  k_iald C0 K0 hi d (fun H hV => (hV.2.1 f hA).1) (by rw [hv]; exact g)
theorem r_iast (C0 : CallFix p m c cc nL s args TT RX6) (K0 : PK D Y A s) (f : Nat) {i v : Int32} (d : decode cc pc = .ok (.iastore, 1)) (hA : rArr f) (hi : vp_in i (rLen f)) (g : kG p l e R s m args below meth c Q A nL (WR D Y A o al (rI mu f i.toNatClampNeg v)) k n (pc + 1) lv st) : kG p l e R s m args below meth c Q A nL (WR D Y A o al mu) k n pc lv (.int v :: .int i :: .ref (al f) :: st) :=
  k_iast C0 K0 hi d (fun H hV => hV.2.1 f hA) (fun H H' hV _ h1 oq => hV.putA f _ v (rObj_arr al mu hA _ v) hA h1 oq) g
theorem r_lald (C0 : CallFix p m c cc nL s args TT RX6) (K0 : PK D Y A s) {i : Int32} (d : decode cc pc = .ok (.laload, 1)) (hi : vp_in i 5400) {v : Int64} (hv : mu.2 i.toNatClampNeg = v) (g : kG p l e R s m args below meth c Q A nL (WR D Y A o al mu) k n (pc + 1) lv (.long v :: st)) : kG p l e R s m args below meth c Q A nL (WR D Y A o al mu) k n pc lv (.int i :: .ref (al 14) :: st) :=
  k_lald C0 K0 hi d (fun H hV => hV.2.2.1.1) (by rw [hv]; exact g)
theorem r_last (C0 : CallFix p m c cc nL s args TT RX6) (K0 : PK D Y A s) {i : Int32} {v : Int64} (d : decode cc pc = .ok (.lastore, 1)) (hi : vp_in i 5400) (g : kG p l e R s m args below meth c Q A nL (WR D Y A o al (rR mu i.toNatClampNeg v)) k n (pc + 1) lv st) : kG p l e R s m args below meth c Q A nL (WR D Y A o al mu) k n pc lv (.long v :: .int i :: .ref (al 14) :: st) :=
  k_last C0 K0 hi d (fun H hV => hV.2.2.1) (fun H H' hV _ h1 oq => hV.putR _ v h1 oq) g
theorem r_recv (K0 : PK D Y A s) {H : Heap} (h : WR D Y A o al mu H) : ∃ cell : Cell, H[o]? = some cell ∧ cell.vm.isStatics = false ∧ s.vm.findClass RX6 = some cell.cls := k_recv (q := (RX6, TX6, 26)) K0 rfl h.1.1
end KR
end
section
def r_part (s : Int64) (f b : Int32) : Int32 := ((s >>> (f.toInt64 &&& 63)) &&& (((1 : Int64) <<< (b.toInt64 &&& 63)) - 1)).toInt32
def r_price (s : Int64) : Int32 := r_part s 0 17
def r_tax (s : Int64) : Int32 := r_part s 17 15
def r_share (s : Int64) : Int32 := r_part s 32 15
def r_pof (s : Int64) : Int32 := r_price s - r_tax s - r_share s + (if r_part s 60 1 = 1 then r_tax s else 0)
def r_counts (mu : Rm) (s : Int64) (g : Int32) : Rm :=
  rI (rI (rI (rI mu 7 (r_part s 54 3).toNatClampNeg (mu.1 7 (r_part s 54 3).toNatClampNeg + g * r_pof s)) 23 0 (mu.1 23 0 + g * r_share s)) 24 0 (mu.1 24 0 + g * r_price s)) 3 (r_part s 57 3).toNatClampNeg (mu.1 3 (r_part s 57 3).toNatClampNeg + (if r_part s 60 1 = 1 then 0 else g * r_tax s))
theorem gkX6_81 : GoodIn TT (va_wsS RX6 81 yX6_part (Cond.code yX6_part cX6_part 4 (some .int) :: TT)) := goodTS (tD 93 rfl rfl) (tD 94 rfl rfl) (tA 6 rfl rfl) (goodTT (tD 95 rfl rfl))
theorem hyX6_part : yX6_part.cls ≠ "java/lang/invoke/MethodHandle" ∧ yX6_part.cls ≠ "java/lang/invoke/VarHandle" ∧ (parseMethodDescriptor yX6_part.desc).map (fun d => d.parameters.length) = some 3 := by decide +kernel
theorem gkX6_85 : GoodIn TT (va_wsS RX6 85 yX6_priceOf (Cond.code yX6_priceOf cX6_priceOf 2 (some .int) :: TT)) := goodTS (tD 99 rfl rfl) (tD 100 rfl rfl) (tA 6 rfl rfl) (goodTT (tD 101 rfl rfl))
theorem hyX6_priceOf : yX6_priceOf.cls ≠ "java/lang/invoke/MethodHandle" ∧ yX6_priceOf.cls ≠ "java/lang/invoke/VarHandle" ∧ (parseMethodDescriptor yX6_priceOf.desc).map (fun d => d.parameters.length) = some 1 := by decide +kernel
theorem gkX6_89 : GoodIn TT (va_wsS RX6 89 yX6_taxOf (Cond.code yX6_taxOf cX6_taxOf 2 (some .int) :: TT)) := goodTS (tD 102 rfl rfl) (tD 103 rfl rfl) (tA 6 rfl rfl) (goodTT (tD 104 rfl rfl))
theorem hyX6_taxOf : yX6_taxOf.cls ≠ "java/lang/invoke/MethodHandle" ∧ yX6_taxOf.cls ≠ "java/lang/invoke/VarHandle" ∧ (parseMethodDescriptor yX6_taxOf.desc).map (fun d => d.parameters.length) = some 1 := by decide +kernel
theorem gkX6_92 : GoodIn TT (va_wsS RX6 92 yX6_shareOf (Cond.code yX6_shareOf cX6_shareOf 2 (some .int) :: TT)) := goodTS (tD 105 rfl rfl) (tD 106 rfl rfl) (tA 6 rfl rfl) (goodTT (tD 107 rfl rfl))
theorem hyX6_shareOf : yX6_shareOf.cls ≠ "java/lang/invoke/MethodHandle" ∧ yX6_shareOf.cls ≠ "java/lang/invoke/VarHandle" ∧ (parseMethodDescriptor yX6_shareOf.desc).map (fun d => d.parameters.length) = some 1 := by decide +kernel
theorem gkX6_95 : GoodIn TT (va_wsS RX6 95 yX6_partOf (Cond.code yX6_partOf cX6_partOf 2 (some .int) :: TT)) := goodTS (tD 96 rfl rfl) (tD 97 rfl rfl) (tA 6 rfl rfl) (goodTT (tD 98 rfl rfl))
theorem hyX6_partOf : yX6_partOf.cls ≠ "java/lang/invoke/MethodHandle" ∧ yX6_partOf.cls ≠ "java/lang/invoke/VarHandle" ∧ (parseMethodDescriptor yX6_partOf.desc).map (fun d => d.parameters.length) = some 1 := by decide +kernel
theorem gkX6_69 : GoodIn TT (va_wsS RX6 69 yX6_in (Cond.code yX6_in cX6_in 3 (some .boolean) :: TT)) := goodTS (tD 64 rfl rfl) (tD 65 rfl rfl) (tA 6 rfl rfl) (goodTT (tD 66 rfl rfl))
theorem hyX6_in : yX6_in.cls ≠ "java/lang/invoke/MethodHandle" ∧ yX6_in.cls ≠ "java/lang/invoke/VarHandle" ∧ (parseMethodDescriptor yX6_in.desc).map (fun d => d.parameters.length) = some 3 := by decide +kernel
theorem gkX6_118 : GoodIn TT (wsV RX6 118 yX6_isSale.cls yX6_isSale (Cond.code yX6_isSale cX6_isSale 2 (some .boolean) :: TT)) := goodTV (tD 112 rfl rfl) (tD 114 rfl rfl) (tP 19 rfl) (tA 6 rfl rfl) (tD 115 rfl rfl)
theorem hyX6_isSale : yX6_isSale.cls ≠ "java/lang/invoke/MethodHandle" ∧ yX6_isSale.cls ≠ "java/lang/invoke/VarHandle" ∧ (parseMethodDescriptor yX6_isSale.desc).map (fun d => d.parameters.length) = some 1 := by decide +kernel
theorem gkX6_131 : GoodIn TT (wsV RX6 131 yX6_isPlan.cls yX6_isPlan (Cond.code yX6_isPlan cX6_isPlan 2 (some .boolean) :: TT)) := goodTV (tD 153 rfl rfl) (tD 155 rfl rfl) (tP 21 rfl) (tA 6 rfl rfl) (tD 156 rfl rfl)
theorem hyX6_isPlan : yX6_isPlan.cls ≠ "java/lang/invoke/MethodHandle" ∧ yX6_isPlan.cls ≠ "java/lang/invoke/VarHandle" ∧ (parseMethodDescriptor yX6_isPlan.desc).map (fun d => d.parameters.length) = some 1 := by decide +kernel
theorem gkX6_134 : GoodIn TT (wsV RX6 134 yX6_isMaker.cls yX6_isMaker (Cond.code yX6_isMaker cX6_isMaker 2 (some .boolean) :: TT)) := goodTV (tD 177 rfl rfl) (tD 179 rfl rfl) (tP 22 rfl) (tA 6 rfl rfl) (tD 180 rfl rfl)
theorem hyX6_isMaker : yX6_isMaker.cls ≠ "java/lang/invoke/MethodHandle" ∧ yX6_isMaker.cls ≠ "java/lang/invoke/VarHandle" ∧ (parseMethodDescriptor yX6_isMaker.desc).map (fun d => d.parameters.length) = some 1 := by decide +kernel
set_option maxRecDepth 100000 in
set_option maxHeartbeats 4000000 in
theorem ct_in1 (l : Launch) (D : va_G) (Y : Nat → Nat) (A : Nat → Prop) (V : Heap → Prop) (x lo hi : Int32) (h1 : lo ≤ x) (h2 : x ≤ hi) : CT l yX6_in (Cond.code yX6_in cX6_in 3 (some .boolean)) 0 0 D Y A [.int x, .int lo, .int hi] V (fun _ : Unit => some (.int 1)) (fun _ : Unit => V) noX 0 0 := by
  refine CT.of (by decide) (Nat.le_of_ble_eq_true rfl) ?_
  intro p_ e_ s_ m_ below_ meth_ c_ C0 K0 hr hlk htab hnm_
  refine k_iload_n C0 dX6_in_0 0 rfl ?_
  refine k_iload_n C0 dX6_in_1 1 rfl ?_
  refine k_icmp_lt C0 14 dX6_in_2 (by decide) (fun zz => absurd zz (Int32.not_lt.mpr h1)) (fun _ => ?_)
  refine k_iload_n C0 dX6_in_5 0 rfl ?_
  refine k_iload_n C0 dX6_in_6 2 rfl ?_
  refine k_icmp_gt C0 14 dX6_in_7 (by decide) (fun zz => absurd zz (Int32.not_lt.mpr h2)) (fun _ => ?_)
  refine k_iconst C0 1 dX6_in_10 (by decide) ?_
  refine k_goto C0 15 dX6_in_11 (by decide) ?_
  exact k_zret C0 dX6_in_15 hr rfl hlk (Nat.le_of_ble_eq_true rfl) (Nat.le_of_ble_eq_true rfl) () rfl (fun H h => h)
set_option maxRecDepth 100000 in
set_option maxHeartbeats 4000000 in
theorem ct_in0 (l : Launch) (D : va_G) (Y : Nat → Nat) (A : Nat → Prop) (V : Heap → Prop) (x lo hi : Int32) (h : ¬ (lo ≤ x ∧ x ≤ hi)) : CT l yX6_in (Cond.code yX6_in cX6_in 3 (some .boolean)) 0 0 D Y A [.int x, .int lo, .int hi] V (fun _ : Unit => some (.int 0)) (fun _ : Unit => V) noX 0 0 := by
  refine CT.of (by decide) (Nat.le_of_ble_eq_true rfl) ?_
  intro p_ e_ s_ m_ below_ meth_ c_ C0 K0 hr hlk htab hnm_
  refine k_iload_n C0 dX6_in_0 0 rfl ?_
  refine k_iload_n C0 dX6_in_1 1 rfl ?_
  refine k_icmp_lt C0 14 dX6_in_2 (by decide) (fun h2 => ?_) (fun h2 => ?_)
  ·
    refine k_iconst C0 0 dX6_in_14 (by decide) ?_
    exact k_zret C0 dX6_in_15 hr rfl hlk (Nat.le_of_ble_eq_true rfl) (Nat.le_of_ble_eq_true rfl) () rfl (fun H h => h)
  ·
    refine k_iload_n C0 dX6_in_5 0 rfl ?_
    refine k_iload_n C0 dX6_in_6 2 rfl ?_
    refine k_icmp_gt C0 14 dX6_in_7 (by decide) (fun _ => ?_) (fun zz => absurd (Int32.not_le.mp (fun q => h ⟨Int32.not_lt.mp h2, q⟩)) zz)
    refine k_iconst C0 0 dX6_in_14 (by decide) ?_
    exact k_zret C0 dX6_in_15 hr rfl hlk (Nat.le_of_ble_eq_true rfl) (Nat.le_of_ble_eq_true rfl) () rfl (fun H h => h)
set_option maxRecDepth 100000 in
set_option maxHeartbeats 4000000 in
theorem ct_fails (l : Launch) (D : va_G) (Y : Nat → Nat) (A : Nat → Prop) (o : Nat) (al : Nat → Nat) (mu : Rm) (x : Int32) : CT l yX6_fails (Cond.code yX6_fails cX6_fails 2 (some .int)) 0 0 D Y A [.ref o, .int x] (WR D Y A o al mu) (fun _ : Unit => some (.int 0)) (fun _ : Unit => WR D Y A o al (rI mu 25 0 x)) noX 0 0 := by
  refine CT.of (by decide) (Nat.le_of_ble_eq_true rfl) ?_
  intro p_ e_ s_ m_ below_ meth_ c_ C0 K0 hr hlk htab hnm_
  refine k_aload_n C0 dX6_fails_0 0 rfl ?_
  refine k_iload_n C0 dX6_fails_1 1 rfl ?_
  refine r_putS C0 K0 25 dX6_fails_2 (tD 1 rfl rfl) (by decide) rfl rfl (by decide +kernel) (rs_25 al _ _) (by decide) ?_
  refine k_iconst C0 0 dX6_fails_5 (by decide) ?_
  exact k_iret C0 dX6_fails_6 hr hlk (Nat.le_of_ble_eq_true rfl) (Nat.le_of_ble_eq_true rfl) () rfl (fun H h => h)
set_option maxRecDepth 100000 in
set_option maxHeartbeats 4000000 in
theorem ct_thrown (l : Launch) (D : va_G) (Y : Nat → Nat) (A : Nat → Prop) (o : Nat) (al : Nat → Nat) (mu : Rm)  : CT l yX6_thrown (Cond.code yX6_thrown cX6_thrown 1 (some .int)) 0 0 D Y A [.ref o] (WR D Y A o al mu) (fun _ : Unit => some (.int (mu.1 25 0))) (fun _ : Unit => WR D Y A o al mu) noX 0 0 := by
  refine CT.of (by decide) (Nat.le_of_ble_eq_true rfl) ?_
  intro p_ e_ s_ m_ below_ meth_ c_ C0 K0 hr hlk htab hnm_
  refine k_aload_n C0 dX6_thrown_0 0 rfl ?_
  refine r_getI C0 K0 25 (mu.1 25 0) dX6_thrown_1 (tD 1 rfl rfl) (by decide) rfl (rg_25 al _) rfl ?_
  exact k_iret C0 dX6_thrown_4 hr hlk (Nat.le_of_ble_eq_true rfl) (Nat.le_of_ble_eq_true rfl) () rfl (fun H h => h)
set_option maxRecDepth 100000 in
set_option maxHeartbeats 4000000 in
theorem ct_part (l : Launch) (D : va_G) (Y : Nat → Nat) (A : Nat → Prop) (V : Heap → Prop) (s : Int64) (f b : Int32) : CT l yX6_part (Cond.code yX6_part cX6_part 4 (some .int)) 0 0 D Y A [.long s, .int f, .int b] V (fun _ : Unit => some (.int (r_part s f b))) (fun _ : Unit => V) noX 0 0 := by
  refine CT.of (by decide) (Nat.le_of_ble_eq_true rfl) ?_
  intro p_ e_ s_ m_ below_ meth_ c_ C0 K0 hr hlk htab hnm_
  refine k_lload_n C0 dX6_part_0 0 rfl ?_
  refine k_iload_n C0 dX6_part_1 1 rfl ?_
  refine k_lshr C0 dX6_part_2 ?_
  refine k_lconst C0 1 dX6_part_3 (by decide) ?_
  refine k_iload_n C0 dX6_part_4 2 rfl ?_
  refine k_lshl C0 dX6_part_5 ?_
  refine k_lconst C0 1 dX6_part_6 (by decide) ?_
  refine k_lsub C0 dX6_part_7 ?_
  refine k_land C0 dX6_part_8 ?_
  refine k_l2i C0 dX6_part_9 ?_
  exact k_iret C0 dX6_part_10 hr hlk (Nat.le_of_ble_eq_true rfl) (Nat.le_of_ble_eq_true rfl) () rfl (fun H h => h)
set_option maxRecDepth 100000 in
set_option maxHeartbeats 4000000 in
theorem ct_priceOf (l : Launch) (D : va_G) (Y : Nat → Nat) (A : Nat → Prop) (V : Heap → Prop) (s : Int64) : CT l yX6_priceOf (Cond.code yX6_priceOf cX6_priceOf 2 (some .int)) 1 23 D Y A [.long s] V (fun _ : Unit => some (.int (r_price s))) (fun _ : Unit => V) noX 0 0 := by
  refine CT.of (by decide) (Nat.le_of_ble_eq_true rfl) ?_
  intro p_ e_ s_ m_ below_ meth_ c_ C0 K0 hr hlk htab hnm_
  refine k_lload_n C0 dX6_priceOf_0 0 rfl ?_
  refine k_iconst C0 0 dX6_priceOf_1 (by decide) ?_
  refine k_bipush C0 17 dX6_priceOf_2 (by decide) ?_
  refine k_callS C0 K0 dX6_priceOf_4 (ct_part l D Y A _ s (0 : Int32) (17 : Int32)) gkX6_81 hyX6_part rfl (by exact Nat.le_of_ble_eq_true rfl) ⟨Nat.le_of_ble_eq_true rfl, Nat.le_of_ble_eq_true rfl⟩ ⟨Nat.le_of_ble_eq_true rfl, Nat.le_of_ble_eq_true rfl⟩ (fun E => kX_no E) (fun u => ?_)
  exact k_iret C0 dX6_priceOf_7 hr hlk (Nat.le_of_ble_eq_true rfl) (Nat.le_of_ble_eq_true rfl) () rfl (fun H h => h)
set_option maxRecDepth 100000 in
set_option maxHeartbeats 4000000 in
theorem ct_taxOf (l : Launch) (D : va_G) (Y : Nat → Nat) (A : Nat → Prop) (V : Heap → Prop) (s : Int64) : CT l yX6_taxOf (Cond.code yX6_taxOf cX6_taxOf 2 (some .int)) 1 23 D Y A [.long s] V (fun _ : Unit => some (.int (r_tax s))) (fun _ : Unit => V) noX 0 0 := by
  refine CT.of (by decide) (Nat.le_of_ble_eq_true rfl) ?_
  intro p_ e_ s_ m_ below_ meth_ c_ C0 K0 hr hlk htab hnm_
  refine k_lload_n C0 dX6_taxOf_0 0 rfl ?_
  refine k_bipush C0 17 dX6_taxOf_1 (by decide) ?_
  refine k_bipush C0 15 dX6_taxOf_3 (by decide) ?_
  refine k_callS C0 K0 dX6_taxOf_5 (ct_part l D Y A _ s (17 : Int32) (15 : Int32)) gkX6_81 hyX6_part rfl (by exact Nat.le_of_ble_eq_true rfl) ⟨Nat.le_of_ble_eq_true rfl, Nat.le_of_ble_eq_true rfl⟩ ⟨Nat.le_of_ble_eq_true rfl, Nat.le_of_ble_eq_true rfl⟩ (fun E => kX_no E) (fun u => ?_)
  exact k_iret C0 dX6_taxOf_8 hr hlk (Nat.le_of_ble_eq_true rfl) (Nat.le_of_ble_eq_true rfl) () rfl (fun H h => h)
set_option maxRecDepth 100000 in
set_option maxHeartbeats 4000000 in
theorem ct_shareOf (l : Launch) (D : va_G) (Y : Nat → Nat) (A : Nat → Prop) (V : Heap → Prop) (s : Int64) : CT l yX6_shareOf (Cond.code yX6_shareOf cX6_shareOf 2 (some .int)) 1 23 D Y A [.long s] V (fun _ : Unit => some (.int (r_share s))) (fun _ : Unit => V) noX 0 0 := by
  refine CT.of (by decide) (Nat.le_of_ble_eq_true rfl) ?_
  intro p_ e_ s_ m_ below_ meth_ c_ C0 K0 hr hlk htab hnm_
  refine k_lload_n C0 dX6_shareOf_0 0 rfl ?_
  refine k_bipush C0 32 dX6_shareOf_1 (by decide) ?_
  refine k_bipush C0 15 dX6_shareOf_3 (by decide) ?_
  refine k_callS C0 K0 dX6_shareOf_5 (ct_part l D Y A _ s (32 : Int32) (15 : Int32)) gkX6_81 hyX6_part rfl (by exact Nat.le_of_ble_eq_true rfl) ⟨Nat.le_of_ble_eq_true rfl, Nat.le_of_ble_eq_true rfl⟩ ⟨Nat.le_of_ble_eq_true rfl, Nat.le_of_ble_eq_true rfl⟩ (fun E => kX_no E) (fun u => ?_)
  exact k_iret C0 dX6_shareOf_8 hr hlk (Nat.le_of_ble_eq_true rfl) (Nat.le_of_ble_eq_true rfl) () rfl (fun H h => h)
set_option maxRecDepth 100000 in
set_option maxHeartbeats 4000000 in
theorem ct_partOf (l : Launch) (D : va_G) (Y : Nat → Nat) (A : Nat → Prop) (V : Heap → Prop) (s : Int64) : CT l yX6_partOf (Cond.code yX6_partOf cX6_partOf 2 (some .int)) 2 44 D Y A [.long s] V (fun _ : Unit => some (.int (r_pof s))) (fun _ : Unit => V) noX 0 0 := by
  refine CT.of (by decide) (Nat.le_of_ble_eq_true rfl) ?_
  intro p_ e_ s_ m_ below_ meth_ c_ C0 K0 hr hlk htab hnm_
  refine k_lload_n C0 dX6_partOf_0 0 rfl ?_
  refine k_callS C0 K0 dX6_partOf_1 (ct_priceOf l D Y A _ s) gkX6_85 hyX6_priceOf rfl (by exact Nat.le_of_ble_eq_true rfl) ⟨Nat.le_of_ble_eq_true rfl, Nat.le_of_ble_eq_true rfl⟩ ⟨Nat.le_of_ble_eq_true rfl, Nat.le_of_ble_eq_true rfl⟩ (fun E => kX_no E) (fun u => ?_)
  refine k_lload_n C0 dX6_partOf_4 0 rfl ?_
  refine k_callS C0 K0 dX6_partOf_5 (ct_taxOf l D Y A _ s) gkX6_89 hyX6_taxOf rfl (by exact Nat.le_of_ble_eq_true rfl) ⟨Nat.le_of_ble_eq_true rfl, Nat.le_of_ble_eq_true rfl⟩ ⟨Nat.le_of_ble_eq_true rfl, Nat.le_of_ble_eq_true rfl⟩ (fun E => kX_no E) (fun u => ?_)
  refine k_isub C0 dX6_partOf_8 ?_
  refine k_lload_n C0 dX6_partOf_9 0 rfl ?_
  refine k_callS C0 K0 dX6_partOf_10 (ct_shareOf l D Y A _ s) gkX6_92 hyX6_shareOf rfl (by exact Nat.le_of_ble_eq_true rfl) ⟨Nat.le_of_ble_eq_true rfl, Nat.le_of_ble_eq_true rfl⟩ ⟨Nat.le_of_ble_eq_true rfl, Nat.le_of_ble_eq_true rfl⟩ (fun E => kX_no E) (fun u => ?_)
  refine k_isub C0 dX6_partOf_13 ?_
  refine k_lload_n C0 dX6_partOf_14 0 rfl ?_
  refine k_bipush C0 60 dX6_partOf_15 (by decide) ?_
  refine k_iconst C0 1 dX6_partOf_17 (by decide) ?_
  refine k_callS C0 K0 dX6_partOf_18 (ct_part l D Y A _ s (60 : Int32) (1 : Int32)) gkX6_81 hyX6_part rfl (by exact Nat.le_of_ble_eq_true rfl) ⟨Nat.le_of_ble_eq_true rfl, Nat.le_of_ble_eq_true rfl⟩ ⟨Nat.le_of_ble_eq_true rfl, Nat.le_of_ble_eq_true rfl⟩ (fun E => kX_no E) (fun u => ?_)
  refine k_iconst C0 1 dX6_partOf_21 (by decide) ?_
  refine k_icmp_ne C0 32 dX6_partOf_22 (by decide) (fun h22 => ?_) (fun h22 => ?_)
  ·
    refine k_iconst C0 0 dX6_partOf_32 (by decide) ?_
    refine k_iadd C0 dX6_partOf_33 ?_
    exact k_iret C0 dX6_partOf_34 hr hlk (Nat.le_of_ble_eq_true rfl) (Nat.le_of_ble_eq_true rfl) () (by first | (simp only [r_pof, if_pos h22]; done) | (simp only [r_pof, if_neg h22]; done)) (fun H h => h)
  ·
    refine k_lload_n C0 dX6_partOf_25 0 rfl ?_
    refine k_callS C0 K0 dX6_partOf_26 (ct_taxOf l D Y A _ s) gkX6_89 hyX6_taxOf rfl (by exact Nat.le_of_ble_eq_true rfl) ⟨Nat.le_of_ble_eq_true rfl, Nat.le_of_ble_eq_true rfl⟩ ⟨Nat.le_of_ble_eq_true rfl, Nat.le_of_ble_eq_true rfl⟩ (fun E => kX_no E) (fun u => ?_)
    refine k_goto C0 33 dX6_partOf_29 (by decide) ?_
    refine k_iadd C0 dX6_partOf_33 ?_
    exact k_iret C0 dX6_partOf_34 hr hlk (Nat.le_of_ble_eq_true rfl) (Nat.le_of_ble_eq_true rfl) () (by first | (simp only [r_pof, if_pos h22]; done) | (simp only [r_pof, if_neg h22]; done)) (fun H h => h)
set_option maxRecDepth 100000 in
set_option maxHeartbeats 4000000 in
theorem ct_counts (l : Launch) (D : va_G) (Y : Nat → Nat) (A : Nat → Prop) (o : Nat) (al : Nat → Nat) (mu : Rm) (s : Int64) (g : Int32) (hm : vp_in (r_part s 54 3) 6) (hl : vp_in (r_part s 57 3) 5) : CT l yX6_counts (Cond.code yX6_counts cX6_counts 4 none) 3 65 D Y A [.ref o, .long s, .int g] (WR D Y A o al mu) (fun _ : Unit => none) (fun _ : Unit => WR D Y A o al (r_counts mu s g)) noX 0 0 := by
  refine CT.of (by decide) (Nat.le_of_ble_eq_true rfl) ?_
  intro p_ e_ s_ m_ below_ meth_ c_ C0 K0 hr hlk htab hnm_
  refine k_aload_n C0 dX6_counts_0 0 rfl ?_
  refine r_get C0 K0 7 dX6_counts_1 (tC 223 rfl rfl) (by decide) rfl rfl ?_
  refine k_lload_n C0 dX6_counts_4 1 rfl ?_
  refine k_bipush C0 54 dX6_counts_5 (by decide) ?_
  refine k_iconst C0 3 dX6_counts_7 (by decide) ?_
  refine k_callS C0 K0 dX6_counts_8 (ct_part l D Y A _ s (54 : Int32) (3 : Int32)) gkX6_81 hyX6_part rfl (by exact Nat.le_of_ble_eq_true rfl) ⟨Nat.le_of_ble_eq_true rfl, Nat.le_of_ble_eq_true rfl⟩ ⟨Nat.le_of_ble_eq_true rfl, Nat.le_of_ble_eq_true rfl⟩ (fun E => kX_no E) (fun u => ?_)
  refine k_dup2 C0 dX6_counts_11 rfl rfl ?_
  refine r_iald C0 K0 7 dX6_counts_12 (by decide) hm (v := mu.1 7 ((r_part s (54 : Int32) (3 : Int32)).toNatClampNeg)) rfl ?_
  refine k_iload_n C0 dX6_counts_13 2 rfl ?_
  refine k_lload_n C0 dX6_counts_14 1 rfl ?_
  refine k_callS C0 K0 dX6_counts_15 (ct_partOf l D Y A _ s) gkX6_95 hyX6_partOf rfl (by exact Nat.le_of_ble_eq_true rfl) ⟨Nat.le_of_ble_eq_true rfl, Nat.le_of_ble_eq_true rfl⟩ ⟨Nat.le_of_ble_eq_true rfl, Nat.le_of_ble_eq_true rfl⟩ (fun E => kX_no E) (fun u => ?_)
  refine k_imul C0 dX6_counts_18 ?_
  refine k_iadd C0 dX6_counts_19 ?_
  refine r_iast C0 K0 7 dX6_counts_20 (by decide) hm ?_
  refine k_aload_n C0 dX6_counts_21 0 rfl ?_
  refine k_dup C0 dX6_counts_22 rfl ?_
  refine r_getI C0 K0 23 (mu.1 23 0) dX6_counts_23 (tC 239 rfl rfl) (by decide) rfl (rg_23 al _) (rI_tr (by decide) rfl) ?_
  refine k_iload_n C0 dX6_counts_26 2 rfl ?_
  refine k_lload_n C0 dX6_counts_27 1 rfl ?_
  refine k_callS C0 K0 dX6_counts_28 (ct_shareOf l D Y A _ s) gkX6_92 hyX6_shareOf rfl (by exact Nat.le_of_ble_eq_true rfl) ⟨Nat.le_of_ble_eq_true rfl, Nat.le_of_ble_eq_true rfl⟩ ⟨Nat.le_of_ble_eq_true rfl, Nat.le_of_ble_eq_true rfl⟩ (fun E => kX_no E) (fun u => ?_)
  refine k_imul C0 dX6_counts_31 ?_
  refine k_iadd C0 dX6_counts_32 ?_
  refine r_putS C0 K0 23 dX6_counts_33 (tC 239 rfl rfl) (by decide) rfl rfl (by decide +kernel) (rs_23 al _ _) (by decide) ?_
  refine k_aload_n C0 dX6_counts_36 0 rfl ?_
  refine k_dup C0 dX6_counts_37 rfl ?_
  refine r_getI C0 K0 24 (mu.1 24 0) dX6_counts_38 (tD 0 rfl rfl) (by decide) rfl (rg_24 al _) (rI_tr (by decide) (rI_tr (by decide) rfl)) ?_
  refine k_iload_n C0 dX6_counts_41 2 rfl ?_
  refine k_lload_n C0 dX6_counts_42 1 rfl ?_
  refine k_callS C0 K0 dX6_counts_43 (ct_priceOf l D Y A _ s) gkX6_85 hyX6_priceOf rfl (by exact Nat.le_of_ble_eq_true rfl) ⟨Nat.le_of_ble_eq_true rfl, Nat.le_of_ble_eq_true rfl⟩ ⟨Nat.le_of_ble_eq_true rfl, Nat.le_of_ble_eq_true rfl⟩ (fun E => kX_no E) (fun u => ?_)
  refine k_imul C0 dX6_counts_46 ?_
  refine k_iadd C0 dX6_counts_47 ?_
  refine r_putS C0 K0 24 dX6_counts_48 (tD 0 rfl rfl) (by decide) rfl rfl (by decide +kernel) (rs_24 al _ _) (by decide) ?_
  refine k_aload_n C0 dX6_counts_51 0 rfl ?_
  refine r_get C0 K0 3 dX6_counts_52 (tC 219 rfl rfl) (by decide) rfl rfl ?_
  refine k_lload_n C0 dX6_counts_55 1 rfl ?_
  refine k_bipush C0 57 dX6_counts_56 (by decide) ?_
  refine k_iconst C0 3 dX6_counts_58 (by decide) ?_
  refine k_callS C0 K0 dX6_counts_59 (ct_part l D Y A _ s (57 : Int32) (3 : Int32)) gkX6_81 hyX6_part rfl (by exact Nat.le_of_ble_eq_true rfl) ⟨Nat.le_of_ble_eq_true rfl, Nat.le_of_ble_eq_true rfl⟩ ⟨Nat.le_of_ble_eq_true rfl, Nat.le_of_ble_eq_true rfl⟩ (fun E => kX_no E) (fun u => ?_)
  refine k_dup2 C0 dX6_counts_62 rfl rfl ?_
  refine r_iald C0 K0 3 dX6_counts_63 (by decide) hl (v := mu.1 3 ((r_part s (57 : Int32) (3 : Int32)).toNatClampNeg)) (rI_tr (by decide) (rI_tr (by decide) (rI_tr (by decide) rfl))) ?_
  refine k_lload_n C0 dX6_counts_64 1 rfl ?_
  refine k_bipush C0 60 dX6_counts_65 (by decide) ?_
  refine k_iconst C0 1 dX6_counts_67 (by decide) ?_
  refine k_callS C0 K0 dX6_counts_68 (ct_part l D Y A _ s (60 : Int32) (1 : Int32)) gkX6_81 hyX6_part rfl (by exact Nat.le_of_ble_eq_true rfl) ⟨Nat.le_of_ble_eq_true rfl, Nat.le_of_ble_eq_true rfl⟩ ⟨Nat.le_of_ble_eq_true rfl, Nat.le_of_ble_eq_true rfl⟩ (fun E => kX_no E) (fun u => ?_)
  refine k_iconst C0 1 dX6_counts_71 (by decide) ?_
  refine k_icmp_ne C0 79 dX6_counts_72 (by decide) (fun h72 => ?_) (fun h72 => ?_)
  ·
    refine k_iload_n C0 dX6_counts_79 2 rfl ?_
    refine k_lload_n C0 dX6_counts_80 1 rfl ?_
    refine k_callS C0 K0 dX6_counts_81 (ct_taxOf l D Y A _ s) gkX6_89 hyX6_taxOf rfl (by exact Nat.le_of_ble_eq_true rfl) ⟨Nat.le_of_ble_eq_true rfl, Nat.le_of_ble_eq_true rfl⟩ ⟨Nat.le_of_ble_eq_true rfl, Nat.le_of_ble_eq_true rfl⟩ (fun E => kX_no E) (fun u => ?_)
    refine k_imul C0 dX6_counts_84 ?_
    refine k_iadd C0 dX6_counts_85 ?_
    refine r_iast C0 K0 3 dX6_counts_86 (by decide) hl ?_
    exact k_vret C0 dX6_counts_87 hr hlk (Nat.le_of_ble_eq_true rfl) (Nat.le_of_ble_eq_true rfl) () rfl (by first | (unfold r_counts; rw [if_pos h72]; exact fun H h => h) | (unfold r_counts; rw [if_neg h72]; exact fun H h => h))
  ·
    refine k_iconst C0 0 dX6_counts_75 (by decide) ?_
    refine k_goto C0 85 dX6_counts_76 (by decide) ?_
    refine k_iadd C0 dX6_counts_85 ?_
    refine r_iast C0 K0 3 dX6_counts_86 (by decide) hl ?_
    exact k_vret C0 dX6_counts_87 hr hlk (Nat.le_of_ble_eq_true rfl) (Nat.le_of_ble_eq_true rfl) () rfl (by first | (unfold r_counts; rw [if_pos h72]; exact fun H h => h) | (unfold r_counts; rw [if_neg h72]; exact fun H h => h))
set_option maxRecDepth 100000 in
set_option maxHeartbeats 4000000 in
theorem ct_isSale1 (l : Launch) (D : va_G) (Y : Nat → Nat) (A : Nat → Prop) (o : Nat) (al : Nat → Nat) (mu : Rm) (x : Int32) (h1 : 0 ≤ x) (h2 : x ≤ mu.1 13 0 - 1) : CT l yX6_isSale (Cond.code yX6_isSale cX6_isSale 2 (some .boolean)) 1 22 D Y A [.ref o, .int x] (WR D Y A o al mu) (fun _ : Unit => some (.int 1)) (fun _ : Unit => WR D Y A o al (rI mu 25 0 0)) noX 0 0 := by
  refine CT.of (by decide) (Nat.le_of_ble_eq_true rfl) ?_
  intro p_ e_ s_ m_ below_ meth_ c_ C0 K0 hr hlk htab hnm_
  refine k_aload_n C0 dX6_isSale_0 0 rfl ?_
  refine k_iload_n C0 dX6_isSale_1 1 rfl ?_
  refine k_iconst C0 0 dX6_isSale_2 (by decide) ?_
  refine k_aload_n C0 dX6_isSale_3 0 rfl ?_
  refine r_getI C0 K0 13 (mu.1 13 0) dX6_isSale_4 (tC 229 rfl rfl) (by decide) rfl (rg_13 al _) rfl ?_
  refine k_iconst C0 1 dX6_isSale_7 (by decide) ?_
  refine k_isub C0 dX6_isSale_8 ?_
  refine k_callS C0 K0 dX6_isSale_9 (ct_in1 l D Y A _ x (0 : Int32) ((mu.1 13 0) - 1) h1 h2) gkX6_69 hyX6_in rfl (by exact Nat.le_of_ble_eq_true rfl) ⟨Nat.le_of_ble_eq_true rfl, Nat.le_of_ble_eq_true rfl⟩ ⟨Nat.le_of_ble_eq_true rfl, Nat.le_of_ble_eq_true rfl⟩ (fun E => kX_no E) (fun u => ?_)
  refine k_if_eq C0 19 dX6_isSale_12 (by decide) (fun zz => absurd zz (by decide)) (fun _ => ?_)
  refine k_iconst C0 0 dX6_isSale_15 (by decide) ?_
  refine k_goto C0 20 dX6_isSale_16 (by decide) ?_
  refine r_putS C0 K0 25 dX6_isSale_20 (tD 1 rfl rfl) (by decide) rfl rfl (by decide +kernel) (rs_25 al _ _) (by decide) ?_
  refine k_aload_n C0 dX6_isSale_23 0 rfl ?_
  refine r_getI C0 K0 25 0 dX6_isSale_24 (tD 1 rfl rfl) (by decide) rfl (rg_25 al _) rI_at ?_
  refine k_if_ne C0 34 dX6_isSale_27 (by decide) (fun zz => absurd (by decide) zz) (fun _ => ?_)
  refine k_iconst C0 1 dX6_isSale_30 (by decide) ?_
  refine k_goto C0 35 dX6_isSale_31 (by decide) ?_
  exact k_zret C0 dX6_isSale_35 hr rfl hlk (Nat.le_of_ble_eq_true rfl) (Nat.le_of_ble_eq_true rfl) () rfl (fun H h => h)
set_option maxRecDepth 100000 in
set_option maxHeartbeats 4000000 in
theorem ct_isSale0 (l : Launch) (D : va_G) (Y : Nat → Nat) (A : Nat → Prop) (o : Nat) (al : Nat → Nat) (mu : Rm) (x : Int32) (h : ¬ (0 ≤ x ∧ x ≤ mu.1 13 0 - 1)) : CT l yX6_isSale (Cond.code yX6_isSale cX6_isSale 2 (some .boolean)) 1 22 D Y A [.ref o, .int x] (WR D Y A o al mu) (fun _ : Unit => some (.int 0)) (fun _ : Unit => WR D Y A o al (rI mu 25 0 1)) noX 0 0 := by
  refine CT.of (by decide) (Nat.le_of_ble_eq_true rfl) ?_
  intro p_ e_ s_ m_ below_ meth_ c_ C0 K0 hr hlk htab hnm_
  refine k_aload_n C0 dX6_isSale_0 0 rfl ?_
  refine k_iload_n C0 dX6_isSale_1 1 rfl ?_
  refine k_iconst C0 0 dX6_isSale_2 (by decide) ?_
  refine k_aload_n C0 dX6_isSale_3 0 rfl ?_
  refine r_getI C0 K0 13 (mu.1 13 0) dX6_isSale_4 (tC 229 rfl rfl) (by decide) rfl (rg_13 al _) rfl ?_
  refine k_iconst C0 1 dX6_isSale_7 (by decide) ?_
  refine k_isub C0 dX6_isSale_8 ?_
  refine k_callS C0 K0 dX6_isSale_9 (ct_in0 l D Y A _ x (0 : Int32) ((mu.1 13 0) - 1) h) gkX6_69 hyX6_in rfl (by exact Nat.le_of_ble_eq_true rfl) ⟨Nat.le_of_ble_eq_true rfl, Nat.le_of_ble_eq_true rfl⟩ ⟨Nat.le_of_ble_eq_true rfl, Nat.le_of_ble_eq_true rfl⟩ (fun E => kX_no E) (fun u => ?_)
  refine k_if_eq C0 19 dX6_isSale_12 (by decide) (fun _ => ?_) (fun zz => absurd (by decide) zz)
  refine k_iconst C0 1 dX6_isSale_19 (by decide) ?_
  refine r_putS C0 K0 25 dX6_isSale_20 (tD 1 rfl rfl) (by decide) rfl rfl (by decide +kernel) (rs_25 al _ _) (by decide) ?_
  refine k_aload_n C0 dX6_isSale_23 0 rfl ?_
  refine r_getI C0 K0 25 1 dX6_isSale_24 (tD 1 rfl rfl) (by decide) rfl (rg_25 al _) rI_at ?_
  refine k_if_ne C0 34 dX6_isSale_27 (by decide) (fun _ => ?_) (fun zz => absurd zz (by decide))
  refine k_iconst C0 0 dX6_isSale_34 (by decide) ?_
  exact k_zret C0 dX6_isSale_35 hr rfl hlk (Nat.le_of_ble_eq_true rfl) (Nat.le_of_ble_eq_true rfl) () rfl (fun H h => h)
set_option maxRecDepth 100000 in
set_option maxHeartbeats 4000000 in
theorem ct_isPlan1 (l : Launch) (D : va_G) (Y : Nat → Nat) (A : Nat → Prop) (o : Nat) (al : Nat → Nat) (mu : Rm) (x : Int32) (h1 : 0 ≤ x) (h2 : x ≤ mu.1 15 0 - 1) : CT l yX6_isPlan (Cond.code yX6_isPlan cX6_isPlan 2 (some .boolean)) 1 22 D Y A [.ref o, .int x] (WR D Y A o al mu) (fun _ : Unit => some (.int 1)) (fun _ : Unit => WR D Y A o al (rI mu 25 0 0)) noX 0 0 := by
  refine CT.of (by decide) (Nat.le_of_ble_eq_true rfl) ?_
  intro p_ e_ s_ m_ below_ meth_ c_ C0 K0 hr hlk htab hnm_
  refine k_aload_n C0 dX6_isPlan_0 0 rfl ?_
  refine k_iload_n C0 dX6_isPlan_1 1 rfl ?_
  refine k_iconst C0 0 dX6_isPlan_2 (by decide) ?_
  refine k_aload_n C0 dX6_isPlan_3 0 rfl ?_
  refine r_getI C0 K0 15 (mu.1 15 0) dX6_isPlan_4 (tC 231 rfl rfl) (by decide) rfl (rg_15 al _) rfl ?_
  refine k_iconst C0 1 dX6_isPlan_7 (by decide) ?_
  refine k_isub C0 dX6_isPlan_8 ?_
  refine k_callS C0 K0 dX6_isPlan_9 (ct_in1 l D Y A _ x (0 : Int32) ((mu.1 15 0) - 1) h1 h2) gkX6_69 hyX6_in rfl (by exact Nat.le_of_ble_eq_true rfl) ⟨Nat.le_of_ble_eq_true rfl, Nat.le_of_ble_eq_true rfl⟩ ⟨Nat.le_of_ble_eq_true rfl, Nat.le_of_ble_eq_true rfl⟩ (fun E => kX_no E) (fun u => ?_)
  refine k_if_eq C0 19 dX6_isPlan_12 (by decide) (fun zz => absurd zz (by decide)) (fun _ => ?_)
  refine k_iconst C0 0 dX6_isPlan_15 (by decide) ?_
  refine k_goto C0 20 dX6_isPlan_16 (by decide) ?_
  refine r_putS C0 K0 25 dX6_isPlan_20 (tD 1 rfl rfl) (by decide) rfl rfl (by decide +kernel) (rs_25 al _ _) (by decide) ?_
  refine k_aload_n C0 dX6_isPlan_23 0 rfl ?_
  refine r_getI C0 K0 25 0 dX6_isPlan_24 (tD 1 rfl rfl) (by decide) rfl (rg_25 al _) rI_at ?_
  refine k_if_ne C0 34 dX6_isPlan_27 (by decide) (fun zz => absurd (by decide) zz) (fun _ => ?_)
  refine k_iconst C0 1 dX6_isPlan_30 (by decide) ?_
  refine k_goto C0 35 dX6_isPlan_31 (by decide) ?_
  exact k_zret C0 dX6_isPlan_35 hr rfl hlk (Nat.le_of_ble_eq_true rfl) (Nat.le_of_ble_eq_true rfl) () rfl (fun H h => h)
set_option maxRecDepth 100000 in
set_option maxHeartbeats 4000000 in
theorem ct_isPlan0 (l : Launch) (D : va_G) (Y : Nat → Nat) (A : Nat → Prop) (o : Nat) (al : Nat → Nat) (mu : Rm) (x : Int32) (h : ¬ (0 ≤ x ∧ x ≤ mu.1 15 0 - 1)) : CT l yX6_isPlan (Cond.code yX6_isPlan cX6_isPlan 2 (some .boolean)) 1 22 D Y A [.ref o, .int x] (WR D Y A o al mu) (fun _ : Unit => some (.int 0)) (fun _ : Unit => WR D Y A o al (rI mu 25 0 1)) noX 0 0 := by
  refine CT.of (by decide) (Nat.le_of_ble_eq_true rfl) ?_
  intro p_ e_ s_ m_ below_ meth_ c_ C0 K0 hr hlk htab hnm_
  refine k_aload_n C0 dX6_isPlan_0 0 rfl ?_
  refine k_iload_n C0 dX6_isPlan_1 1 rfl ?_
  refine k_iconst C0 0 dX6_isPlan_2 (by decide) ?_
  refine k_aload_n C0 dX6_isPlan_3 0 rfl ?_
  refine r_getI C0 K0 15 (mu.1 15 0) dX6_isPlan_4 (tC 231 rfl rfl) (by decide) rfl (rg_15 al _) rfl ?_
  refine k_iconst C0 1 dX6_isPlan_7 (by decide) ?_
  refine k_isub C0 dX6_isPlan_8 ?_
  refine k_callS C0 K0 dX6_isPlan_9 (ct_in0 l D Y A _ x (0 : Int32) ((mu.1 15 0) - 1) h) gkX6_69 hyX6_in rfl (by exact Nat.le_of_ble_eq_true rfl) ⟨Nat.le_of_ble_eq_true rfl, Nat.le_of_ble_eq_true rfl⟩ ⟨Nat.le_of_ble_eq_true rfl, Nat.le_of_ble_eq_true rfl⟩ (fun E => kX_no E) (fun u => ?_)
  refine k_if_eq C0 19 dX6_isPlan_12 (by decide) (fun _ => ?_) (fun zz => absurd (by decide) zz)
  refine k_iconst C0 1 dX6_isPlan_19 (by decide) ?_
  refine r_putS C0 K0 25 dX6_isPlan_20 (tD 1 rfl rfl) (by decide) rfl rfl (by decide +kernel) (rs_25 al _ _) (by decide) ?_
  refine k_aload_n C0 dX6_isPlan_23 0 rfl ?_
  refine r_getI C0 K0 25 1 dX6_isPlan_24 (tD 1 rfl rfl) (by decide) rfl (rg_25 al _) rI_at ?_
  refine k_if_ne C0 34 dX6_isPlan_27 (by decide) (fun _ => ?_) (fun zz => absurd zz (by decide))
  refine k_iconst C0 0 dX6_isPlan_34 (by decide) ?_
  exact k_zret C0 dX6_isPlan_35 hr rfl hlk (Nat.le_of_ble_eq_true rfl) (Nat.le_of_ble_eq_true rfl) () rfl (fun H h => h)
set_option maxRecDepth 100000 in
set_option maxHeartbeats 4000000 in
theorem ct_isMaker1 (l : Launch) (D : va_G) (Y : Nat → Nat) (A : Nat → Prop) (o : Nat) (al : Nat → Nat) (mu : Rm) (x : Int32) (h1 : 0 ≤ x) (h2 : x ≤ mu.1 4 0 - 1) : CT l yX6_isMaker (Cond.code yX6_isMaker cX6_isMaker 2 (some .boolean)) 1 22 D Y A [.ref o, .int x] (WR D Y A o al mu) (fun _ : Unit => some (.int 1)) (fun _ : Unit => WR D Y A o al (rI mu 25 0 0)) noX 0 0 := by
  refine CT.of (by decide) (Nat.le_of_ble_eq_true rfl) ?_
  intro p_ e_ s_ m_ below_ meth_ c_ C0 K0 hr hlk htab hnm_
  refine k_aload_n C0 dX6_isMaker_0 0 rfl ?_
  refine k_iload_n C0 dX6_isMaker_1 1 rfl ?_
  refine k_iconst C0 0 dX6_isMaker_2 (by decide) ?_
  refine k_aload_n C0 dX6_isMaker_3 0 rfl ?_
  refine r_getI C0 K0 4 (mu.1 4 0) dX6_isMaker_4 (tC 220 rfl rfl) (by decide) rfl (rg_4 al _) rfl ?_
  refine k_iconst C0 1 dX6_isMaker_7 (by decide) ?_
  refine k_isub C0 dX6_isMaker_8 ?_
  refine k_callS C0 K0 dX6_isMaker_9 (ct_in1 l D Y A _ x (0 : Int32) ((mu.1 4 0) - 1) h1 h2) gkX6_69 hyX6_in rfl (by exact Nat.le_of_ble_eq_true rfl) ⟨Nat.le_of_ble_eq_true rfl, Nat.le_of_ble_eq_true rfl⟩ ⟨Nat.le_of_ble_eq_true rfl, Nat.le_of_ble_eq_true rfl⟩ (fun E => kX_no E) (fun u => ?_)
  refine k_if_eq C0 19 dX6_isMaker_12 (by decide) (fun zz => absurd zz (by decide)) (fun _ => ?_)
  refine k_iconst C0 0 dX6_isMaker_15 (by decide) ?_
  refine k_goto C0 20 dX6_isMaker_16 (by decide) ?_
  refine r_putS C0 K0 25 dX6_isMaker_20 (tD 1 rfl rfl) (by decide) rfl rfl (by decide +kernel) (rs_25 al _ _) (by decide) ?_
  refine k_aload_n C0 dX6_isMaker_23 0 rfl ?_
  refine r_getI C0 K0 25 0 dX6_isMaker_24 (tD 1 rfl rfl) (by decide) rfl (rg_25 al _) rI_at ?_
  refine k_if_ne C0 34 dX6_isMaker_27 (by decide) (fun zz => absurd (by decide) zz) (fun _ => ?_)
  refine k_iconst C0 1 dX6_isMaker_30 (by decide) ?_
  refine k_goto C0 35 dX6_isMaker_31 (by decide) ?_
  exact k_zret C0 dX6_isMaker_35 hr rfl hlk (Nat.le_of_ble_eq_true rfl) (Nat.le_of_ble_eq_true rfl) () rfl (fun H h => h)
set_option maxRecDepth 100000 in
set_option maxHeartbeats 4000000 in
theorem ct_isMaker0 (l : Launch) (D : va_G) (Y : Nat → Nat) (A : Nat → Prop) (o : Nat) (al : Nat → Nat) (mu : Rm) (x : Int32) (h : ¬ (0 ≤ x ∧ x ≤ mu.1 4 0 - 1)) : CT l yX6_isMaker (Cond.code yX6_isMaker cX6_isMaker 2 (some .boolean)) 1 22 D Y A [.ref o, .int x] (WR D Y A o al mu) (fun _ : Unit => some (.int 0)) (fun _ : Unit => WR D Y A o al (rI mu 25 0 1)) noX 0 0 := by
  refine CT.of (by decide) (Nat.le_of_ble_eq_true rfl) ?_
  intro p_ e_ s_ m_ below_ meth_ c_ C0 K0 hr hlk htab hnm_
  refine k_aload_n C0 dX6_isMaker_0 0 rfl ?_
  refine k_iload_n C0 dX6_isMaker_1 1 rfl ?_
  refine k_iconst C0 0 dX6_isMaker_2 (by decide) ?_
  refine k_aload_n C0 dX6_isMaker_3 0 rfl ?_
  refine r_getI C0 K0 4 (mu.1 4 0) dX6_isMaker_4 (tC 220 rfl rfl) (by decide) rfl (rg_4 al _) rfl ?_
  refine k_iconst C0 1 dX6_isMaker_7 (by decide) ?_
  refine k_isub C0 dX6_isMaker_8 ?_
  refine k_callS C0 K0 dX6_isMaker_9 (ct_in0 l D Y A _ x (0 : Int32) ((mu.1 4 0) - 1) h) gkX6_69 hyX6_in rfl (by exact Nat.le_of_ble_eq_true rfl) ⟨Nat.le_of_ble_eq_true rfl, Nat.le_of_ble_eq_true rfl⟩ ⟨Nat.le_of_ble_eq_true rfl, Nat.le_of_ble_eq_true rfl⟩ (fun E => kX_no E) (fun u => ?_)
  refine k_if_eq C0 19 dX6_isMaker_12 (by decide) (fun _ => ?_) (fun zz => absurd (by decide) zz)
  refine k_iconst C0 1 dX6_isMaker_19 (by decide) ?_
  refine r_putS C0 K0 25 dX6_isMaker_20 (tD 1 rfl rfl) (by decide) rfl rfl (by decide +kernel) (rs_25 al _ _) (by decide) ?_
  refine k_aload_n C0 dX6_isMaker_23 0 rfl ?_
  refine r_getI C0 K0 25 1 dX6_isMaker_24 (tD 1 rfl rfl) (by decide) rfl (rg_25 al _) rI_at ?_
  refine k_if_ne C0 34 dX6_isMaker_27 (by decide) (fun _ => ?_) (fun zz => absurd zz (by decide))
  refine k_iconst C0 0 dX6_isMaker_34 (by decide) ?_
  exact k_zret C0 dX6_isMaker_35 hr rfl hlk (Nat.le_of_ble_eq_true rfl) (Nat.le_of_ble_eq_true rfl) () rfl (fun H h => h)
set_option maxRecDepth 100000 in
set_option maxHeartbeats 4000000 in
theorem ct_sales (l : Launch) (D : va_G) (Y : Nat → Nat) (A : Nat → Prop) (o : Nat) (al : Nat → Nat) (mu : Rm)  : CT l yX6_sales (Cond.code yX6_sales cX6_sales 1 (some .int)) 0 0 D Y A [.ref o] (WR D Y A o al mu) (fun _ : Unit => some (.int (mu.1 13 0))) (fun _ : Unit => WR D Y A o al (rI mu 25 0 0)) noX 0 0 := by
  refine CT.of (by decide) (Nat.le_of_ble_eq_true rfl) ?_
  intro p_ e_ s_ m_ below_ meth_ c_ C0 K0 hr hlk htab hnm_
  refine k_aload_n C0 dX6_sales_0 0 rfl ?_
  refine k_iconst C0 0 dX6_sales_1 (by decide) ?_
  refine r_putS C0 K0 25 dX6_sales_2 (tD 1 rfl rfl) (by decide) rfl rfl (by decide +kernel) (rs_25 al _ _) (by decide) ?_
  refine k_aload_n C0 dX6_sales_5 0 rfl ?_
  refine r_getI C0 K0 13 (mu.1 13 0) dX6_sales_6 (tC 229 rfl rfl) (by decide) rfl (rg_13 al _) (rI_tr (by decide) rfl) ?_
  exact k_iret C0 dX6_sales_9 hr hlk (Nat.le_of_ble_eq_true rfl) (Nat.le_of_ble_eq_true rfl) () rfl (fun H h => h)
set_option maxRecDepth 100000 in
set_option maxHeartbeats 4000000 in
theorem ct_shop (l : Launch) (D : va_G) (Y : Nat → Nat) (A : Nat → Prop) (o : Nat) (al : Nat → Nat) (mu : Rm)  : CT l yX6_shop (Cond.code yX6_shop cX6_shop 1 (some .int)) 0 0 D Y A [.ref o] (WR D Y A o al mu) (fun _ : Unit => some (.int (mu.1 23 0))) (fun _ : Unit => WR D Y A o al (rI mu 25 0 0)) noX 0 0 := by
  refine CT.of (by decide) (Nat.le_of_ble_eq_true rfl) ?_
  intro p_ e_ s_ m_ below_ meth_ c_ C0 K0 hr hlk htab hnm_
  refine k_aload_n C0 dX6_shop_0 0 rfl ?_
  refine k_iconst C0 0 dX6_shop_1 (by decide) ?_
  refine r_putS C0 K0 25 dX6_shop_2 (tD 1 rfl rfl) (by decide) rfl rfl (by decide +kernel) (rs_25 al _ _) (by decide) ?_
  refine k_aload_n C0 dX6_shop_5 0 rfl ?_
  refine r_getI C0 K0 23 (mu.1 23 0) dX6_shop_6 (tC 239 rfl rfl) (by decide) rfl (rg_23 al _) (rI_tr (by decide) rfl) ?_
  exact k_iret C0 dX6_shop_9 hr hlk (Nat.le_of_ble_eq_true rfl) (Nat.le_of_ble_eq_true rfl) () rfl (fun H h => h)
set_option maxRecDepth 100000 in
set_option maxHeartbeats 4000000 in
theorem ct_takings (l : Launch) (D : va_G) (Y : Nat → Nat) (A : Nat → Prop) (o : Nat) (al : Nat → Nat) (mu : Rm)  : CT l yX6_takings (Cond.code yX6_takings cX6_takings 1 (some .int)) 0 0 D Y A [.ref o] (WR D Y A o al mu) (fun _ : Unit => some (.int (mu.1 24 0))) (fun _ : Unit => WR D Y A o al (rI mu 25 0 0)) noX 0 0 := by
  refine CT.of (by decide) (Nat.le_of_ble_eq_true rfl) ?_
  intro p_ e_ s_ m_ below_ meth_ c_ C0 K0 hr hlk htab hnm_
  refine k_aload_n C0 dX6_takings_0 0 rfl ?_
  refine k_iconst C0 0 dX6_takings_1 (by decide) ?_
  refine r_putS C0 K0 25 dX6_takings_2 (tD 1 rfl rfl) (by decide) rfl rfl (by decide +kernel) (rs_25 al _ _) (by decide) ?_
  refine k_aload_n C0 dX6_takings_5 0 rfl ?_
  refine r_getI C0 K0 24 (mu.1 24 0) dX6_takings_6 (tD 0 rfl rfl) (by decide) rfl (rg_24 al _) (rI_tr (by decide) rfl) ?_
  exact k_iret C0 dX6_takings_9 hr hlk (Nat.le_of_ble_eq_true rfl) (Nat.le_of_ble_eq_true rfl) () rfl (fun H h => h)
set_option maxRecDepth 100000 in
set_option maxHeartbeats 4000000 in
theorem ct_day (l : Launch) (D : va_G) (Y : Nat → Nat) (A : Nat → Prop) (o : Nat) (al : Nat → Nat) (mu : Rm)  : CT l yX6_day (Cond.code yX6_day cX6_day 1 (some .int)) 0 0 D Y A [.ref o] (WR D Y A o al mu) (fun _ : Unit => some (.int (mu.1 0 0))) (fun _ : Unit => WR D Y A o al (rI mu 25 0 0)) noX 0 0 := by
  refine CT.of (by decide) (Nat.le_of_ble_eq_true rfl) ?_
  intro p_ e_ s_ m_ below_ meth_ c_ C0 K0 hr hlk htab hnm_
  refine k_aload_n C0 dX6_day_0 0 rfl ?_
  refine k_iconst C0 0 dX6_day_1 (by decide) ?_
  refine r_putS C0 K0 25 dX6_day_2 (tD 1 rfl rfl) (by decide) rfl rfl (by decide +kernel) (rs_25 al _ _) (by decide) ?_
  refine k_aload_n C0 dX6_day_5 0 rfl ?_
  refine r_getI C0 K0 0 (mu.1 0 0) dX6_day_6 (tC 216 rfl rfl) (by decide) rfl (rg_0 al _) (rI_tr (by decide) rfl) ?_
  exact k_iret C0 dX6_day_9 hr hlk (Nat.le_of_ble_eq_true rfl) (Nat.le_of_ble_eq_true rfl) () rfl (fun H h => h)
set_option maxRecDepth 100000 in
set_option maxHeartbeats 4000000 in
theorem ct_paid1 (l : Launch) (D : va_G) (Y : Nat → Nat) (A : Nat → Prop) (o : Nat) (al : Nat → Nat) (mu : Rm) (x : Int32) (h1 : 0 ≤ x) (h2 : x ≤ mu.1 13 0 - 1) (hi : vp_in x 5400) : CT l yX6_paid (Cond.code yX6_paid cX6_paid 2 (some .int)) 2 44 D Y A [.ref o, .int x] (WR D Y A o al mu) (fun _ : Unit => some (.int (r_price (mu.2 x.toNatClampNeg)))) (fun _ : Unit => WR D Y A o al (rI mu 25 0 0)) noX 0 0 := by
  refine CT.of (by decide) (Nat.le_of_ble_eq_true rfl) ?_
  intro p_ e_ s_ m_ below_ meth_ c_ C0 K0 hr hlk htab hnm_
  refine k_aload_n C0 dX6_paid_0 0 rfl ?_
  refine k_iload_n C0 dX6_paid_1 1 rfl ?_
  refine k_callV C0 K0 dX6_paid_2 (ct_isSale1 l D Y A o al mu x h1 h2) gkX6_118 hyX6_isSale (fun H hV => r_recv K0 hV) rfl (by exact Nat.le_of_ble_eq_true rfl) ⟨Nat.le_of_ble_eq_true rfl, Nat.le_of_ble_eq_true rfl⟩ ⟨Nat.le_of_ble_eq_true rfl, Nat.le_of_ble_eq_true rfl⟩ (fun E => kX_no E) (fun u => ?_)
  refine k_if_eq C0 20 dX6_paid_5 (by decide) (fun zz => absurd zz (by decide)) (fun _ => ?_)
  refine k_aload_n C0 dX6_paid_8 0 rfl ?_
  refine r_get C0 K0 14 dX6_paid_9 (tC 230 rfl rfl) (by decide) rfl rfl ?_
  refine k_iload_n C0 dX6_paid_12 1 rfl ?_
  refine r_lald C0 K0 dX6_paid_13 hi (v := mu.2 x.toNatClampNeg) rfl ?_
  refine k_callS C0 K0 dX6_paid_14 (ct_priceOf l D Y A _ (mu.2 x.toNatClampNeg)) gkX6_85 hyX6_priceOf rfl (by exact Nat.le_of_ble_eq_true rfl) ⟨Nat.le_of_ble_eq_true rfl, Nat.le_of_ble_eq_true rfl⟩ ⟨Nat.le_of_ble_eq_true rfl, Nat.le_of_ble_eq_true rfl⟩ (fun E => kX_no E) (fun u => ?_)
  refine k_goto C0 21 dX6_paid_17 (by decide) ?_
  exact k_iret C0 dX6_paid_21 hr hlk (Nat.le_of_ble_eq_true rfl) (Nat.le_of_ble_eq_true rfl) () rfl (fun H h => h)
set_option maxRecDepth 100000 in
set_option maxHeartbeats 4000000 in
theorem ct_paid0 (l : Launch) (D : va_G) (Y : Nat → Nat) (A : Nat → Prop) (o : Nat) (al : Nat → Nat) (mu : Rm) (x : Int32) (h : ¬ (0 ≤ x ∧ x ≤ mu.1 13 0 - 1)) : CT l yX6_paid (Cond.code yX6_paid cX6_paid 2 (some .int)) 2 43 D Y A [.ref o, .int x] (WR D Y A o al mu) (fun _ : Unit => some (.int 0)) (fun _ : Unit => WR D Y A o al (rI mu 25 0 1)) noX 0 0 := by
  refine CT.of (by decide) (Nat.le_of_ble_eq_true rfl) ?_
  intro p_ e_ s_ m_ below_ meth_ c_ C0 K0 hr hlk htab hnm_
  refine k_aload_n C0 dX6_paid_0 0 rfl ?_
  refine k_iload_n C0 dX6_paid_1 1 rfl ?_
  refine k_callV C0 K0 dX6_paid_2 (ct_isSale0 l D Y A o al mu x h) gkX6_118 hyX6_isSale (fun H hV => r_recv K0 hV) rfl (by exact Nat.le_of_ble_eq_true rfl) ⟨Nat.le_of_ble_eq_true rfl, Nat.le_of_ble_eq_true rfl⟩ ⟨Nat.le_of_ble_eq_true rfl, Nat.le_of_ble_eq_true rfl⟩ (fun E => kX_no E) (fun u => ?_)
  refine k_if_eq C0 20 dX6_paid_5 (by decide) (fun _ => ?_) (fun zz => absurd (by decide) zz)
  refine k_iconst C0 0 dX6_paid_20 (by decide) ?_
  exact k_iret C0 dX6_paid_21 hr hlk (Nat.le_of_ble_eq_true rfl) (Nat.le_of_ble_eq_true rfl) () rfl (fun H h => h)
set_option maxRecDepth 100000 in
set_option maxHeartbeats 4000000 in
theorem ct_tax1 (l : Launch) (D : va_G) (Y : Nat → Nat) (A : Nat → Prop) (o : Nat) (al : Nat → Nat) (mu : Rm) (x : Int32) (h1 : 0 ≤ x) (h2 : x ≤ mu.1 13 0 - 1) (hi : vp_in x 5400) : CT l yX6_tax (Cond.code yX6_tax cX6_tax 2 (some .int)) 2 44 D Y A [.ref o, .int x] (WR D Y A o al mu) (fun _ : Unit => some (.int (r_tax (mu.2 x.toNatClampNeg)))) (fun _ : Unit => WR D Y A o al (rI mu 25 0 0)) noX 0 0 := by
  refine CT.of (by decide) (Nat.le_of_ble_eq_true rfl) ?_
  intro p_ e_ s_ m_ below_ meth_ c_ C0 K0 hr hlk htab hnm_
  refine k_aload_n C0 dX6_tax_0 0 rfl ?_
  refine k_iload_n C0 dX6_tax_1 1 rfl ?_
  refine k_callV C0 K0 dX6_tax_2 (ct_isSale1 l D Y A o al mu x h1 h2) gkX6_118 hyX6_isSale (fun H hV => r_recv K0 hV) rfl (by exact Nat.le_of_ble_eq_true rfl) ⟨Nat.le_of_ble_eq_true rfl, Nat.le_of_ble_eq_true rfl⟩ ⟨Nat.le_of_ble_eq_true rfl, Nat.le_of_ble_eq_true rfl⟩ (fun E => kX_no E) (fun u => ?_)
  refine k_if_eq C0 20 dX6_tax_5 (by decide) (fun zz => absurd zz (by decide)) (fun _ => ?_)
  refine k_aload_n C0 dX6_tax_8 0 rfl ?_
  refine r_get C0 K0 14 dX6_tax_9 (tC 230 rfl rfl) (by decide) rfl rfl ?_
  refine k_iload_n C0 dX6_tax_12 1 rfl ?_
  refine r_lald C0 K0 dX6_tax_13 hi (v := mu.2 x.toNatClampNeg) rfl ?_
  refine k_callS C0 K0 dX6_tax_14 (ct_taxOf l D Y A _ (mu.2 x.toNatClampNeg)) gkX6_89 hyX6_taxOf rfl (by exact Nat.le_of_ble_eq_true rfl) ⟨Nat.le_of_ble_eq_true rfl, Nat.le_of_ble_eq_true rfl⟩ ⟨Nat.le_of_ble_eq_true rfl, Nat.le_of_ble_eq_true rfl⟩ (fun E => kX_no E) (fun u => ?_)
  refine k_goto C0 21 dX6_tax_17 (by decide) ?_
  exact k_iret C0 dX6_tax_21 hr hlk (Nat.le_of_ble_eq_true rfl) (Nat.le_of_ble_eq_true rfl) () rfl (fun H h => h)
set_option maxRecDepth 100000 in
set_option maxHeartbeats 4000000 in
theorem ct_tax0 (l : Launch) (D : va_G) (Y : Nat → Nat) (A : Nat → Prop) (o : Nat) (al : Nat → Nat) (mu : Rm) (x : Int32) (h : ¬ (0 ≤ x ∧ x ≤ mu.1 13 0 - 1)) : CT l yX6_tax (Cond.code yX6_tax cX6_tax 2 (some .int)) 2 43 D Y A [.ref o, .int x] (WR D Y A o al mu) (fun _ : Unit => some (.int 0)) (fun _ : Unit => WR D Y A o al (rI mu 25 0 1)) noX 0 0 := by
  refine CT.of (by decide) (Nat.le_of_ble_eq_true rfl) ?_
  intro p_ e_ s_ m_ below_ meth_ c_ C0 K0 hr hlk htab hnm_
  refine k_aload_n C0 dX6_tax_0 0 rfl ?_
  refine k_iload_n C0 dX6_tax_1 1 rfl ?_
  refine k_callV C0 K0 dX6_tax_2 (ct_isSale0 l D Y A o al mu x h) gkX6_118 hyX6_isSale (fun H hV => r_recv K0 hV) rfl (by exact Nat.le_of_ble_eq_true rfl) ⟨Nat.le_of_ble_eq_true rfl, Nat.le_of_ble_eq_true rfl⟩ ⟨Nat.le_of_ble_eq_true rfl, Nat.le_of_ble_eq_true rfl⟩ (fun E => kX_no E) (fun u => ?_)
  refine k_if_eq C0 20 dX6_tax_5 (by decide) (fun _ => ?_) (fun zz => absurd (by decide) zz)
  refine k_iconst C0 0 dX6_tax_20 (by decide) ?_
  exact k_iret C0 dX6_tax_21 hr hlk (Nat.le_of_ble_eq_true rfl) (Nat.le_of_ble_eq_true rfl) () rfl (fun H h => h)
set_option maxRecDepth 100000 in
set_option maxHeartbeats 4000000 in
theorem ct_shopShare1 (l : Launch) (D : va_G) (Y : Nat → Nat) (A : Nat → Prop) (o : Nat) (al : Nat → Nat) (mu : Rm) (x : Int32) (h1 : 0 ≤ x) (h2 : x ≤ mu.1 13 0 - 1) (hi : vp_in x 5400) : CT l yX6_shopShare (Cond.code yX6_shopShare cX6_shopShare 2 (some .int)) 2 44 D Y A [.ref o, .int x] (WR D Y A o al mu) (fun _ : Unit => some (.int (r_share (mu.2 x.toNatClampNeg)))) (fun _ : Unit => WR D Y A o al (rI mu 25 0 0)) noX 0 0 := by
  refine CT.of (by decide) (Nat.le_of_ble_eq_true rfl) ?_
  intro p_ e_ s_ m_ below_ meth_ c_ C0 K0 hr hlk htab hnm_
  refine k_aload_n C0 dX6_shopShare_0 0 rfl ?_
  refine k_iload_n C0 dX6_shopShare_1 1 rfl ?_
  refine k_callV C0 K0 dX6_shopShare_2 (ct_isSale1 l D Y A o al mu x h1 h2) gkX6_118 hyX6_isSale (fun H hV => r_recv K0 hV) rfl (by exact Nat.le_of_ble_eq_true rfl) ⟨Nat.le_of_ble_eq_true rfl, Nat.le_of_ble_eq_true rfl⟩ ⟨Nat.le_of_ble_eq_true rfl, Nat.le_of_ble_eq_true rfl⟩ (fun E => kX_no E) (fun u => ?_)
  refine k_if_eq C0 20 dX6_shopShare_5 (by decide) (fun zz => absurd zz (by decide)) (fun _ => ?_)
  refine k_aload_n C0 dX6_shopShare_8 0 rfl ?_
  refine r_get C0 K0 14 dX6_shopShare_9 (tC 230 rfl rfl) (by decide) rfl rfl ?_
  refine k_iload_n C0 dX6_shopShare_12 1 rfl ?_
  refine r_lald C0 K0 dX6_shopShare_13 hi (v := mu.2 x.toNatClampNeg) rfl ?_
  refine k_callS C0 K0 dX6_shopShare_14 (ct_shareOf l D Y A _ (mu.2 x.toNatClampNeg)) gkX6_92 hyX6_shareOf rfl (by exact Nat.le_of_ble_eq_true rfl) ⟨Nat.le_of_ble_eq_true rfl, Nat.le_of_ble_eq_true rfl⟩ ⟨Nat.le_of_ble_eq_true rfl, Nat.le_of_ble_eq_true rfl⟩ (fun E => kX_no E) (fun u => ?_)
  refine k_goto C0 21 dX6_shopShare_17 (by decide) ?_
  exact k_iret C0 dX6_shopShare_21 hr hlk (Nat.le_of_ble_eq_true rfl) (Nat.le_of_ble_eq_true rfl) () rfl (fun H h => h)
set_option maxRecDepth 100000 in
set_option maxHeartbeats 4000000 in
theorem ct_shopShare0 (l : Launch) (D : va_G) (Y : Nat → Nat) (A : Nat → Prop) (o : Nat) (al : Nat → Nat) (mu : Rm) (x : Int32) (h : ¬ (0 ≤ x ∧ x ≤ mu.1 13 0 - 1)) : CT l yX6_shopShare (Cond.code yX6_shopShare cX6_shopShare 2 (some .int)) 2 43 D Y A [.ref o, .int x] (WR D Y A o al mu) (fun _ : Unit => some (.int 0)) (fun _ : Unit => WR D Y A o al (rI mu 25 0 1)) noX 0 0 := by
  refine CT.of (by decide) (Nat.le_of_ble_eq_true rfl) ?_
  intro p_ e_ s_ m_ below_ meth_ c_ C0 K0 hr hlk htab hnm_
  refine k_aload_n C0 dX6_shopShare_0 0 rfl ?_
  refine k_iload_n C0 dX6_shopShare_1 1 rfl ?_
  refine k_callV C0 K0 dX6_shopShare_2 (ct_isSale0 l D Y A o al mu x h) gkX6_118 hyX6_isSale (fun H hV => r_recv K0 hV) rfl (by exact Nat.le_of_ble_eq_true rfl) ⟨Nat.le_of_ble_eq_true rfl, Nat.le_of_ble_eq_true rfl⟩ ⟨Nat.le_of_ble_eq_true rfl, Nat.le_of_ble_eq_true rfl⟩ (fun E => kX_no E) (fun u => ?_)
  refine k_if_eq C0 20 dX6_shopShare_5 (by decide) (fun _ => ?_) (fun zz => absurd (by decide) zz)
  refine k_iconst C0 0 dX6_shopShare_20 (by decide) ?_
  exact k_iret C0 dX6_shopShare_21 hr hlk (Nat.le_of_ble_eq_true rfl) (Nat.le_of_ble_eq_true rfl) () rfl (fun H h => h)
set_option maxRecDepth 100000 in
set_option maxHeartbeats 4000000 in
theorem ct_makerPart1 (l : Launch) (D : va_G) (Y : Nat → Nat) (A : Nat → Prop) (o : Nat) (al : Nat → Nat) (mu : Rm) (x : Int32) (h1 : 0 ≤ x) (h2 : x ≤ mu.1 13 0 - 1) (hi : vp_in x 5400) : CT l yX6_makerPart (Cond.code yX6_makerPart cX6_makerPart 2 (some .int)) 3 65 D Y A [.ref o, .int x] (WR D Y A o al mu) (fun _ : Unit => some (.int (r_pof (mu.2 x.toNatClampNeg)))) (fun _ : Unit => WR D Y A o al (rI mu 25 0 0)) noX 0 0 := by
  refine CT.of (by decide) (Nat.le_of_ble_eq_true rfl) ?_
  intro p_ e_ s_ m_ below_ meth_ c_ C0 K0 hr hlk htab hnm_
  refine k_aload_n C0 dX6_makerPart_0 0 rfl ?_
  refine k_iload_n C0 dX6_makerPart_1 1 rfl ?_
  refine k_callV C0 K0 dX6_makerPart_2 (ct_isSale1 l D Y A o al mu x h1 h2) gkX6_118 hyX6_isSale (fun H hV => r_recv K0 hV) rfl (by exact Nat.le_of_ble_eq_true rfl) ⟨Nat.le_of_ble_eq_true rfl, Nat.le_of_ble_eq_true rfl⟩ ⟨Nat.le_of_ble_eq_true rfl, Nat.le_of_ble_eq_true rfl⟩ (fun E => kX_no E) (fun u => ?_)
  refine k_if_eq C0 20 dX6_makerPart_5 (by decide) (fun zz => absurd zz (by decide)) (fun _ => ?_)
  refine k_aload_n C0 dX6_makerPart_8 0 rfl ?_
  refine r_get C0 K0 14 dX6_makerPart_9 (tC 230 rfl rfl) (by decide) rfl rfl ?_
  refine k_iload_n C0 dX6_makerPart_12 1 rfl ?_
  refine r_lald C0 K0 dX6_makerPart_13 hi (v := mu.2 x.toNatClampNeg) rfl ?_
  refine k_callS C0 K0 dX6_makerPart_14 (ct_partOf l D Y A _ (mu.2 x.toNatClampNeg)) gkX6_95 hyX6_partOf rfl (by exact Nat.le_of_ble_eq_true rfl) ⟨Nat.le_of_ble_eq_true rfl, Nat.le_of_ble_eq_true rfl⟩ ⟨Nat.le_of_ble_eq_true rfl, Nat.le_of_ble_eq_true rfl⟩ (fun E => kX_no E) (fun u => ?_)
  refine k_goto C0 21 dX6_makerPart_17 (by decide) ?_
  exact k_iret C0 dX6_makerPart_21 hr hlk (Nat.le_of_ble_eq_true rfl) (Nat.le_of_ble_eq_true rfl) () rfl (fun H h => h)
set_option maxRecDepth 100000 in
set_option maxHeartbeats 4000000 in
theorem ct_makerPart0 (l : Launch) (D : va_G) (Y : Nat → Nat) (A : Nat → Prop) (o : Nat) (al : Nat → Nat) (mu : Rm) (x : Int32) (h : ¬ (0 ≤ x ∧ x ≤ mu.1 13 0 - 1)) : CT l yX6_makerPart (Cond.code yX6_makerPart cX6_makerPart 2 (some .int)) 2 43 D Y A [.ref o, .int x] (WR D Y A o al mu) (fun _ : Unit => some (.int 0)) (fun _ : Unit => WR D Y A o al (rI mu 25 0 1)) noX 0 0 := by
  refine CT.of (by decide) (Nat.le_of_ble_eq_true rfl) ?_
  intro p_ e_ s_ m_ below_ meth_ c_ C0 K0 hr hlk htab hnm_
  refine k_aload_n C0 dX6_makerPart_0 0 rfl ?_
  refine k_iload_n C0 dX6_makerPart_1 1 rfl ?_
  refine k_callV C0 K0 dX6_makerPart_2 (ct_isSale0 l D Y A o al mu x h) gkX6_118 hyX6_isSale (fun H hV => r_recv K0 hV) rfl (by exact Nat.le_of_ble_eq_true rfl) ⟨Nat.le_of_ble_eq_true rfl, Nat.le_of_ble_eq_true rfl⟩ ⟨Nat.le_of_ble_eq_true rfl, Nat.le_of_ble_eq_true rfl⟩ (fun E => kX_no E) (fun u => ?_)
  refine k_if_eq C0 20 dX6_makerPart_5 (by decide) (fun _ => ?_) (fun zz => absurd (by decide) zz)
  refine k_iconst C0 0 dX6_makerPart_20 (by decide) ?_
  exact k_iret C0 dX6_makerPart_21 hr hlk (Nat.le_of_ble_eq_true rfl) (Nat.le_of_ble_eq_true rfl) () rfl (fun H h => h)
set_option maxRecDepth 100000 in
set_option maxHeartbeats 4000000 in
theorem ct_payments1 (l : Launch) (D : va_G) (Y : Nat → Nat) (A : Nat → Prop) (o : Nat) (al : Nat → Nat) (mu : Rm) (x : Int32) (h1 : 0 ≤ x) (h2 : x ≤ mu.1 15 0 - 1) (hi : vp_in x (rLen 20)) : CT l yX6_payments (Cond.code yX6_payments cX6_payments 2 (some .int)) 2 43 D Y A [.ref o, .int x] (WR D Y A o al mu) (fun _ : Unit => some (.int (mu.1 20 x.toNatClampNeg))) (fun _ : Unit => WR D Y A o al (rI mu 25 0 0)) noX 0 0 := by
  refine CT.of (by decide) (Nat.le_of_ble_eq_true rfl) ?_
  intro p_ e_ s_ m_ below_ meth_ c_ C0 K0 hr hlk htab hnm_
  refine k_aload_n C0 dX6_payments_0 0 rfl ?_
  refine k_iload_n C0 dX6_payments_1 1 rfl ?_
  refine k_callV C0 K0 dX6_payments_2 (ct_isPlan1 l D Y A o al mu x h1 h2) gkX6_131 hyX6_isPlan (fun H hV => r_recv K0 hV) rfl (by exact Nat.le_of_ble_eq_true rfl) ⟨Nat.le_of_ble_eq_true rfl, Nat.le_of_ble_eq_true rfl⟩ ⟨Nat.le_of_ble_eq_true rfl, Nat.le_of_ble_eq_true rfl⟩ (fun E => kX_no E) (fun u => ?_)
  refine k_if_eq C0 17 dX6_payments_5 (by decide) (fun zz => absurd zz (by decide)) (fun _ => ?_)
  refine k_aload_n C0 dX6_payments_8 0 rfl ?_
  refine r_get C0 K0 20 dX6_payments_9 (tC 236 rfl rfl) (by decide) rfl rfl ?_
  refine k_iload_n C0 dX6_payments_12 1 rfl ?_
  refine r_iald C0 K0 20 dX6_payments_13 (by decide) hi (v := mu.1 20 x.toNatClampNeg) (rI_tr (by decide) rfl) ?_
  refine k_goto C0 18 dX6_payments_14 (by decide) ?_
  exact k_iret C0 dX6_payments_18 hr hlk (Nat.le_of_ble_eq_true rfl) (Nat.le_of_ble_eq_true rfl) () rfl (fun H h => h)
set_option maxRecDepth 100000 in
set_option maxHeartbeats 4000000 in
theorem ct_payments0 (l : Launch) (D : va_G) (Y : Nat → Nat) (A : Nat → Prop) (o : Nat) (al : Nat → Nat) (mu : Rm) (x : Int32) (h : ¬ (0 ≤ x ∧ x ≤ mu.1 15 0 - 1)) : CT l yX6_payments (Cond.code yX6_payments cX6_payments 2 (some .int)) 2 43 D Y A [.ref o, .int x] (WR D Y A o al mu) (fun _ : Unit => some (.int 0)) (fun _ : Unit => WR D Y A o al (rI mu 25 0 1)) noX 0 0 := by
  refine CT.of (by decide) (Nat.le_of_ble_eq_true rfl) ?_
  intro p_ e_ s_ m_ below_ meth_ c_ C0 K0 hr hlk htab hnm_
  refine k_aload_n C0 dX6_payments_0 0 rfl ?_
  refine k_iload_n C0 dX6_payments_1 1 rfl ?_
  refine k_callV C0 K0 dX6_payments_2 (ct_isPlan0 l D Y A o al mu x h) gkX6_131 hyX6_isPlan (fun H hV => r_recv K0 hV) rfl (by exact Nat.le_of_ble_eq_true rfl) ⟨Nat.le_of_ble_eq_true rfl, Nat.le_of_ble_eq_true rfl⟩ ⟨Nat.le_of_ble_eq_true rfl, Nat.le_of_ble_eq_true rfl⟩ (fun E => kX_no E) (fun u => ?_)
  refine k_if_eq C0 17 dX6_payments_5 (by decide) (fun _ => ?_) (fun zz => absurd (by decide) zz)
  refine k_iconst C0 0 dX6_payments_17 (by decide) ?_
  exact k_iret C0 dX6_payments_18 hr hlk (Nat.le_of_ble_eq_true rfl) (Nat.le_of_ble_eq_true rfl) () rfl (fun H h => h)
set_option maxRecDepth 100000 in
set_option maxHeartbeats 4000000 in
theorem ct_next1 (l : Launch) (D : va_G) (Y : Nat → Nat) (A : Nat → Prop) (o : Nat) (al : Nat → Nat) (mu : Rm) (x : Int32) (h1 : 0 ≤ x) (h2 : x ≤ mu.1 15 0 - 1) (hi : vp_in x (rLen 18)) : CT l yX6_next (Cond.code yX6_next cX6_next 2 (some .int)) 2 43 D Y A [.ref o, .int x] (WR D Y A o al mu) (fun _ : Unit => some (.int (mu.1 18 x.toNatClampNeg))) (fun _ : Unit => WR D Y A o al (rI mu 25 0 0)) noX 0 0 := by
  refine CT.of (by decide) (Nat.le_of_ble_eq_true rfl) ?_
  intro p_ e_ s_ m_ below_ meth_ c_ C0 K0 hr hlk htab hnm_
  refine k_aload_n C0 dX6_next_0 0 rfl ?_
  refine k_iload_n C0 dX6_next_1 1 rfl ?_
  refine k_callV C0 K0 dX6_next_2 (ct_isPlan1 l D Y A o al mu x h1 h2) gkX6_131 hyX6_isPlan (fun H hV => r_recv K0 hV) rfl (by exact Nat.le_of_ble_eq_true rfl) ⟨Nat.le_of_ble_eq_true rfl, Nat.le_of_ble_eq_true rfl⟩ ⟨Nat.le_of_ble_eq_true rfl, Nat.le_of_ble_eq_true rfl⟩ (fun E => kX_no E) (fun u => ?_)
  refine k_if_eq C0 17 dX6_next_5 (by decide) (fun zz => absurd zz (by decide)) (fun _ => ?_)
  refine k_aload_n C0 dX6_next_8 0 rfl ?_
  refine r_get C0 K0 18 dX6_next_9 (tC 234 rfl rfl) (by decide) rfl rfl ?_
  refine k_iload_n C0 dX6_next_12 1 rfl ?_
  refine r_iald C0 K0 18 dX6_next_13 (by decide) hi (v := mu.1 18 x.toNatClampNeg) (rI_tr (by decide) rfl) ?_
  refine k_goto C0 18 dX6_next_14 (by decide) ?_
  exact k_iret C0 dX6_next_18 hr hlk (Nat.le_of_ble_eq_true rfl) (Nat.le_of_ble_eq_true rfl) () rfl (fun H h => h)
set_option maxRecDepth 100000 in
set_option maxHeartbeats 4000000 in
theorem ct_next0 (l : Launch) (D : va_G) (Y : Nat → Nat) (A : Nat → Prop) (o : Nat) (al : Nat → Nat) (mu : Rm) (x : Int32) (h : ¬ (0 ≤ x ∧ x ≤ mu.1 15 0 - 1)) : CT l yX6_next (Cond.code yX6_next cX6_next 2 (some .int)) 2 43 D Y A [.ref o, .int x] (WR D Y A o al mu) (fun _ : Unit => some (.int 0)) (fun _ : Unit => WR D Y A o al (rI mu 25 0 1)) noX 0 0 := by
  refine CT.of (by decide) (Nat.le_of_ble_eq_true rfl) ?_
  intro p_ e_ s_ m_ below_ meth_ c_ C0 K0 hr hlk htab hnm_
  refine k_aload_n C0 dX6_next_0 0 rfl ?_
  refine k_iload_n C0 dX6_next_1 1 rfl ?_
  refine k_callV C0 K0 dX6_next_2 (ct_isPlan0 l D Y A o al mu x h) gkX6_131 hyX6_isPlan (fun H hV => r_recv K0 hV) rfl (by exact Nat.le_of_ble_eq_true rfl) ⟨Nat.le_of_ble_eq_true rfl, Nat.le_of_ble_eq_true rfl⟩ ⟨Nat.le_of_ble_eq_true rfl, Nat.le_of_ble_eq_true rfl⟩ (fun E => kX_no E) (fun u => ?_)
  refine k_if_eq C0 17 dX6_next_5 (by decide) (fun _ => ?_) (fun zz => absurd (by decide) zz)
  refine k_iconst C0 0 dX6_next_17 (by decide) ?_
  exact k_iret C0 dX6_next_18 hr hlk (Nat.le_of_ble_eq_true rfl) (Nat.le_of_ble_eq_true rfl) () rfl (fun H h => h)
set_option maxRecDepth 100000 in
set_option maxHeartbeats 4000000 in
theorem ct_carried1 (l : Launch) (D : va_G) (Y : Nat → Nat) (A : Nat → Prop) (o : Nat) (al : Nat → Nat) (mu : Rm) (x : Int32) (h1 : 0 ≤ x) (h2 : x ≤ mu.1 4 0 - 1) (hi : vp_in x (rLen 8)) : CT l yX6_carried (Cond.code yX6_carried cX6_carried 2 (some .int)) 2 43 D Y A [.ref o, .int x] (WR D Y A o al mu) (fun _ : Unit => some (.int (mu.1 8 x.toNatClampNeg))) (fun _ : Unit => WR D Y A o al (rI mu 25 0 0)) noX 0 0 := by
  refine CT.of (by decide) (Nat.le_of_ble_eq_true rfl) ?_
  intro p_ e_ s_ m_ below_ meth_ c_ C0 K0 hr hlk htab hnm_
  refine k_aload_n C0 dX6_carried_0 0 rfl ?_
  refine k_iload_n C0 dX6_carried_1 1 rfl ?_
  refine k_callV C0 K0 dX6_carried_2 (ct_isMaker1 l D Y A o al mu x h1 h2) gkX6_134 hyX6_isMaker (fun H hV => r_recv K0 hV) rfl (by exact Nat.le_of_ble_eq_true rfl) ⟨Nat.le_of_ble_eq_true rfl, Nat.le_of_ble_eq_true rfl⟩ ⟨Nat.le_of_ble_eq_true rfl, Nat.le_of_ble_eq_true rfl⟩ (fun E => kX_no E) (fun u => ?_)
  refine k_if_eq C0 17 dX6_carried_5 (by decide) (fun zz => absurd zz (by decide)) (fun _ => ?_)
  refine k_aload_n C0 dX6_carried_8 0 rfl ?_
  refine r_get C0 K0 8 dX6_carried_9 (tC 224 rfl rfl) (by decide) rfl rfl ?_
  refine k_iload_n C0 dX6_carried_12 1 rfl ?_
  refine r_iald C0 K0 8 dX6_carried_13 (by decide) hi (v := mu.1 8 x.toNatClampNeg) (rI_tr (by decide) rfl) ?_
  refine k_goto C0 18 dX6_carried_14 (by decide) ?_
  exact k_iret C0 dX6_carried_18 hr hlk (Nat.le_of_ble_eq_true rfl) (Nat.le_of_ble_eq_true rfl) () rfl (fun H h => h)
set_option maxRecDepth 100000 in
set_option maxHeartbeats 4000000 in
theorem ct_carried0 (l : Launch) (D : va_G) (Y : Nat → Nat) (A : Nat → Prop) (o : Nat) (al : Nat → Nat) (mu : Rm) (x : Int32) (h : ¬ (0 ≤ x ∧ x ≤ mu.1 4 0 - 1)) : CT l yX6_carried (Cond.code yX6_carried cX6_carried 2 (some .int)) 2 43 D Y A [.ref o, .int x] (WR D Y A o al mu) (fun _ : Unit => some (.int 0)) (fun _ : Unit => WR D Y A o al (rI mu 25 0 1)) noX 0 0 := by
  refine CT.of (by decide) (Nat.le_of_ble_eq_true rfl) ?_
  intro p_ e_ s_ m_ below_ meth_ c_ C0 K0 hr hlk htab hnm_
  refine k_aload_n C0 dX6_carried_0 0 rfl ?_
  refine k_iload_n C0 dX6_carried_1 1 rfl ?_
  refine k_callV C0 K0 dX6_carried_2 (ct_isMaker0 l D Y A o al mu x h) gkX6_134 hyX6_isMaker (fun H hV => r_recv K0 hV) rfl (by exact Nat.le_of_ble_eq_true rfl) ⟨Nat.le_of_ble_eq_true rfl, Nat.le_of_ble_eq_true rfl⟩ ⟨Nat.le_of_ble_eq_true rfl, Nat.le_of_ble_eq_true rfl⟩ (fun E => kX_no E) (fun u => ?_)
  refine k_if_eq C0 17 dX6_carried_5 (by decide) (fun _ => ?_) (fun zz => absurd (by decide) zz)
  refine k_iconst C0 0 dX6_carried_17 (by decide) ?_
  exact k_iret C0 dX6_carried_18 hr hlk (Nat.le_of_ble_eq_true rfl) (Nat.le_of_ble_eq_true rfl) () rfl (fun H h => h)
set_option maxRecDepth 100000 in
set_option maxHeartbeats 4000000 in
theorem ct_balance1 (l : Launch) (D : va_G) (Y : Nat → Nat) (A : Nat → Prop) (o : Nat) (al : Nat → Nat) (mu : Rm) (x : Int32) (h1 : 0 ≤ x) (h2 : x ≤ mu.1 4 0 - 1) (hi : vp_in x 6) : CT l yX6_balance (Cond.code yX6_balance cX6_balance 2 (some .int)) 2 43 D Y A [.ref o, .int x] (WR D Y A o al mu) (fun _ : Unit => some (.int ((mu.1 8 x.toNatClampNeg) + (mu.1 7 x.toNatClampNeg)))) (fun _ : Unit => WR D Y A o al (rI mu 25 0 0)) noX 0 0 := by
  refine CT.of (by decide) (Nat.le_of_ble_eq_true rfl) ?_
  intro p_ e_ s_ m_ below_ meth_ c_ C0 K0 hr hlk htab hnm_
  refine k_aload_n C0 dX6_balance_0 0 rfl ?_
  refine k_iload_n C0 dX6_balance_1 1 rfl ?_
  refine k_callV C0 K0 dX6_balance_2 (ct_isMaker1 l D Y A o al mu x h1 h2) gkX6_134 hyX6_isMaker (fun H hV => r_recv K0 hV) rfl (by exact Nat.le_of_ble_eq_true rfl) ⟨Nat.le_of_ble_eq_true rfl, Nat.le_of_ble_eq_true rfl⟩ ⟨Nat.le_of_ble_eq_true rfl, Nat.le_of_ble_eq_true rfl⟩ (fun E => kX_no E) (fun u => ?_)
  refine k_if_eq C0 24 dX6_balance_5 (by decide) (fun zz => absurd zz (by decide)) (fun _ => ?_)
  refine k_aload_n C0 dX6_balance_8 0 rfl ?_
  refine r_get C0 K0 8 dX6_balance_9 (tC 224 rfl rfl) (by decide) rfl rfl ?_
  refine k_iload_n C0 dX6_balance_12 1 rfl ?_
  refine r_iald C0 K0 8 dX6_balance_13 (by decide) hi (v := mu.1 8 x.toNatClampNeg) (rI_tr (by decide) rfl) ?_
  refine k_aload_n C0 dX6_balance_14 0 rfl ?_
  refine r_get C0 K0 7 dX6_balance_15 (tC 223 rfl rfl) (by decide) rfl rfl ?_
  refine k_iload_n C0 dX6_balance_18 1 rfl ?_
  refine r_iald C0 K0 7 dX6_balance_19 (by decide) hi (v := mu.1 7 x.toNatClampNeg) (rI_tr (by decide) rfl) ?_
  refine k_iadd C0 dX6_balance_20 ?_
  refine k_goto C0 25 dX6_balance_21 (by decide) ?_
  exact k_iret C0 dX6_balance_25 hr hlk (Nat.le_of_ble_eq_true rfl) (Nat.le_of_ble_eq_true rfl) () rfl (fun H h => h)
set_option maxRecDepth 100000 in
set_option maxHeartbeats 4000000 in
theorem ct_balance0 (l : Launch) (D : va_G) (Y : Nat → Nat) (A : Nat → Prop) (o : Nat) (al : Nat → Nat) (mu : Rm) (x : Int32) (h : ¬ (0 ≤ x ∧ x ≤ mu.1 4 0 - 1)) : CT l yX6_balance (Cond.code yX6_balance cX6_balance 2 (some .int)) 2 43 D Y A [.ref o, .int x] (WR D Y A o al mu) (fun _ : Unit => some (.int 0)) (fun _ : Unit => WR D Y A o al (rI mu 25 0 1)) noX 0 0 := by
  refine CT.of (by decide) (Nat.le_of_ble_eq_true rfl) ?_
  intro p_ e_ s_ m_ below_ meth_ c_ C0 K0 hr hlk htab hnm_
  refine k_aload_n C0 dX6_balance_0 0 rfl ?_
  refine k_iload_n C0 dX6_balance_1 1 rfl ?_
  refine k_callV C0 K0 dX6_balance_2 (ct_isMaker0 l D Y A o al mu x h) gkX6_134 hyX6_isMaker (fun H hV => r_recv K0 hV) rfl (by exact Nat.le_of_ble_eq_true rfl) ⟨Nat.le_of_ble_eq_true rfl, Nat.le_of_ble_eq_true rfl⟩ ⟨Nat.le_of_ble_eq_true rfl, Nat.le_of_ble_eq_true rfl⟩ (fun E => kX_no E) (fun u => ?_)
  refine k_if_eq C0 24 dX6_balance_5 (by decide) (fun _ => ?_) (fun zz => absurd (by decide) zz)
  refine k_iconst C0 0 dX6_balance_24 (by decide) ?_
  exact k_iret C0 dX6_balance_25 hr hlk (Nat.le_of_ble_eq_true rfl) (Nat.le_of_ble_eq_true rfl) () rfl (fun H h => h)
set_option maxRecDepth 100000 in
set_option maxHeartbeats 4000000 in
theorem ct_heldTax1 (l : Launch) (D : va_G) (Y : Nat → Nat) (A : Nat → Prop) (o : Nat) (al : Nat → Nat) (mu : Rm) (x : Int32) (h1 : 0 ≤ x) (h2 : x ≤ 4) (hi : vp_in x 5) : CT l yX6_heldTax (Cond.code yX6_heldTax cX6_heldTax 2 (some .int)) 1 22 D Y A [.ref o, .int x] (WR D Y A o al mu) (fun _ : Unit => some (.int (mu.1 3 x.toNatClampNeg))) (fun _ : Unit => WR D Y A o al (rI mu 25 0 0)) noX 0 0 := by
  refine CT.of (by decide) (Nat.le_of_ble_eq_true rfl) ?_
  intro p_ e_ s_ m_ below_ meth_ c_ C0 K0 hr hlk htab hnm_
  refine k_aload_n C0 dX6_heldTax_0 0 rfl ?_
  refine k_iload_n C0 dX6_heldTax_1 1 rfl ?_
  refine k_iconst C0 0 dX6_heldTax_2 (by decide) ?_
  refine k_iconst C0 4 dX6_heldTax_3 (by decide) ?_
  refine k_callS C0 K0 dX6_heldTax_4 (ct_in1 l D Y A _ x (0 : Int32) (4 : Int32) h1 h2) gkX6_69 hyX6_in rfl (by exact Nat.le_of_ble_eq_true rfl) ⟨Nat.le_of_ble_eq_true rfl, Nat.le_of_ble_eq_true rfl⟩ ⟨Nat.le_of_ble_eq_true rfl, Nat.le_of_ble_eq_true rfl⟩ (fun E => kX_no E) (fun u => ?_)
  refine k_if_eq C0 14 dX6_heldTax_7 (by decide) (fun zz => absurd zz (by decide)) (fun _ => ?_)
  refine k_iconst C0 0 dX6_heldTax_10 (by decide) ?_
  refine k_goto C0 15 dX6_heldTax_11 (by decide) ?_
  refine r_putS C0 K0 25 dX6_heldTax_15 (tD 1 rfl rfl) (by decide) rfl rfl (by decide +kernel) (rs_25 al _ _) (by decide) ?_
  refine k_aload_n C0 dX6_heldTax_18 0 rfl ?_
  refine r_getI C0 K0 25 0 dX6_heldTax_19 (tD 1 rfl rfl) (by decide) rfl (rg_25 al _) rI_at ?_
  refine k_if_ne C0 34 dX6_heldTax_22 (by decide) (fun zz => absurd (by decide) zz) (fun _ => ?_)
  refine k_aload_n C0 dX6_heldTax_25 0 rfl ?_
  refine r_get C0 K0 3 dX6_heldTax_26 (tC 219 rfl rfl) (by decide) rfl rfl ?_
  refine k_iload_n C0 dX6_heldTax_29 1 rfl ?_
  refine r_iald C0 K0 3 dX6_heldTax_30 (by decide) hi (v := mu.1 3 x.toNatClampNeg) (rI_tr (by decide) rfl) ?_
  refine k_goto C0 35 dX6_heldTax_31 (by decide) ?_
  exact k_iret C0 dX6_heldTax_35 hr hlk (Nat.le_of_ble_eq_true rfl) (Nat.le_of_ble_eq_true rfl) () rfl (fun H h => h)
set_option maxRecDepth 100000 in
set_option maxHeartbeats 4000000 in
theorem ct_heldTax0 (l : Launch) (D : va_G) (Y : Nat → Nat) (A : Nat → Prop) (o : Nat) (al : Nat → Nat) (mu : Rm) (x : Int32) (h : ¬ (0 ≤ x ∧ x ≤ 4)) : CT l yX6_heldTax (Cond.code yX6_heldTax cX6_heldTax 2 (some .int)) 1 22 D Y A [.ref o, .int x] (WR D Y A o al mu) (fun _ : Unit => some (.int 0)) (fun _ : Unit => WR D Y A o al (rI mu 25 0 1)) noX 0 0 := by
  refine CT.of (by decide) (Nat.le_of_ble_eq_true rfl) ?_
  intro p_ e_ s_ m_ below_ meth_ c_ C0 K0 hr hlk htab hnm_
  refine k_aload_n C0 dX6_heldTax_0 0 rfl ?_
  refine k_iload_n C0 dX6_heldTax_1 1 rfl ?_
  refine k_iconst C0 0 dX6_heldTax_2 (by decide) ?_
  refine k_iconst C0 4 dX6_heldTax_3 (by decide) ?_
  refine k_callS C0 K0 dX6_heldTax_4 (ct_in0 l D Y A _ x (0 : Int32) (4 : Int32) h) gkX6_69 hyX6_in rfl (by exact Nat.le_of_ble_eq_true rfl) ⟨Nat.le_of_ble_eq_true rfl, Nat.le_of_ble_eq_true rfl⟩ ⟨Nat.le_of_ble_eq_true rfl, Nat.le_of_ble_eq_true rfl⟩ (fun E => kX_no E) (fun u => ?_)
  refine k_if_eq C0 14 dX6_heldTax_7 (by decide) (fun _ => ?_) (fun zz => absurd (by decide) zz)
  refine k_iconst C0 1 dX6_heldTax_14 (by decide) ?_
  refine r_putS C0 K0 25 dX6_heldTax_15 (tD 1 rfl rfl) (by decide) rfl rfl (by decide +kernel) (rs_25 al _ _) (by decide) ?_
  refine k_aload_n C0 dX6_heldTax_18 0 rfl ?_
  refine r_getI C0 K0 25 1 dX6_heldTax_19 (tD 1 rfl rfl) (by decide) rfl (rg_25 al _) rI_at ?_
  refine k_if_ne C0 34 dX6_heldTax_22 (by decide) (fun _ => ?_) (fun zz => absurd zz (by decide))
  refine k_iconst C0 0 dX6_heldTax_34 (by decide) ?_
  exact k_iret C0 dX6_heldTax_35 hr hlk (Nat.le_of_ble_eq_true rfl) (Nat.le_of_ble_eq_true rfl) () rfl (fun H h => h)
set_option maxRecDepth 100000 in
set_option maxHeartbeats 4000000 in
theorem ct_setTax_ok (l : Launch) (D : va_G) (Y : Nat → Nat) (A : Nat → Prop) (o : Nat) (al : Nat → Nat) (mu : Rm) (a b h : Int32) (a1 : 0 ≤ a) (a2 : a ≤ 4) (b1 : 0 ≤ b) (b2 : b ≤ 30) (hi : vp_in a 5) : CT l yX6_setTax (Cond.code yX6_setTax cX6_setTax 5 (some .int)) 1 22 D Y A [.ref o, .int a, .int b, .int h] (WR D Y A o al mu) (fun _ : Unit => some (.int (mu.1 1 a.toNatClampNeg))) (fun _ : Unit => WR D Y A o al (rI (rI (rI mu 25 0 0) 1 a.toNatClampNeg b) 2 a.toNatClampNeg (if h = 0 then 1 else 0))) noX 0 0 := by
  refine CT.of (by decide) (Nat.le_of_ble_eq_true rfl) ?_
  intro p_ e_ s_ m_ below_ meth_ c_ C0 K0 hr hlk htab hnm_
  refine k_aload_n C0 dX6_setTax_0 0 rfl ?_
  refine k_iload_n C0 dX6_setTax_1 1 rfl ?_
  refine k_iconst C0 0 dX6_setTax_2 (by decide) ?_
  refine k_iconst C0 4 dX6_setTax_3 (by decide) ?_
  refine k_callS C0 K0 dX6_setTax_4 (ct_in1 l D Y A _ a (0 : Int32) (4 : Int32) a1 a2) gkX6_69 hyX6_in rfl (by exact Nat.le_of_ble_eq_true rfl) ⟨Nat.le_of_ble_eq_true rfl, Nat.le_of_ble_eq_true rfl⟩ ⟨Nat.le_of_ble_eq_true rfl, Nat.le_of_ble_eq_true rfl⟩ (fun E => kX_no E) (fun u => ?_)
  refine k_if_eq C0 24 dX6_setTax_7 (by decide) (fun zz => absurd zz (by decide)) (fun _ => ?_)
  refine k_iload_n C0 dX6_setTax_10 2 rfl ?_
  refine k_iconst C0 0 dX6_setTax_11 (by decide) ?_
  refine k_bipush C0 30 dX6_setTax_12 (by decide) ?_
  refine k_callS C0 K0 dX6_setTax_14 (ct_in1 l D Y A _ b (0 : Int32) (30 : Int32) b1 b2) gkX6_69 hyX6_in rfl (by exact Nat.le_of_ble_eq_true rfl) ⟨Nat.le_of_ble_eq_true rfl, Nat.le_of_ble_eq_true rfl⟩ ⟨Nat.le_of_ble_eq_true rfl, Nat.le_of_ble_eq_true rfl⟩ (fun E => kX_no E) (fun u => ?_)
  refine k_if_eq C0 24 dX6_setTax_17 (by decide) (fun zz => absurd zz (by decide)) (fun _ => ?_)
  refine k_iconst C0 0 dX6_setTax_20 (by decide) ?_
  refine k_goto C0 25 dX6_setTax_21 (by decide) ?_
  refine r_putS C0 K0 25 dX6_setTax_25 (tD 1 rfl rfl) (by decide) rfl rfl (by decide +kernel) (rs_25 al _ _) (by decide) ?_
  refine k_aload_n C0 dX6_setTax_28 0 rfl ?_
  refine r_getI C0 K0 25 0 dX6_setTax_29 (tD 1 rfl rfl) (by decide) rfl (rg_25 al _) rI_at ?_
  refine k_if_le C0 37 dX6_setTax_32 (by decide) (fun _ => ?_) (fun zz => absurd (by decide) zz)
  refine k_aload_n C0 dX6_setTax_37 0 rfl ?_
  refine r_get C0 K0 1 dX6_setTax_38 (tC 217 rfl rfl) (by decide) rfl rfl ?_
  refine k_iload_n C0 dX6_setTax_41 1 rfl ?_
  refine r_iald C0 K0 1 dX6_setTax_42 (by decide) hi (v := mu.1 1 a.toNatClampNeg) (rI_tr (by decide) rfl) ?_
  refine k_istore C0 [(4, _), (0, _), (1, _), (2, _), (3, _)] dX6_setTax_43 (by decide) rfl ?_
  refine k_aload_n C0 dX6_setTax_45 1 rfl ?_
  refine r_get C0 K0 1 dX6_setTax_46 (tC 217 rfl rfl) (by decide) rfl rfl ?_
  refine k_iload_n C0 dX6_setTax_49 2 rfl ?_
  refine k_iload_n C0 dX6_setTax_50 3 rfl ?_
  refine r_iast C0 K0 1 dX6_setTax_51 (by decide) hi ?_
  refine k_aload_n C0 dX6_setTax_52 1 rfl ?_
  refine r_get C0 K0 2 dX6_setTax_53 (tC 218 rfl rfl) (by decide) rfl rfl ?_
  refine k_iload_n C0 dX6_setTax_56 2 rfl ?_
  refine k_iload_n C0 dX6_setTax_57 4 rfl ?_
  refine k_if_eq C0 65 dX6_setTax_58 (by decide) (fun h58 => ?_) (fun h58 => ?_)
  ·
    refine k_iconst C0 1 dX6_setTax_65 (by decide) ?_
    refine r_iast C0 K0 2 dX6_setTax_66 (by decide) hi ?_
    refine k_iload C0 dX6_setTax_67 0 rfl ?_
    exact k_iret C0 dX6_setTax_69 hr hlk (Nat.le_of_ble_eq_true rfl) (Nat.le_of_ble_eq_true rfl) () rfl (by first | (rw [if_pos h58]; exact fun H h => h) | (rw [if_neg h58]; exact fun H h => h))
  ·
    refine k_iconst C0 0 dX6_setTax_61 (by decide) ?_
    refine k_goto C0 66 dX6_setTax_62 (by decide) ?_
    refine r_iast C0 K0 2 dX6_setTax_66 (by decide) hi ?_
    refine k_iload C0 dX6_setTax_67 0 rfl ?_
    exact k_iret C0 dX6_setTax_69 hr hlk (Nat.le_of_ble_eq_true rfl) (Nat.le_of_ble_eq_true rfl) () rfl (by first | (rw [if_pos h58]; exact fun H h => h) | (rw [if_neg h58]; exact fun H h => h))
set_option maxRecDepth 100000 in
set_option maxHeartbeats 4000000 in
theorem ct_setTax_1a (l : Launch) (D : va_G) (Y : Nat → Nat) (A : Nat → Prop) (o : Nat) (al : Nat → Nat) (mu : Rm) (a b h : Int32) (a1 : ¬ (0 ≤ a ∧ a ≤ 4)) : CT l yX6_setTax (Cond.code yX6_setTax cX6_setTax 5 (some .int)) 1 22 D Y A [.ref o, .int a, .int b, .int h] (WR D Y A o al mu) (fun _ : Unit => some (.int 0)) (fun _ : Unit => WR D Y A o al (rI mu 25 0 1)) noX 0 0 := by
  refine CT.of (by decide) (Nat.le_of_ble_eq_true rfl) ?_
  intro p_ e_ s_ m_ below_ meth_ c_ C0 K0 hr hlk htab hnm_
  refine k_aload_n C0 dX6_setTax_0 0 rfl ?_
  refine k_iload_n C0 dX6_setTax_1 1 rfl ?_
  refine k_iconst C0 0 dX6_setTax_2 (by decide) ?_
  refine k_iconst C0 4 dX6_setTax_3 (by decide) ?_
  refine k_callS C0 K0 dX6_setTax_4 (ct_in0 l D Y A _ a (0 : Int32) (4 : Int32) a1) gkX6_69 hyX6_in rfl (by exact Nat.le_of_ble_eq_true rfl) ⟨Nat.le_of_ble_eq_true rfl, Nat.le_of_ble_eq_true rfl⟩ ⟨Nat.le_of_ble_eq_true rfl, Nat.le_of_ble_eq_true rfl⟩ (fun E => kX_no E) (fun u => ?_)
  refine k_if_eq C0 24 dX6_setTax_7 (by decide) (fun _ => ?_) (fun zz => absurd (by decide) zz)
  refine k_iconst C0 1 dX6_setTax_24 (by decide) ?_
  refine r_putS C0 K0 25 dX6_setTax_25 (tD 1 rfl rfl) (by decide) rfl rfl (by decide +kernel) (rs_25 al _ _) (by decide) ?_
  refine k_aload_n C0 dX6_setTax_28 0 rfl ?_
  refine r_getI C0 K0 25 1 dX6_setTax_29 (tD 1 rfl rfl) (by decide) rfl (rg_25 al _) rI_at ?_
  refine k_if_le C0 37 dX6_setTax_32 (by decide) (fun zz => absurd zz (by decide)) (fun _ => ?_)
  refine k_iconst C0 0 dX6_setTax_35 (by decide) ?_
  exact k_iret C0 dX6_setTax_36 hr hlk (Nat.le_of_ble_eq_true rfl) (Nat.le_of_ble_eq_true rfl) () rfl (fun H h => h)
set_option maxRecDepth 100000 in
set_option maxHeartbeats 4000000 in
theorem ct_setTax_1b (l : Launch) (D : va_G) (Y : Nat → Nat) (A : Nat → Prop) (o : Nat) (al : Nat → Nat) (mu : Rm) (a b h : Int32) (a1 : 0 ≤ a) (a2 : a ≤ 4) (b1 : ¬ (0 ≤ b ∧ b ≤ 30)) : CT l yX6_setTax (Cond.code yX6_setTax cX6_setTax 5 (some .int)) 1 22 D Y A [.ref o, .int a, .int b, .int h] (WR D Y A o al mu) (fun _ : Unit => some (.int 0)) (fun _ : Unit => WR D Y A o al (rI mu 25 0 1)) noX 0 0 := by
  refine CT.of (by decide) (Nat.le_of_ble_eq_true rfl) ?_
  intro p_ e_ s_ m_ below_ meth_ c_ C0 K0 hr hlk htab hnm_
  refine k_aload_n C0 dX6_setTax_0 0 rfl ?_
  refine k_iload_n C0 dX6_setTax_1 1 rfl ?_
  refine k_iconst C0 0 dX6_setTax_2 (by decide) ?_
  refine k_iconst C0 4 dX6_setTax_3 (by decide) ?_
  refine k_callS C0 K0 dX6_setTax_4 (ct_in1 l D Y A _ a (0 : Int32) (4 : Int32) a1 a2) gkX6_69 hyX6_in rfl (by exact Nat.le_of_ble_eq_true rfl) ⟨Nat.le_of_ble_eq_true rfl, Nat.le_of_ble_eq_true rfl⟩ ⟨Nat.le_of_ble_eq_true rfl, Nat.le_of_ble_eq_true rfl⟩ (fun E => kX_no E) (fun u => ?_)
  refine k_if_eq C0 24 dX6_setTax_7 (by decide) (fun zz => absurd zz (by decide)) (fun _ => ?_)
  refine k_iload_n C0 dX6_setTax_10 2 rfl ?_
  refine k_iconst C0 0 dX6_setTax_11 (by decide) ?_
  refine k_bipush C0 30 dX6_setTax_12 (by decide) ?_
  refine k_callS C0 K0 dX6_setTax_14 (ct_in0 l D Y A _ b (0 : Int32) (30 : Int32) b1) gkX6_69 hyX6_in rfl (by exact Nat.le_of_ble_eq_true rfl) ⟨Nat.le_of_ble_eq_true rfl, Nat.le_of_ble_eq_true rfl⟩ ⟨Nat.le_of_ble_eq_true rfl, Nat.le_of_ble_eq_true rfl⟩ (fun E => kX_no E) (fun u => ?_)
  refine k_if_eq C0 24 dX6_setTax_17 (by decide) (fun _ => ?_) (fun zz => absurd (by decide) zz)
  refine k_iconst C0 1 dX6_setTax_24 (by decide) ?_
  refine r_putS C0 K0 25 dX6_setTax_25 (tD 1 rfl rfl) (by decide) rfl rfl (by decide +kernel) (rs_25 al _ _) (by decide) ?_
  refine k_aload_n C0 dX6_setTax_28 0 rfl ?_
  refine r_getI C0 K0 25 1 dX6_setTax_29 (tD 1 rfl rfl) (by decide) rfl (rg_25 al _) rI_at ?_
  refine k_if_le C0 37 dX6_setTax_32 (by decide) (fun zz => absurd zz (by decide)) (fun _ => ?_)
  refine k_iconst C0 0 dX6_setTax_35 (by decide) ?_
  exact k_iret C0 dX6_setTax_36 hr hlk (Nat.le_of_ble_eq_true rfl) (Nat.le_of_ble_eq_true rfl) () rfl (fun H h => h)
end
section
def r_tx (mu : Rm) (ld pr : Int32) : Int32 := pr * mu.1 1 ld.toNatClampNeg / (100 + mu.1 1 ld.toNatClampNeg)
def r_sh (mu : Rm) (p ld pr old : Int32) : Int32 := (pr - r_tx mu ld pr) * (if ¬ old = 0 ∨ mu.1 6 (mu.1 11 p.toNatClampNeg).toNatClampNeg < 1000000 then 15 else 30) / 100
def r_row (mu : Rm) (p ld pr old : Int32) : Int64 := pr.toInt64 + ((r_tx mu ld pr).toInt64 <<< ((17 : Int32).toInt64 &&& 63)) + ((r_sh mu p ld pr old).toInt64 <<< ((32 : Int32).toInt64 &&& 63)) + ((mu.1 0 0 / 30).toInt64 <<< ((47 : Int32).toInt64 &&& 63)) + ((mu.1 11 p.toNatClampNeg).toInt64 <<< ((54 : Int32).toInt64 &&& 63)) + (ld.toInt64 <<< ((57 : Int32).toInt64 &&& 63)) + ((mu.1 2 ld.toNatClampNeg).toInt64 <<< ((60 : Int32).toInt64 &&& 63))
def r_sell1 (mu : Rm) (p ld pr old : Int32) : Rm := rR (rI mu 6 (mu.1 11 p.toNatClampNeg).toNatClampNeg (mu.1 6 (mu.1 11 p.toNatClampNeg).toNatClampNeg + (pr - r_tx mu ld pr))) (mu.1 13 0).toNatClampNeg (r_row mu p ld pr old)
def r_sell2 (mu : Rm) (p ld pr old : Int32) : Rm := r_counts (r_sell1 mu p ld pr old) (r_row mu p ld pr old) 1
def r_sells (mu : Rm) (p ld pr old : Int32) : Int32 × Rm := ((r_sell2 mu p ld pr old).1 13 0 + 1 - 1, rI (r_sell2 mu p ld pr old) 13 0 ((r_sell2 mu p ld pr old).1 13 0 + 1))
/-- what a sale asks of the numbers -/
def r_sellOK (mu : Rm) (p ld pr old : Int32) : Prop := vp_in p 20 ∧ vp_in ld 5 ∧ vp_in (mu.1 11 p.toNatClampNeg) 6 ∧ (¬ 100 + mu.1 1 ld.toNatClampNeg = 0) ∧ vp_in (mu.1 13 0) 5400 ∧ vp_in (r_part (r_row mu p ld pr old) 54 3) 6 ∧ vp_in (r_part (r_row mu p ld pr old) 57 3) 5
theorem gkX6_110 : GoodIn TT (wsV RX6 110 yX6_counts.cls yX6_counts (Cond.code yX6_counts cX6_counts 4 none :: TT)) := goodTV (tD 89 rfl rfl) (tD 91 rfl rfl) (tP 18 rfl) (tA 6 rfl rfl) (tD 92 rfl rfl)
theorem hyX6_counts : yX6_counts.cls ≠ "java/lang/invoke/MethodHandle" ∧ yX6_counts.cls ≠ "java/lang/invoke/VarHandle" ∧ (parseMethodDescriptor yX6_counts.desc).map (fun d => d.parameters.length) = some 2 := by decide +kernel
theorem gkX6_114 : GoodIn TT (wsV RX6 114 yX6_sells.cls yX6_sells (Cond.code yX6_sells cX6_sells 9 (some .int) :: TT)) := goodTV (tD 85 rfl rfl) (tD 87 rfl rfl) (tP 17 rfl) (tA 6 rfl rfl) (tD 88 rfl rfl)
theorem hyX6_sells : yX6_sells.cls ≠ "java/lang/invoke/MethodHandle" ∧ yX6_sells.cls ≠ "java/lang/invoke/VarHandle" ∧ (parseMethodDescriptor yX6_sells.desc).map (fun d => d.parameters.length) = some 4 := by decide +kernel
theorem gkX6_122 : GoodIn TT (wsV RX6 122 yX6_fails.cls yX6_fails (Cond.code yX6_fails cX6_fails 2 (some .int) :: TT)) := goodTV (tD 116 rfl rfl) (tD 118 rfl rfl) (tP 20 rfl) (tA 6 rfl rfl) (tD 119 rfl rfl)
theorem hyX6_fails : yX6_fails.cls ≠ "java/lang/invoke/MethodHandle" ∧ yX6_fails.cls ≠ "java/lang/invoke/VarHandle" ∧ (parseMethodDescriptor yX6_fails.desc).map (fun d => d.parameters.length) = some 1 := by decide +kernel
set_option maxRecDepth 100000 in
set_option maxHeartbeats 4000000 in
theorem ct_sells (l : Launch) (D : va_G) (Y : Nat → Nat) (A : Nat → Prop) (o : Nat) (al : Nat → Nat) (mu : Rm) (p ld pr old : Int32) (hk : r_sellOK mu p ld pr old) : CT l yX6_sells (Cond.code yX6_sells cX6_sells 9 (some .int)) 4 88 D Y A [.ref o, .int p, .int ld, .int pr, .int old] (WR D Y A o al mu) (fun _ : Unit => some (.int ((((r_sell2 mu p ld pr old).1 13 0) + 1) - 1))) (fun _ : Unit => WR D Y A o al ((r_sells mu p ld pr old).2)) noX 0 0 := by
  refine CT.of (by decide) (Nat.le_of_ble_eq_true rfl) ?_
  intro p_ e_ s_ m_ below_ meth_ c_ C0 K0 hr hlk htab hnm_
  refine k_aload_n C0 dX6_sells_0 0 rfl ?_
  refine r_get C0 K0 11 dX6_sells_1 (tC 227 rfl rfl) (by decide) rfl rfl ?_
  refine k_iload_n C0 dX6_sells_4 1 rfl ?_
  refine r_iald C0 K0 11 dX6_sells_5 (by decide) hk.1 (v := mu.1 11 p.toNatClampNeg) rfl ?_
  refine k_istore C0 [(5, _), (0, _), (1, _), (2, _), (3, _), (4, _)] dX6_sells_6 (by decide) rfl ?_
  refine k_iload_n C0 dX6_sells_8 4 rfl ?_
  refine k_aload_n C0 dX6_sells_9 1 rfl ?_
  refine r_get C0 K0 1 dX6_sells_10 (tC 217 rfl rfl) (by decide) rfl rfl ?_
  refine k_iload_n C0 dX6_sells_13 3 rfl ?_
  refine r_iald C0 K0 1 dX6_sells_14 (by decide) hk.2.1 (v := mu.1 1 ld.toNatClampNeg) rfl ?_
  refine k_imul C0 dX6_sells_15 ?_
  refine k_bipush C0 100 dX6_sells_16 (by decide) ?_
  refine k_aload_n C0 dX6_sells_18 1 rfl ?_
  refine r_get C0 K0 1 dX6_sells_19 (tC 217 rfl rfl) (by decide) rfl rfl ?_
  refine k_iload_n C0 dX6_sells_22 3 rfl ?_
  refine r_iald C0 K0 1 dX6_sells_23 (by decide) hk.2.1 (v := mu.1 1 ld.toNatClampNeg) rfl ?_
  refine k_iadd C0 dX6_sells_24 ?_
  refine k_idiv C0 dX6_sells_25 hk.2.2.2.1 ?_
  refine k_istore C0 [(6, _), (5, _), (0, _), (1, _), (2, _), (3, _), (4, _)] dX6_sells_26 (by decide) rfl ?_
  refine k_iload_n C0 dX6_sells_28 5 rfl ?_
  refine k_iload C0 dX6_sells_29 0 rfl ?_
  refine k_isub C0 dX6_sells_31 ?_
  refine k_istore C0 [(7, _), (6, _), (5, _), (0, _), (1, _), (2, _), (3, _), (4, _)] dX6_sells_32 (by decide) rfl ?_
  refine k_iload C0 dX6_sells_34 0 rfl ?_
  refine k_join (fun x => x = (if ¬ old = 0 ∨ mu.1 6 (mu.1 11 p.toNatClampNeg).toNatClampNeg < 1000000 then 15 else 30)) 60 0 (fun J1 => ?_) (fun x1 ex1 => ?_)
  ·
    refine k_iload C0 dX6_sells_36 7 rfl ?_
    refine k_if_ne C0 53 dX6_sells_38 (by decide) (fun h38 => ?_) (fun h38 => ?_)
    ·
      refine k_bipush C0 15 dX6_sells_53 (by decide) ?_
      refine k_goto C0 60 dX6_sells_55 (by decide) ?_
      exact J1 _ (by first | exact (if_pos (Or.inl h38)).symm | exact (if_pos (Or.inr (Int32.not_le.mp h50))).symm | exact (if_neg (fun z => z.elim (fun q => q h38) (fun q => Int32.not_lt.mpr h50 q))).symm)
    ·
      refine k_aload_n C0 dX6_sells_41 3 rfl ?_
      refine r_get C0 K0 6 dX6_sells_42 (tC 222 rfl rfl) (by decide) rfl rfl ?_
      refine k_iload C0 dX6_sells_45 2 rfl ?_
      refine r_iald C0 K0 6 dX6_sells_47 (by decide) hk.2.2.1 (v := mu.1 6 ((mu.1 11 p.toNatClampNeg).toNatClampNeg)) rfl ?_
      refine k_ldc C0 (v := 1000000) dX6_sells_48 (tD 71 rfl rfl) ?_
      refine k_icmp_ge C0 58 dX6_sells_50 (by decide) (fun h50 => ?_) (fun h50 => ?_)
      ·
        refine k_bipush C0 30 dX6_sells_58 (by decide) ?_
        exact J1 _ (by first | exact (if_pos (Or.inl h38)).symm | exact (if_pos (Or.inr (Int32.not_le.mp h50))).symm | exact (if_neg (fun z => z.elim (fun q => q h38) (fun q => Int32.not_lt.mpr h50 q))).symm)
      ·
        refine k_bipush C0 15 dX6_sells_53 (by decide) ?_
        refine k_goto C0 60 dX6_sells_55 (by decide) ?_
        exact J1 _ (by first | exact (if_pos (Or.inl h38)).symm | exact (if_pos (Or.inr (Int32.not_le.mp h50))).symm | exact (if_neg (fun z => z.elim (fun q => q h38) (fun q => Int32.not_lt.mpr h50 q))).symm)
  ·
    subst ex1
    refine k_imul C0 dX6_sells_60 ?_
    refine k_bipush C0 100 dX6_sells_61 (by decide) ?_
    refine k_idiv C0 dX6_sells_63 (by decide) ?_
    refine k_istore C0 [(8, _), (7, _), (6, _), (5, _), (0, _), (1, _), (2, _), (3, _), (4, _)] dX6_sells_64 (by decide) rfl ?_
    refine k_aload_n C0 dX6_sells_66 4 rfl ?_
    refine r_get C0 K0 6 dX6_sells_67 (tC 222 rfl rfl) (by decide) rfl rfl ?_
    refine k_iload C0 dX6_sells_70 3 rfl ?_
    refine k_dup2 C0 dX6_sells_72 rfl rfl ?_
    refine r_iald C0 K0 6 dX6_sells_73 (by decide) hk.2.2.1 (v := mu.1 6 ((mu.1 11 p.toNatClampNeg).toNatClampNeg)) rfl ?_
    refine k_iload C0 dX6_sells_74 1 rfl ?_
    refine k_iadd C0 dX6_sells_76 ?_
    refine r_iast C0 K0 6 dX6_sells_77 (by decide) hk.2.2.1 ?_
    refine k_aload_n C0 dX6_sells_78 4 rfl ?_
    refine r_get C0 K0 14 dX6_sells_79 (tC 230 rfl rfl) (by decide) rfl rfl ?_
    refine k_aload_n C0 dX6_sells_82 4 rfl ?_
    refine r_getI C0 K0 13 (mu.1 13 0) dX6_sells_83 (tC 229 rfl rfl) (by decide) rfl (rg_13 al _) (rI_tr (by decide) rfl) ?_
    refine k_iload_n C0 dX6_sells_86 7 rfl ?_
    refine k_i2l C0 dX6_sells_87 ?_
    refine k_iload C0 dX6_sells_88 2 rfl ?_
    refine k_i2l C0 dX6_sells_90 ?_
    refine k_bipush C0 17 dX6_sells_91 (by decide) ?_
    refine k_lshl C0 dX6_sells_93 ?_
    refine k_ladd C0 dX6_sells_94 ?_
    refine k_iload C0 dX6_sells_95 0 rfl ?_
    refine k_i2l C0 dX6_sells_97 ?_
    refine k_bipush C0 32 dX6_sells_98 (by decide) ?_
    refine k_lshl C0 dX6_sells_100 ?_
    refine k_ladd C0 dX6_sells_101 ?_
    refine k_aload_n C0 dX6_sells_102 4 rfl ?_
    refine r_getI C0 K0 0 (mu.1 0 0) dX6_sells_103 (tC 216 rfl rfl) (by decide) rfl (rg_0 al _) (rI_tr (by decide) rfl) ?_
    refine k_bipush C0 30 dX6_sells_106 (by decide) ?_
    refine k_idiv C0 dX6_sells_108 (by decide) ?_
    refine k_i2l C0 dX6_sells_109 ?_
    refine k_bipush C0 47 dX6_sells_110 (by decide) ?_
    refine k_lshl C0 dX6_sells_112 ?_
    refine k_ladd C0 dX6_sells_113 ?_
    refine k_iload C0 dX6_sells_114 3 rfl ?_
    refine k_i2l C0 dX6_sells_116 ?_
    refine k_bipush C0 54 dX6_sells_117 (by decide) ?_
    refine k_lshl C0 dX6_sells_119 ?_
    refine k_ladd C0 dX6_sells_120 ?_
    refine k_iload_n C0 dX6_sells_121 6 rfl ?_
    refine k_i2l C0 dX6_sells_122 ?_
    refine k_bipush C0 57 dX6_sells_123 (by decide) ?_
    refine k_lshl C0 dX6_sells_125 ?_
    refine k_ladd C0 dX6_sells_126 ?_
    refine k_aload_n C0 dX6_sells_127 4 rfl ?_
    refine r_get C0 K0 2 dX6_sells_128 (tC 218 rfl rfl) (by decide) rfl rfl ?_
    refine k_iload_n C0 dX6_sells_131 6 rfl ?_
    refine r_iald C0 K0 2 dX6_sells_132 (by decide) hk.2.1 (v := mu.1 2 ld.toNatClampNeg) (rI_tr (by decide) rfl) ?_
    refine k_i2l C0 dX6_sells_133 ?_
    refine k_bipush C0 60 dX6_sells_134 (by decide) ?_
    refine k_lshl C0 dX6_sells_136 ?_
    refine k_ladd C0 dX6_sells_137 ?_
    refine r_last C0 K0 dX6_sells_138 hk.2.2.2.2.1 ?_
    refine k_aload_n C0 dX6_sells_139 4 rfl ?_
    refine k_aload_n C0 dX6_sells_140 4 rfl ?_
    refine r_get C0 K0 14 dX6_sells_141 (tC 230 rfl rfl) (by decide) rfl rfl ?_
    refine k_aload_n C0 dX6_sells_144 4 rfl ?_
    refine r_getI C0 K0 13 (mu.1 13 0) dX6_sells_145 (tC 229 rfl rfl) (by decide) rfl (rg_13 al _) (rR_tr (rI_tr (by decide) rfl)) ?_
    refine r_lald C0 K0 dX6_sells_148 hk.2.2.2.2.1 (v := (((((pr.toInt64 + ((((pr * (mu.1 1 ld.toNatClampNeg)) / (100 + (mu.1 1 ld.toNatClampNeg))).toInt64) <<< ((17 : Int32).toInt64 &&& 63))) + (((((pr - ((pr * (mu.1 1 ld.toNatClampNeg)) / (100 + (mu.1 1 ld.toNatClampNeg)))) * (if ¬ old = 0 ∨ mu.1 6 (mu.1 11 p.toNatClampNeg).toNatClampNeg < 1000000 then 15 else 30)) / 100).toInt64) <<< ((32 : Int32).toInt64 &&& 63))) + ((((mu.1 0 0) / 30).toInt64) <<< ((47 : Int32).toInt64 &&& 63))) + (((mu.1 11 p.toNatClampNeg).toInt64) <<< ((54 : Int32).toInt64 &&& 63))) + (ld.toInt64 <<< ((57 : Int32).toInt64 &&& 63))) + (((mu.1 2 ld.toNatClampNeg).toInt64) <<< ((60 : Int32).toInt64 &&& 63))) (by exact pk_uLs) ?_
    refine k_iconst C0 1 dX6_sells_149 (by decide) ?_
    refine k_callV C0 K0 dX6_sells_150 (ct_counts l D Y A o al (rR (rI mu 6 ((mu.1 11 p.toNatClampNeg).toNatClampNeg) ((mu.1 6 ((mu.1 11 p.toNatClampNeg).toNatClampNeg)) + (pr - ((pr * (mu.1 1 ld.toNatClampNeg)) / (100 + (mu.1 1 ld.toNatClampNeg)))))) ((mu.1 13 0).toNatClampNeg) ((((((pr.toInt64 + ((((pr * (mu.1 1 ld.toNatClampNeg)) / (100 + (mu.1 1 ld.toNatClampNeg))).toInt64) <<< ((17 : Int32).toInt64 &&& 63))) + (((((pr - ((pr * (mu.1 1 ld.toNatClampNeg)) / (100 + (mu.1 1 ld.toNatClampNeg)))) * (if ¬ old = 0 ∨ mu.1 6 (mu.1 11 p.toNatClampNeg).toNatClampNeg < 1000000 then 15 else 30)) / 100).toInt64) <<< ((32 : Int32).toInt64 &&& 63))) + ((((mu.1 0 0) / 30).toInt64) <<< ((47 : Int32).toInt64 &&& 63))) + (((mu.1 11 p.toNatClampNeg).toInt64) <<< ((54 : Int32).toInt64 &&& 63))) + (ld.toInt64 <<< ((57 : Int32).toInt64 &&& 63))) + (((mu.1 2 ld.toNatClampNeg).toInt64) <<< ((60 : Int32).toInt64 &&& 63)))) ((((((pr.toInt64 + ((((pr * (mu.1 1 ld.toNatClampNeg)) / (100 + (mu.1 1 ld.toNatClampNeg))).toInt64) <<< ((17 : Int32).toInt64 &&& 63))) + (((((pr - ((pr * (mu.1 1 ld.toNatClampNeg)) / (100 + (mu.1 1 ld.toNatClampNeg)))) * (if ¬ old = 0 ∨ mu.1 6 (mu.1 11 p.toNatClampNeg).toNatClampNeg < 1000000 then 15 else 30)) / 100).toInt64) <<< ((32 : Int32).toInt64 &&& 63))) + ((((mu.1 0 0) / 30).toInt64) <<< ((47 : Int32).toInt64 &&& 63))) + (((mu.1 11 p.toNatClampNeg).toInt64) <<< ((54 : Int32).toInt64 &&& 63))) + (ld.toInt64 <<< ((57 : Int32).toInt64 &&& 63))) + (((mu.1 2 ld.toNatClampNeg).toInt64) <<< ((60 : Int32).toInt64 &&& 63))) 1 hk.2.2.2.2.2.1 hk.2.2.2.2.2.2) gkX6_110 hyX6_counts (fun H hV => r_recv K0 hV) rfl (by exact Nat.le_of_ble_eq_true rfl) ⟨Nat.le_of_ble_eq_true rfl, Nat.le_of_ble_eq_true rfl⟩ ⟨Nat.le_of_ble_eq_true rfl, Nat.le_of_ble_eq_true rfl⟩ (fun E => kX_no E) (fun _ => k_W (V' := WR D Y A o al (r_sell2 mu p ld pr old)) (by unfold r_sell2 r_sell1 r_row r_sh r_tx; exact fun H h => h) ?_)
    refine k_aload_n C0 dX6_sells_153 4 rfl ?_
    refine k_dup C0 dX6_sells_154 rfl ?_
    refine r_getI C0 K0 13 ((r_sell2 mu p ld pr old).1 13 0) dX6_sells_155 (tC 229 rfl rfl) (by decide) rfl (rg_13 al _) rfl ?_
    refine k_iconst C0 1 dX6_sells_158 (by decide) ?_
    refine k_iadd C0 dX6_sells_159 ?_
    refine r_putS C0 K0 13 dX6_sells_160 (tC 229 rfl rfl) (by decide) rfl rfl (by decide +kernel) (rs_13 al _ _) (by decide) ?_
    refine k_aload_n C0 dX6_sells_163 4 rfl ?_
    refine r_getI C0 K0 13 (((r_sell2 mu p ld pr old).1 13 0) + 1) dX6_sells_164 (tC 229 rfl rfl) (by decide) rfl (rg_13 al _) rI_at ?_
    refine k_iconst C0 1 dX6_sells_167 (by decide) ?_
    refine k_isub C0 dX6_sells_168 ?_
    exact k_iret C0 dX6_sells_169 hr hlk (Nat.le_of_ble_eq_true rfl) (Nat.le_of_ble_eq_true rfl) () rfl (fun H h => h)
set_option maxRecDepth 100000 in
set_option maxHeartbeats 4000000 in
theorem ct_buy_ok (l : Launch) (D : va_G) (Y : Nat → Nat) (A : Nat → Prop) (o : Nat) (al : Nat → Nat) (mu : Rm) (a b : Int32) (a1 : 0 ≤ a) (a2 : a ≤ mu.1 10 0 - 1) (b1 : 0 ≤ b) (b2 : b ≤ 4) (hi : vp_in (5 * a + b) 100) (hk : r_sellOK (rI mu 25 0 0) a b (mu.1 12 (5 * a + b).toNatClampNeg) 0) : CT l yX6_buy (Cond.code yX6_buy cX6_buy 3 (some .int)) 5 116 D Y A [.ref o, .int a, .int b] (WR D Y A o al mu) (fun _ : Unit => some (.int ((r_sells (rI mu 25 0 0) a b (mu.1 12 (((5 * a) + b).toNatClampNeg)) (0 : Int32)).1))) (fun _ : Unit => WR D Y A o al ((r_sells (rI mu 25 0 0) a b (mu.1 12 (((5 * a) + b).toNatClampNeg)) (0 : Int32)).2)) noX 0 0 := by
  refine CT.of (by decide) (Nat.le_of_ble_eq_true rfl) ?_
  intro p_ e_ s_ m_ below_ meth_ c_ C0 K0 hr hlk htab hnm_
  refine k_aload_n C0 dX6_buy_0 0 rfl ?_
  refine k_iload_n C0 dX6_buy_1 1 rfl ?_
  refine k_iconst C0 0 dX6_buy_2 (by decide) ?_
  refine k_aload_n C0 dX6_buy_3 0 rfl ?_
  refine r_getI C0 K0 10 (mu.1 10 0) dX6_buy_4 (tC 226 rfl rfl) (by decide) rfl (rg_10 al _) rfl ?_
  refine k_iconst C0 1 dX6_buy_7 (by decide) ?_
  refine k_isub C0 dX6_buy_8 ?_
  refine k_callS C0 K0 dX6_buy_9 (ct_in1 l D Y A _ a (0 : Int32) ((mu.1 10 0) - 1) a1 a2) gkX6_69 hyX6_in rfl (by exact Nat.le_of_ble_eq_true rfl) ⟨Nat.le_of_ble_eq_true rfl, Nat.le_of_ble_eq_true rfl⟩ ⟨Nat.le_of_ble_eq_true rfl, Nat.le_of_ble_eq_true rfl⟩ (fun E => kX_no E) (fun u => ?_)
  refine k_if_ne C0 19 dX6_buy_12 (by decide) (fun _ => ?_) (fun zz => absurd zz (by decide))
  refine k_iload_n C0 dX6_buy_19 2 rfl ?_
  refine k_iconst C0 0 dX6_buy_20 (by decide) ?_
  refine k_iconst C0 4 dX6_buy_21 (by decide) ?_
  refine k_callS C0 K0 dX6_buy_22 (ct_in1 l D Y A _ b (0 : Int32) (4 : Int32) b1 b2) gkX6_69 hyX6_in rfl (by exact Nat.le_of_ble_eq_true rfl) ⟨Nat.le_of_ble_eq_true rfl, Nat.le_of_ble_eq_true rfl⟩ ⟨Nat.le_of_ble_eq_true rfl, Nat.le_of_ble_eq_true rfl⟩ (fun E => kX_no E) (fun u => ?_)
  refine k_if_ne C0 32 dX6_buy_25 (by decide) (fun _ => ?_) (fun zz => absurd zz (by decide))
  refine k_iconst C0 0 dX6_buy_32 (by decide) ?_
  refine r_putS C0 K0 25 dX6_buy_33 (tD 1 rfl rfl) (by decide) rfl rfl (by decide +kernel) (rs_25 al _ _) (by decide) ?_
  refine k_aload_n C0 dX6_buy_36 0 rfl ?_
  refine r_getI C0 K0 25 0 dX6_buy_37 (tD 1 rfl rfl) (by decide) rfl (rg_25 al _) rI_at ?_
  refine k_if_ne C0 63 dX6_buy_40 (by decide) (fun zz => absurd (by decide) zz) (fun _ => ?_)
  refine k_aload_n C0 dX6_buy_43 0 rfl ?_
  refine k_iload_n C0 dX6_buy_44 1 rfl ?_
  refine k_iload_n C0 dX6_buy_45 2 rfl ?_
  refine k_aload_n C0 dX6_buy_46 0 rfl ?_
  refine r_get C0 K0 12 dX6_buy_47 (tC 228 rfl rfl) (by decide) rfl rfl ?_
  refine k_iconst C0 5 dX6_buy_50 (by decide) ?_
  refine k_iload_n C0 dX6_buy_51 1 rfl ?_
  refine k_imul C0 dX6_buy_52 ?_
  refine k_iload_n C0 dX6_buy_53 2 rfl ?_
  refine k_iadd C0 dX6_buy_54 ?_
  refine r_iald C0 K0 12 dX6_buy_55 (by decide) hi (v := mu.1 12 (((5 * a) + b).toNatClampNeg)) (rI_tr (by decide) rfl) ?_
  refine k_iconst C0 0 dX6_buy_56 (by decide) ?_
  refine k_callV C0 K0 dX6_buy_57 (ct_sells l D Y A o al (rI mu 25 0 0) a b (mu.1 12 (((5 * a) + b).toNatClampNeg)) (0 : Int32) hk) gkX6_114 hyX6_sells (fun H hV => r_recv K0 hV) rfl (by exact Nat.le_of_ble_eq_true rfl) ⟨Nat.le_of_ble_eq_true rfl, Nat.le_of_ble_eq_true rfl⟩ ⟨Nat.le_of_ble_eq_true rfl, Nat.le_of_ble_eq_true rfl⟩ (fun E => kX_no E) (fun u => ?_)
  refine k_goto C0 64 dX6_buy_60 (by decide) ?_
  exact k_iret C0 dX6_buy_64 hr hlk (Nat.le_of_ble_eq_true rfl) (Nat.le_of_ble_eq_true rfl) () rfl (fun H h => h)
set_option maxRecDepth 100000 in
set_option maxHeartbeats 4000000 in
theorem ct_buy_1 (l : Launch) (D : va_G) (Y : Nat → Nat) (A : Nat → Prop) (o : Nat) (al : Nat → Nat) (mu : Rm) (a b : Int32) (a1 : ¬ (0 ≤ a ∧ a ≤ mu.1 10 0 - 1)) : CT l yX6_buy (Cond.code yX6_buy cX6_buy 3 (some .int)) 1 22 D Y A [.ref o, .int a, .int b] (WR D Y A o al mu) (fun _ : Unit => some (.int 0)) (fun _ : Unit => WR D Y A o al (rI mu 25 0 1)) noX 0 0 := by
  refine CT.of (by decide) (Nat.le_of_ble_eq_true rfl) ?_
  intro p_ e_ s_ m_ below_ meth_ c_ C0 K0 hr hlk htab hnm_
  refine k_aload_n C0 dX6_buy_0 0 rfl ?_
  refine k_iload_n C0 dX6_buy_1 1 rfl ?_
  refine k_iconst C0 0 dX6_buy_2 (by decide) ?_
  refine k_aload_n C0 dX6_buy_3 0 rfl ?_
  refine r_getI C0 K0 10 (mu.1 10 0) dX6_buy_4 (tC 226 rfl rfl) (by decide) rfl (rg_10 al _) rfl ?_
  refine k_iconst C0 1 dX6_buy_7 (by decide) ?_
  refine k_isub C0 dX6_buy_8 ?_
  refine k_callS C0 K0 dX6_buy_9 (ct_in0 l D Y A _ a (0 : Int32) ((mu.1 10 0) - 1) a1) gkX6_69 hyX6_in rfl (by exact Nat.le_of_ble_eq_true rfl) ⟨Nat.le_of_ble_eq_true rfl, Nat.le_of_ble_eq_true rfl⟩ ⟨Nat.le_of_ble_eq_true rfl, Nat.le_of_ble_eq_true rfl⟩ (fun E => kX_no E) (fun u => ?_)
  refine k_if_ne C0 19 dX6_buy_12 (by decide) (fun zz => absurd (by decide) zz) (fun _ => ?_)
  refine k_iconst C0 1 dX6_buy_15 (by decide) ?_
  refine k_goto C0 33 dX6_buy_16 (by decide) ?_
  refine r_putS C0 K0 25 dX6_buy_33 (tD 1 rfl rfl) (by decide) rfl rfl (by decide +kernel) (rs_25 al _ _) (by decide) ?_
  refine k_aload_n C0 dX6_buy_36 0 rfl ?_
  refine r_getI C0 K0 25 1 dX6_buy_37 (tD 1 rfl rfl) (by decide) rfl (rg_25 al _) rI_at ?_
  refine k_if_ne C0 63 dX6_buy_40 (by decide) (fun _ => ?_) (fun zz => absurd zz (by decide))
  refine k_iconst C0 0 dX6_buy_63 (by decide) ?_
  exact k_iret C0 dX6_buy_64 hr hlk (Nat.le_of_ble_eq_true rfl) (Nat.le_of_ble_eq_true rfl) () rfl (fun H h => h)
set_option maxRecDepth 100000 in
set_option maxHeartbeats 4000000 in
theorem ct_buy_2 (l : Launch) (D : va_G) (Y : Nat → Nat) (A : Nat → Prop) (o : Nat) (al : Nat → Nat) (mu : Rm) (a b : Int32) (a1 : 0 ≤ a) (a2 : a ≤ mu.1 10 0 - 1) (b1 : ¬ (0 ≤ b ∧ b ≤ 4)) : CT l yX6_buy (Cond.code yX6_buy cX6_buy 3 (some .int)) 1 22 D Y A [.ref o, .int a, .int b] (WR D Y A o al mu) (fun _ : Unit => some (.int 0)) (fun _ : Unit => WR D Y A o al (rI mu 25 0 2)) noX 0 0 := by
  refine CT.of (by decide) (Nat.le_of_ble_eq_true rfl) ?_
  intro p_ e_ s_ m_ below_ meth_ c_ C0 K0 hr hlk htab hnm_
  refine k_aload_n C0 dX6_buy_0 0 rfl ?_
  refine k_iload_n C0 dX6_buy_1 1 rfl ?_
  refine k_iconst C0 0 dX6_buy_2 (by decide) ?_
  refine k_aload_n C0 dX6_buy_3 0 rfl ?_
  refine r_getI C0 K0 10 (mu.1 10 0) dX6_buy_4 (tC 226 rfl rfl) (by decide) rfl (rg_10 al _) rfl ?_
  refine k_iconst C0 1 dX6_buy_7 (by decide) ?_
  refine k_isub C0 dX6_buy_8 ?_
  refine k_callS C0 K0 dX6_buy_9 (ct_in1 l D Y A _ a (0 : Int32) ((mu.1 10 0) - 1) a1 a2) gkX6_69 hyX6_in rfl (by exact Nat.le_of_ble_eq_true rfl) ⟨Nat.le_of_ble_eq_true rfl, Nat.le_of_ble_eq_true rfl⟩ ⟨Nat.le_of_ble_eq_true rfl, Nat.le_of_ble_eq_true rfl⟩ (fun E => kX_no E) (fun u => ?_)
  refine k_if_ne C0 19 dX6_buy_12 (by decide) (fun _ => ?_) (fun zz => absurd zz (by decide))
  refine k_iload_n C0 dX6_buy_19 2 rfl ?_
  refine k_iconst C0 0 dX6_buy_20 (by decide) ?_
  refine k_iconst C0 4 dX6_buy_21 (by decide) ?_
  refine k_callS C0 K0 dX6_buy_22 (ct_in0 l D Y A _ b (0 : Int32) (4 : Int32) b1) gkX6_69 hyX6_in rfl (by exact Nat.le_of_ble_eq_true rfl) ⟨Nat.le_of_ble_eq_true rfl, Nat.le_of_ble_eq_true rfl⟩ ⟨Nat.le_of_ble_eq_true rfl, Nat.le_of_ble_eq_true rfl⟩ (fun E => kX_no E) (fun u => ?_)
  refine k_if_ne C0 32 dX6_buy_25 (by decide) (fun zz => absurd (by decide) zz) (fun _ => ?_)
  refine k_iconst C0 2 dX6_buy_28 (by decide) ?_
  refine k_goto C0 33 dX6_buy_29 (by decide) ?_
  refine r_putS C0 K0 25 dX6_buy_33 (tD 1 rfl rfl) (by decide) rfl rfl (by decide +kernel) (rs_25 al _ _) (by decide) ?_
  refine k_aload_n C0 dX6_buy_36 0 rfl ?_
  refine r_getI C0 K0 25 2 dX6_buy_37 (tD 1 rfl rfl) (by decide) rfl (rg_25 al _) rI_at ?_
  refine k_if_ne C0 63 dX6_buy_40 (by decide) (fun _ => ?_) (fun zz => absurd zz (by decide))
  refine k_iconst C0 0 dX6_buy_63 (by decide) ?_
  exact k_iret C0 dX6_buy_64 hr hlk (Nat.le_of_ble_eq_true rfl) (Nat.le_of_ble_eq_true rfl) () rfl (fun H h => h)
set_option maxRecDepth 100000 in
set_option maxHeartbeats 4000000 in
theorem ct_refund_1 (l : Launch) (D : va_G) (Y : Nat → Nat) (A : Nat → Prop) (o : Nat) (al : Nat → Nat) (mu : Rm) (x : Int32) (h : ¬ (0 ≤ x ∧ x ≤ mu.1 13 0 - 1)) : CT l yX6_refund (Cond.code yX6_refund cX6_refund 2 (some .int)) 2 43 D Y A [.ref o, .int x] (WR D Y A o al mu) (fun _ : Unit => some (.int 0)) (fun _ : Unit => WR D Y A o al (rI mu 25 0 1)) noX 0 0 := by
  refine CT.of (by decide) (Nat.le_of_ble_eq_true rfl) ?_
  intro p_ e_ s_ m_ below_ meth_ c_ C0 K0 hr hlk htab hnm_
  refine k_aload_n C0 dX6_refund_0 0 rfl ?_
  refine k_iload_n C0 dX6_refund_1 1 rfl ?_
  refine k_callV C0 K0 dX6_refund_2 (ct_isSale0 l D Y A o al mu x h) gkX6_118 hyX6_isSale (fun H hV => r_recv K0 hV) rfl (by exact Nat.le_of_ble_eq_true rfl) ⟨Nat.le_of_ble_eq_true rfl, Nat.le_of_ble_eq_true rfl⟩ ⟨Nat.le_of_ble_eq_true rfl, Nat.le_of_ble_eq_true rfl⟩ (fun E => kX_no E) (fun u => ?_)
  refine k_if_ne C0 10 dX6_refund_5 (by decide) (fun zz => absurd (by decide) zz) (fun _ => ?_)
  refine k_iconst C0 0 dX6_refund_8 (by decide) ?_
  exact k_iret C0 dX6_refund_9 hr hlk (Nat.le_of_ble_eq_true rfl) (Nat.le_of_ble_eq_true rfl) () rfl (fun H h => h)
set_option maxRecDepth 100000 in
set_option maxHeartbeats 4000000 in
theorem ct_refund_2a (l : Launch) (D : va_G) (Y : Nat → Nat) (A : Nat → Prop) (o : Nat) (al : Nat → Nat) (mu : Rm) (x : Int32) (h1 : 0 ≤ x) (h2 : x ≤ mu.1 13 0 - 1) (hi : vp_in x 5400) (hr_ : r_part (mu.2 x.toNatClampNeg) 61 1 = 1) : CT l yX6_refund (Cond.code yX6_refund cX6_refund 2 (some .int)) 2 43 D Y A [.ref o, .int x] (WR D Y A o al mu) (fun _ : Unit => some (.int 0)) (fun _ : Unit => WR D Y A o al (rI (rI mu 25 0 0) 25 0 (2 : Int32))) noX 0 0 := by
  refine CT.of (by decide) (Nat.le_of_ble_eq_true rfl) ?_
  intro p_ e_ s_ m_ below_ meth_ c_ C0 K0 hr hlk htab hnm_
  refine k_aload_n C0 dX6_refund_0 0 rfl ?_
  refine k_iload_n C0 dX6_refund_1 1 rfl ?_
  refine k_callV C0 K0 dX6_refund_2 (ct_isSale1 l D Y A o al mu x h1 h2) gkX6_118 hyX6_isSale (fun H hV => r_recv K0 hV) rfl (by exact Nat.le_of_ble_eq_true rfl) ⟨Nat.le_of_ble_eq_true rfl, Nat.le_of_ble_eq_true rfl⟩ ⟨Nat.le_of_ble_eq_true rfl, Nat.le_of_ble_eq_true rfl⟩ (fun E => kX_no E) (fun u => ?_)
  refine k_if_ne C0 10 dX6_refund_5 (by decide) (fun _ => ?_) (fun zz => absurd zz (by decide))
  refine k_aload_n C0 dX6_refund_10 0 rfl ?_
  refine r_get C0 K0 14 dX6_refund_11 (tC 230 rfl rfl) (by decide) rfl rfl ?_
  refine k_iload_n C0 dX6_refund_14 1 rfl ?_
  refine r_lald C0 K0 dX6_refund_15 hi (v := mu.2 x.toNatClampNeg) rfl ?_
  refine k_bipush C0 61 dX6_refund_16 (by decide) ?_
  refine k_iconst C0 1 dX6_refund_18 (by decide) ?_
  refine k_callS C0 K0 dX6_refund_19 (ct_part l D Y A _ (mu.2 x.toNatClampNeg) (61 : Int32) (1 : Int32)) gkX6_81 hyX6_part rfl (by exact Nat.le_of_ble_eq_true rfl) ⟨Nat.le_of_ble_eq_true rfl, Nat.le_of_ble_eq_true rfl⟩ ⟨Nat.le_of_ble_eq_true rfl, Nat.le_of_ble_eq_true rfl⟩ (fun E => kX_no E) (fun u => ?_)
  refine k_iconst C0 1 dX6_refund_22 (by decide) ?_
  refine k_icmp_eq C0 51 dX6_refund_23 (by decide) (fun _ => ?_) (fun zz => absurd hr_ zz)
  refine k_aload_n C0 dX6_refund_51 0 rfl ?_
  refine k_iconst C0 2 dX6_refund_52 (by decide) ?_
  refine k_callV C0 K0 dX6_refund_53 (ct_fails l D Y A o al (rI mu 25 0 0) (2 : Int32)) gkX6_122 hyX6_fails (fun H hV => r_recv K0 hV) rfl (by exact Nat.le_of_ble_eq_true rfl) ⟨Nat.le_of_ble_eq_true rfl, Nat.le_of_ble_eq_true rfl⟩ ⟨Nat.le_of_ble_eq_true rfl, Nat.le_of_ble_eq_true rfl⟩ (fun E => kX_no E) (fun u => ?_)
  exact k_iret C0 dX6_refund_56 hr hlk (Nat.le_of_ble_eq_true rfl) (Nat.le_of_ble_eq_true rfl) () rfl (fun H h => h)
set_option maxRecDepth 100000 in
set_option maxHeartbeats 4000000 in
theorem ct_refund_2b (l : Launch) (D : va_G) (Y : Nat → Nat) (A : Nat → Prop) (o : Nat) (al : Nat → Nat) (mu : Rm) (x : Int32) (h1 : 0 ≤ x) (h2 : x ≤ mu.1 13 0 - 1) (hi : vp_in x 5400) (hr_ : ¬ r_part (mu.2 x.toNatClampNeg) 61 1 = 1) (ho : ¬ mu.1 0 0 / 30 - r_part (mu.2 x.toNatClampNeg) 47 7 ≤ 3) : CT l yX6_refund (Cond.code yX6_refund cX6_refund 2 (some .int)) 2 43 D Y A [.ref o, .int x] (WR D Y A o al mu) (fun _ : Unit => some (.int 0)) (fun _ : Unit => WR D Y A o al (rI (rI mu 25 0 0) 25 0 (2 : Int32))) noX 0 0 := by
  refine CT.of (by decide) (Nat.le_of_ble_eq_true rfl) ?_
  intro p_ e_ s_ m_ below_ meth_ c_ C0 K0 hr hlk htab hnm_
  refine k_aload_n C0 dX6_refund_0 0 rfl ?_
  refine k_iload_n C0 dX6_refund_1 1 rfl ?_
  refine k_callV C0 K0 dX6_refund_2 (ct_isSale1 l D Y A o al mu x h1 h2) gkX6_118 hyX6_isSale (fun H hV => r_recv K0 hV) rfl (by exact Nat.le_of_ble_eq_true rfl) ⟨Nat.le_of_ble_eq_true rfl, Nat.le_of_ble_eq_true rfl⟩ ⟨Nat.le_of_ble_eq_true rfl, Nat.le_of_ble_eq_true rfl⟩ (fun E => kX_no E) (fun u => ?_)
  refine k_if_ne C0 10 dX6_refund_5 (by decide) (fun _ => ?_) (fun zz => absurd zz (by decide))
  refine k_aload_n C0 dX6_refund_10 0 rfl ?_
  refine r_get C0 K0 14 dX6_refund_11 (tC 230 rfl rfl) (by decide) rfl rfl ?_
  refine k_iload_n C0 dX6_refund_14 1 rfl ?_
  refine r_lald C0 K0 dX6_refund_15 hi (v := mu.2 x.toNatClampNeg) rfl ?_
  refine k_bipush C0 61 dX6_refund_16 (by decide) ?_
  refine k_iconst C0 1 dX6_refund_18 (by decide) ?_
  refine k_callS C0 K0 dX6_refund_19 (ct_part l D Y A _ (mu.2 x.toNatClampNeg) (61 : Int32) (1 : Int32)) gkX6_81 hyX6_part rfl (by exact Nat.le_of_ble_eq_true rfl) ⟨Nat.le_of_ble_eq_true rfl, Nat.le_of_ble_eq_true rfl⟩ ⟨Nat.le_of_ble_eq_true rfl, Nat.le_of_ble_eq_true rfl⟩ (fun E => kX_no E) (fun u => ?_)
  refine k_iconst C0 1 dX6_refund_22 (by decide) ?_
  refine k_icmp_eq C0 51 dX6_refund_23 (by decide) (fun zz => absurd zz hr_) (fun _ => ?_)
  refine k_aload_n C0 dX6_refund_26 0 rfl ?_
  refine r_getI C0 K0 0 (mu.1 0 0) dX6_refund_27 (tC 216 rfl rfl) (by decide) rfl (rg_0 al _) (rI_tr (by decide) rfl) ?_
  refine k_bipush C0 30 dX6_refund_30 (by decide) ?_
  refine k_idiv C0 dX6_refund_32 (by decide) ?_
  refine k_aload_n C0 dX6_refund_33 0 rfl ?_
  refine r_get C0 K0 14 dX6_refund_34 (tC 230 rfl rfl) (by decide) rfl rfl ?_
  refine k_iload_n C0 dX6_refund_37 1 rfl ?_
  refine r_lald C0 K0 dX6_refund_38 hi (v := mu.2 x.toNatClampNeg) rfl ?_
  refine k_bipush C0 47 dX6_refund_39 (by decide) ?_
  refine k_bipush C0 7 dX6_refund_41 (by decide) ?_
  refine k_callS C0 K0 dX6_refund_43 (ct_part l D Y A _ (mu.2 x.toNatClampNeg) (47 : Int32) (7 : Int32)) gkX6_81 hyX6_part rfl (by exact Nat.le_of_ble_eq_true rfl) ⟨Nat.le_of_ble_eq_true rfl, Nat.le_of_ble_eq_true rfl⟩ ⟨Nat.le_of_ble_eq_true rfl, Nat.le_of_ble_eq_true rfl⟩ (fun E => kX_no E) (fun u => ?_)
  refine k_isub C0 dX6_refund_46 ?_
  refine k_iconst C0 3 dX6_refund_47 (by decide) ?_
  refine k_icmp_le C0 57 dX6_refund_48 (by decide) (fun zz => absurd zz ho) (fun _ => ?_)
  refine k_aload_n C0 dX6_refund_51 0 rfl ?_
  refine k_iconst C0 2 dX6_refund_52 (by decide) ?_
  refine k_callV C0 K0 dX6_refund_53 (ct_fails l D Y A o al (rI mu 25 0 0) (2 : Int32)) gkX6_122 hyX6_fails (fun H hV => r_recv K0 hV) rfl (by exact Nat.le_of_ble_eq_true rfl) ⟨Nat.le_of_ble_eq_true rfl, Nat.le_of_ble_eq_true rfl⟩ ⟨Nat.le_of_ble_eq_true rfl, Nat.le_of_ble_eq_true rfl⟩ (fun E => kX_no E) (fun u => ?_)
  exact k_iret C0 dX6_refund_56 hr hlk (Nat.le_of_ble_eq_true rfl) (Nat.le_of_ble_eq_true rfl) () rfl (fun H h => h)
set_option maxRecDepth 100000 in
set_option maxHeartbeats 4000000 in
theorem ct_refund_ok (l : Launch) (D : va_G) (Y : Nat → Nat) (A : Nat → Prop) (o : Nat) (al : Nat → Nat) (mu : Rm) (x : Int32) (h1 : 0 ≤ x) (h2 : x ≤ mu.1 13 0 - 1) (hi : vp_in x 5400) (hr_ : ¬ r_part (mu.2 x.toNatClampNeg) 61 1 = 1) (ho : mu.1 0 0 / 30 - r_part (mu.2 x.toNatClampNeg) 47 7 ≤ 3) (hm : vp_in (r_part (mu.2 x.toNatClampNeg) 54 3) 6) (hl : vp_in (r_part (mu.2 x.toNatClampNeg) 57 3) 5) : CT l yX6_refund (Cond.code yX6_refund cX6_refund 2 (some .int)) 4 88 D Y A [.ref o, .int x] (WR D Y A o al mu) (fun _ : Unit => some (.int (r_price (((r_counts (rI mu 25 0 0) (mu.2 x.toNatClampNeg) (-1)).2 x.toNatClampNeg) ||| 2305843009213693952)))) (fun _ : Unit => WR D Y A o al (rR (r_counts (rI mu 25 0 0) (mu.2 x.toNatClampNeg) (-1)) x.toNatClampNeg (((r_counts (rI mu 25 0 0) (mu.2 x.toNatClampNeg) (-1)).2 x.toNatClampNeg) ||| 2305843009213693952))) noX 0 0 := by
  refine CT.of (by decide) (Nat.le_of_ble_eq_true rfl) ?_
  intro p_ e_ s_ m_ below_ meth_ c_ C0 K0 hr hlk htab hnm_
  refine k_aload_n C0 dX6_refund_0 0 rfl ?_
  refine k_iload_n C0 dX6_refund_1 1 rfl ?_
  refine k_callV C0 K0 dX6_refund_2 (ct_isSale1 l D Y A o al mu x h1 h2) gkX6_118 hyX6_isSale (fun H hV => r_recv K0 hV) rfl (by exact Nat.le_of_ble_eq_true rfl) ⟨Nat.le_of_ble_eq_true rfl, Nat.le_of_ble_eq_true rfl⟩ ⟨Nat.le_of_ble_eq_true rfl, Nat.le_of_ble_eq_true rfl⟩ (fun E => kX_no E) (fun u => ?_)
  refine k_if_ne C0 10 dX6_refund_5 (by decide) (fun _ => ?_) (fun zz => absurd zz (by decide))
  refine k_aload_n C0 dX6_refund_10 0 rfl ?_
  refine r_get C0 K0 14 dX6_refund_11 (tC 230 rfl rfl) (by decide) rfl rfl ?_
  refine k_iload_n C0 dX6_refund_14 1 rfl ?_
  refine r_lald C0 K0 dX6_refund_15 hi (v := mu.2 x.toNatClampNeg) rfl ?_
  refine k_bipush C0 61 dX6_refund_16 (by decide) ?_
  refine k_iconst C0 1 dX6_refund_18 (by decide) ?_
  refine k_callS C0 K0 dX6_refund_19 (ct_part l D Y A _ (mu.2 x.toNatClampNeg) (61 : Int32) (1 : Int32)) gkX6_81 hyX6_part rfl (by exact Nat.le_of_ble_eq_true rfl) ⟨Nat.le_of_ble_eq_true rfl, Nat.le_of_ble_eq_true rfl⟩ ⟨Nat.le_of_ble_eq_true rfl, Nat.le_of_ble_eq_true rfl⟩ (fun E => kX_no E) (fun u => ?_)
  refine k_iconst C0 1 dX6_refund_22 (by decide) ?_
  refine k_icmp_eq C0 51 dX6_refund_23 (by decide) (fun zz => absurd zz hr_) (fun _ => ?_)
  refine k_aload_n C0 dX6_refund_26 0 rfl ?_
  refine r_getI C0 K0 0 (mu.1 0 0) dX6_refund_27 (tC 216 rfl rfl) (by decide) rfl (rg_0 al _) (rI_tr (by decide) rfl) ?_
  refine k_bipush C0 30 dX6_refund_30 (by decide) ?_
  refine k_idiv C0 dX6_refund_32 (by decide) ?_
  refine k_aload_n C0 dX6_refund_33 0 rfl ?_
  refine r_get C0 K0 14 dX6_refund_34 (tC 230 rfl rfl) (by decide) rfl rfl ?_
  refine k_iload_n C0 dX6_refund_37 1 rfl ?_
  refine r_lald C0 K0 dX6_refund_38 hi (v := mu.2 x.toNatClampNeg) rfl ?_
  refine k_bipush C0 47 dX6_refund_39 (by decide) ?_
  refine k_bipush C0 7 dX6_refund_41 (by decide) ?_
  refine k_callS C0 K0 dX6_refund_43 (ct_part l D Y A _ (mu.2 x.toNatClampNeg) (47 : Int32) (7 : Int32)) gkX6_81 hyX6_part rfl (by exact Nat.le_of_ble_eq_true rfl) ⟨Nat.le_of_ble_eq_true rfl, Nat.le_of_ble_eq_true rfl⟩ ⟨Nat.le_of_ble_eq_true rfl, Nat.le_of_ble_eq_true rfl⟩ (fun E => kX_no E) (fun u => ?_)
  refine k_isub C0 dX6_refund_46 ?_
  refine k_iconst C0 3 dX6_refund_47 (by decide) ?_
  refine k_icmp_le C0 57 dX6_refund_48 (by decide) (fun _ => ?_) (fun zz => absurd ho zz)
  refine k_aload_n C0 dX6_refund_57 0 rfl ?_
  refine k_aload_n C0 dX6_refund_58 0 rfl ?_
  refine r_get C0 K0 14 dX6_refund_59 (tC 230 rfl rfl) (by decide) rfl rfl ?_
  refine k_iload_n C0 dX6_refund_62 1 rfl ?_
  refine r_lald C0 K0 dX6_refund_63 hi (v := mu.2 x.toNatClampNeg) rfl ?_
  refine k_iconst C0 (-1) dX6_refund_64 (by decide) ?_
  refine k_callV C0 K0 dX6_refund_65 (ct_counts l D Y A o al (rI mu 25 0 0) (mu.2 x.toNatClampNeg) (-1) hm hl) gkX6_110 hyX6_counts (fun H hV => r_recv K0 hV) rfl (by exact Nat.le_of_ble_eq_true rfl) ⟨Nat.le_of_ble_eq_true rfl, Nat.le_of_ble_eq_true rfl⟩ ⟨Nat.le_of_ble_eq_true rfl, Nat.le_of_ble_eq_true rfl⟩ (fun E => kX_no E) (fun u => ?_)
  refine k_aload_n C0 dX6_refund_68 0 rfl ?_
  refine r_get C0 K0 14 dX6_refund_69 (tC 230 rfl rfl) (by decide) rfl rfl ?_
  refine k_iload_n C0 dX6_refund_72 1 rfl ?_
  refine k_dup2 C0 dX6_refund_73 rfl rfl ?_
  refine r_lald C0 K0 dX6_refund_74 hi (v := (r_counts (rI mu 25 0 0) (mu.2 x.toNatClampNeg) (-1)).2 x.toNatClampNeg) rfl ?_
  refine k_ldc2 C0 (v := 2305843009213693952) dX6_refund_75 (tD 120 rfl rfl) ?_
  refine k_lor C0 dX6_refund_78 ?_
  refine r_last C0 K0 dX6_refund_79 hi ?_
  refine k_aload_n C0 dX6_refund_80 0 rfl ?_
  refine r_get C0 K0 14 dX6_refund_81 (tC 230 rfl rfl) (by decide) rfl rfl ?_
  refine k_iload_n C0 dX6_refund_84 1 rfl ?_
  refine r_lald C0 K0 dX6_refund_85 hi (v := ((r_counts (rI mu 25 0 0) (mu.2 x.toNatClampNeg) (-1)).2 x.toNatClampNeg) ||| 2305843009213693952) (by exact pk_uLs) ?_
  refine k_callS C0 K0 dX6_refund_86 (ct_priceOf l D Y A _ (((r_counts (rI mu 25 0 0) (mu.2 x.toNatClampNeg) (-1)).2 x.toNatClampNeg) ||| 2305843009213693952)) gkX6_85 hyX6_priceOf rfl (by exact Nat.le_of_ble_eq_true rfl) ⟨Nat.le_of_ble_eq_true rfl, Nat.le_of_ble_eq_true rfl⟩ ⟨Nat.le_of_ble_eq_true rfl, Nat.le_of_ble_eq_true rfl⟩ (fun E => kX_no E) (fun u => ?_)
  exact k_iret C0 dX6_refund_89 hr hlk (Nat.le_of_ble_eq_true rfl) (Nat.le_of_ble_eq_true rfl) () rfl (fun H h => h)
set_option maxRecDepth 100000 in
set_option maxHeartbeats 4000000 in
theorem ct_addMaker_ok (l : Launch) (D : va_G) (Y : Nat → Nat) (A : Nat → Prop) (o : Nat) (al : Nat → Nat) (mu : Rm) (a : Int32) (a1 : 0 ≤ a) (a2 : a ≤ 1000000) (hn : ¬ mu.1 4 0 = 6) (hi : vp_in (mu.1 4 0) 6) : CT l yX6_addMaker (Cond.code yX6_addMaker cX6_addMaker 2 (some .int)) 1 22 D Y A [.ref o, .int a] (WR D Y A o al mu) (fun _ : Unit => some (.int (((mu.1 4 0) + 1) - 1))) (fun _ : Unit => WR D Y A o al (rI (rI (rI mu 25 0 0) 5 ((mu.1 4 0).toNatClampNeg) a) 4 0 ((mu.1 4 0) + 1))) noX 0 0 := by
  refine CT.of (by decide) (Nat.le_of_ble_eq_true rfl) ?_
  intro p_ e_ s_ m_ below_ meth_ c_ C0 K0 hr hlk htab hnm_
  refine k_aload_n C0 dX6_addMaker_0 0 rfl ?_
  refine k_iload_n C0 dX6_addMaker_1 1 rfl ?_
  refine k_iconst C0 0 dX6_addMaker_2 (by decide) ?_
  refine k_ldc C0 (v := 1000000) dX6_addMaker_3 (tD 71 rfl rfl) ?_
  refine k_callS C0 K0 dX6_addMaker_5 (ct_in1 l D Y A _ a (0 : Int32) (1000000 : Int32) a1 a2) gkX6_69 hyX6_in rfl (by exact Nat.le_of_ble_eq_true rfl) ⟨Nat.le_of_ble_eq_true rfl, Nat.le_of_ble_eq_true rfl⟩ ⟨Nat.le_of_ble_eq_true rfl, Nat.le_of_ble_eq_true rfl⟩ (fun E => kX_no E) (fun u => ?_)
  refine k_if_ne C0 15 dX6_addMaker_8 (by decide) (fun _ => ?_) (fun zz => absurd zz (by decide))
  refine k_aload_n C0 dX6_addMaker_15 0 rfl ?_
  refine r_getI C0 K0 4 (mu.1 4 0) dX6_addMaker_16 (tC 220 rfl rfl) (by decide) rfl (rg_4 al _) rfl ?_
  refine k_bipush C0 6 dX6_addMaker_19 (by decide) ?_
  refine k_icmp_ne C0 28 dX6_addMaker_21 (by decide) (fun _ => ?_) (fun zz => absurd zz hn)
  refine k_iconst C0 0 dX6_addMaker_28 (by decide) ?_
  refine r_putS C0 K0 25 dX6_addMaker_29 (tD 1 rfl rfl) (by decide) rfl rfl (by decide +kernel) (rs_25 al _ _) (by decide) ?_
  refine k_aload_n C0 dX6_addMaker_32 0 rfl ?_
  refine r_getI C0 K0 25 0 dX6_addMaker_33 (tD 1 rfl rfl) (by decide) rfl (rg_25 al _) rI_at ?_
  refine k_if_le C0 41 dX6_addMaker_36 (by decide) (fun _ => ?_) (fun zz => absurd (by decide) zz)
  refine k_aload_n C0 dX6_addMaker_41 0 rfl ?_
  refine r_get C0 K0 5 dX6_addMaker_42 (tC 221 rfl rfl) (by decide) rfl rfl ?_
  refine k_aload_n C0 dX6_addMaker_45 0 rfl ?_
  refine r_getI C0 K0 4 (mu.1 4 0) dX6_addMaker_46 (tC 220 rfl rfl) (by decide) rfl (rg_4 al _) (rI_tr (by decide) rfl) ?_
  refine k_iload_n C0 dX6_addMaker_49 1 rfl ?_
  refine r_iast C0 K0 5 dX6_addMaker_50 (by decide) hi ?_
  refine k_aload_n C0 dX6_addMaker_51 0 rfl ?_
  refine k_dup C0 dX6_addMaker_52 rfl ?_
  refine r_getI C0 K0 4 (mu.1 4 0) dX6_addMaker_53 (tC 220 rfl rfl) (by decide) rfl (rg_4 al _) (rI_tr (by decide) (rI_tr (by decide) rfl)) ?_
  refine k_iconst C0 1 dX6_addMaker_56 (by decide) ?_
  refine k_iadd C0 dX6_addMaker_57 ?_
  refine r_putS C0 K0 4 dX6_addMaker_58 (tC 220 rfl rfl) (by decide) rfl rfl (by decide +kernel) (rs_4 al _ _) (by decide) ?_
  refine k_aload_n C0 dX6_addMaker_61 0 rfl ?_
  refine r_getI C0 K0 4 ((mu.1 4 0) + 1) dX6_addMaker_62 (tC 220 rfl rfl) (by decide) rfl (rg_4 al _) rI_at ?_
  refine k_iconst C0 1 dX6_addMaker_65 (by decide) ?_
  refine k_isub C0 dX6_addMaker_66 ?_
  exact k_iret C0 dX6_addMaker_67 hr hlk (Nat.le_of_ble_eq_true rfl) (Nat.le_of_ble_eq_true rfl) () rfl (fun H h => h)
set_option maxRecDepth 100000 in
set_option maxHeartbeats 4000000 in
theorem ct_addMaker_1 (l : Launch) (D : va_G) (Y : Nat → Nat) (A : Nat → Prop) (o : Nat) (al : Nat → Nat) (mu : Rm) (a : Int32) (a1 : ¬ (0 ≤ a ∧ a ≤ 1000000)) : CT l yX6_addMaker (Cond.code yX6_addMaker cX6_addMaker 2 (some .int)) 1 22 D Y A [.ref o, .int a] (WR D Y A o al mu) (fun _ : Unit => some (.int 0)) (fun _ : Unit => WR D Y A o al (rI mu 25 0 1)) noX 0 0 := by
  refine CT.of (by decide) (Nat.le_of_ble_eq_true rfl) ?_
  intro p_ e_ s_ m_ below_ meth_ c_ C0 K0 hr hlk htab hnm_
  refine k_aload_n C0 dX6_addMaker_0 0 rfl ?_
  refine k_iload_n C0 dX6_addMaker_1 1 rfl ?_
  refine k_iconst C0 0 dX6_addMaker_2 (by decide) ?_
  refine k_ldc C0 (v := 1000000) dX6_addMaker_3 (tD 71 rfl rfl) ?_
  refine k_callS C0 K0 dX6_addMaker_5 (ct_in0 l D Y A _ a (0 : Int32) (1000000 : Int32) a1) gkX6_69 hyX6_in rfl (by exact Nat.le_of_ble_eq_true rfl) ⟨Nat.le_of_ble_eq_true rfl, Nat.le_of_ble_eq_true rfl⟩ ⟨Nat.le_of_ble_eq_true rfl, Nat.le_of_ble_eq_true rfl⟩ (fun E => kX_no E) (fun u => ?_)
  refine k_if_ne C0 15 dX6_addMaker_8 (by decide) (fun zz => absurd (by decide) zz) (fun _ => ?_)
  refine k_iconst C0 1 dX6_addMaker_11 (by decide) ?_
  refine k_goto C0 29 dX6_addMaker_12 (by decide) ?_
  refine r_putS C0 K0 25 dX6_addMaker_29 (tD 1 rfl rfl) (by decide) rfl rfl (by decide +kernel) (rs_25 al _ _) (by decide) ?_
  refine k_aload_n C0 dX6_addMaker_32 0 rfl ?_
  refine r_getI C0 K0 25 1 dX6_addMaker_33 (tD 1 rfl rfl) (by decide) rfl (rg_25 al _) rI_at ?_
  refine k_if_le C0 41 dX6_addMaker_36 (by decide) (fun zz => absurd zz (by decide)) (fun _ => ?_)
  refine k_iconst C0 0 dX6_addMaker_39 (by decide) ?_
  exact k_iret C0 dX6_addMaker_40 hr hlk (Nat.le_of_ble_eq_true rfl) (Nat.le_of_ble_eq_true rfl) () rfl (fun H h => h)
set_option maxRecDepth 100000 in
set_option maxHeartbeats 4000000 in
theorem ct_addMaker_2 (l : Launch) (D : va_G) (Y : Nat → Nat) (A : Nat → Prop) (o : Nat) (al : Nat → Nat) (mu : Rm) (a : Int32) (a1 : 0 ≤ a) (a2 : a ≤ 1000000) (hn : mu.1 4 0 = 6) : CT l yX6_addMaker (Cond.code yX6_addMaker cX6_addMaker 2 (some .int)) 1 22 D Y A [.ref o, .int a] (WR D Y A o al mu) (fun _ : Unit => some (.int 0)) (fun _ : Unit => WR D Y A o al (rI mu 25 0 2)) noX 0 0 := by
  refine CT.of (by decide) (Nat.le_of_ble_eq_true rfl) ?_
  intro p_ e_ s_ m_ below_ meth_ c_ C0 K0 hr hlk htab hnm_
  refine k_aload_n C0 dX6_addMaker_0 0 rfl ?_
  refine k_iload_n C0 dX6_addMaker_1 1 rfl ?_
  refine k_iconst C0 0 dX6_addMaker_2 (by decide) ?_
  refine k_ldc C0 (v := 1000000) dX6_addMaker_3 (tD 71 rfl rfl) ?_
  refine k_callS C0 K0 dX6_addMaker_5 (ct_in1 l D Y A _ a (0 : Int32) (1000000 : Int32) a1 a2) gkX6_69 hyX6_in rfl (by exact Nat.le_of_ble_eq_true rfl) ⟨Nat.le_of_ble_eq_true rfl, Nat.le_of_ble_eq_true rfl⟩ ⟨Nat.le_of_ble_eq_true rfl, Nat.le_of_ble_eq_true rfl⟩ (fun E => kX_no E) (fun u => ?_)
  refine k_if_ne C0 15 dX6_addMaker_8 (by decide) (fun _ => ?_) (fun zz => absurd zz (by decide))
  refine k_aload_n C0 dX6_addMaker_15 0 rfl ?_
  refine r_getI C0 K0 4 (mu.1 4 0) dX6_addMaker_16 (tC 220 rfl rfl) (by decide) rfl (rg_4 al _) rfl ?_
  refine k_bipush C0 6 dX6_addMaker_19 (by decide) ?_
  refine k_icmp_ne C0 28 dX6_addMaker_21 (by decide) (fun zz => absurd hn zz) (fun _ => ?_)
  refine k_iconst C0 2 dX6_addMaker_24 (by decide) ?_
  refine k_goto C0 29 dX6_addMaker_25 (by decide) ?_
  refine r_putS C0 K0 25 dX6_addMaker_29 (tD 1 rfl rfl) (by decide) rfl rfl (by decide +kernel) (rs_25 al _ _) (by decide) ?_
  refine k_aload_n C0 dX6_addMaker_32 0 rfl ?_
  refine r_getI C0 K0 25 2 dX6_addMaker_33 (tD 1 rfl rfl) (by decide) rfl (rg_25 al _) rI_at ?_
  refine k_if_le C0 41 dX6_addMaker_36 (by decide) (fun zz => absurd zz (by decide)) (fun _ => ?_)
  refine k_iconst C0 0 dX6_addMaker_39 (by decide) ?_
  exact k_iret C0 dX6_addMaker_40 hr hlk (Nat.le_of_ble_eq_true rfl) (Nat.le_of_ble_eq_true rfl) () rfl (fun H h => h)
set_option maxRecDepth 100000 in
set_option maxHeartbeats 4000000 in
theorem ct_addProduct_1 (l : Launch) (D : va_G) (Y : Nat → Nat) (A : Nat → Prop) (o : Nat) (al : Nat → Nat) (mu : Rm) (a b : Int32) (a1 : ¬ (0 ≤ a ∧ a ≤ mu.1 4 0 - 1)) : CT l yX6_addProduct (Cond.code yX6_addProduct cX6_addProduct 4 (some .int)) 1 22 D Y A [.ref o, .int a, .int b] (WR D Y A o al mu) (fun _ : Unit => some (.int 0)) (fun _ : Unit => WR D Y A o al (rI mu 25 0 1)) noX 0 0 := by
  refine CT.of (by decide) (Nat.le_of_ble_eq_true rfl) ?_
  intro p_ e_ s_ m_ below_ meth_ c_ C0 K0 hr hlk htab hnm_
  refine k_aload_n C0 dX6_addProduct_0 0 rfl ?_
  refine k_iload_n C0 dX6_addProduct_1 1 rfl ?_
  refine k_iconst C0 0 dX6_addProduct_2 (by decide) ?_
  refine k_aload_n C0 dX6_addProduct_3 0 rfl ?_
  refine r_getI C0 K0 4 (mu.1 4 0) dX6_addProduct_4 (tC 220 rfl rfl) (by decide) rfl (rg_4 al _) rfl ?_
  refine k_iconst C0 1 dX6_addProduct_7 (by decide) ?_
  refine k_isub C0 dX6_addProduct_8 ?_
  refine k_callS C0 K0 dX6_addProduct_9 (ct_in0 l D Y A _ a (0 : Int32) ((mu.1 4 0) - 1) a1) gkX6_69 hyX6_in rfl (by exact Nat.le_of_ble_eq_true rfl) ⟨Nat.le_of_ble_eq_true rfl, Nat.le_of_ble_eq_true rfl⟩ ⟨Nat.le_of_ble_eq_true rfl, Nat.le_of_ble_eq_true rfl⟩ (fun E => kX_no E) (fun u => ?_)
  refine k_if_ne C0 19 dX6_addProduct_12 (by decide) (fun zz => absurd (by decide) zz) (fun _ => ?_)
  refine k_iconst C0 1 dX6_addProduct_15 (by decide) ?_
  refine k_goto C0 47 dX6_addProduct_16 (by decide) ?_
  refine r_putS C0 K0 25 dX6_addProduct_47 (tD 1 rfl rfl) (by decide) rfl rfl (by decide +kernel) (rs_25 al _ _) (by decide) ?_
  refine k_aload_n C0 dX6_addProduct_50 0 rfl ?_
  refine r_getI C0 K0 25 1 dX6_addProduct_51 (tD 1 rfl rfl) (by decide) rfl (rg_25 al _) rI_at ?_
  refine k_if_le C0 59 dX6_addProduct_54 (by decide) (fun zz => absurd zz (by decide)) (fun _ => ?_)
  refine k_iconst C0 0 dX6_addProduct_57 (by decide) ?_
  exact k_iret C0 dX6_addProduct_58 hr hlk (Nat.le_of_ble_eq_true rfl) (Nat.le_of_ble_eq_true rfl) () rfl (fun H h => h)
set_option maxRecDepth 100000 in
set_option maxHeartbeats 4000000 in
theorem ct_addProduct_2 (l : Launch) (D : va_G) (Y : Nat → Nat) (A : Nat → Prop) (o : Nat) (al : Nat → Nat) (mu : Rm) (a b : Int32) (a1 : 0 ≤ a) (a2 : a ≤ mu.1 4 0 - 1) (b1 : ¬ (0 ≤ b ∧ b ≤ 100000)) : CT l yX6_addProduct (Cond.code yX6_addProduct cX6_addProduct 4 (some .int)) 1 22 D Y A [.ref o, .int a, .int b] (WR D Y A o al mu) (fun _ : Unit => some (.int 0)) (fun _ : Unit => WR D Y A o al (rI mu 25 0 2)) noX 0 0 := by
  refine CT.of (by decide) (Nat.le_of_ble_eq_true rfl) ?_
  intro p_ e_ s_ m_ below_ meth_ c_ C0 K0 hr hlk htab hnm_
  refine k_aload_n C0 dX6_addProduct_0 0 rfl ?_
  refine k_iload_n C0 dX6_addProduct_1 1 rfl ?_
  refine k_iconst C0 0 dX6_addProduct_2 (by decide) ?_
  refine k_aload_n C0 dX6_addProduct_3 0 rfl ?_
  refine r_getI C0 K0 4 (mu.1 4 0) dX6_addProduct_4 (tC 220 rfl rfl) (by decide) rfl (rg_4 al _) rfl ?_
  refine k_iconst C0 1 dX6_addProduct_7 (by decide) ?_
  refine k_isub C0 dX6_addProduct_8 ?_
  refine k_callS C0 K0 dX6_addProduct_9 (ct_in1 l D Y A _ a (0 : Int32) ((mu.1 4 0) - 1) a1 a2) gkX6_69 hyX6_in rfl (by exact Nat.le_of_ble_eq_true rfl) ⟨Nat.le_of_ble_eq_true rfl, Nat.le_of_ble_eq_true rfl⟩ ⟨Nat.le_of_ble_eq_true rfl, Nat.le_of_ble_eq_true rfl⟩ (fun E => kX_no E) (fun u => ?_)
  refine k_if_ne C0 19 dX6_addProduct_12 (by decide) (fun _ => ?_) (fun zz => absurd zz (by decide))
  refine k_iload_n C0 dX6_addProduct_19 2 rfl ?_
  refine k_iconst C0 0 dX6_addProduct_20 (by decide) ?_
  refine k_ldc C0 (v := 100000) dX6_addProduct_21 (tD 76 rfl rfl) ?_
  refine k_callS C0 K0 dX6_addProduct_23 (ct_in0 l D Y A _ b (0 : Int32) (100000 : Int32) b1) gkX6_69 hyX6_in rfl (by exact Nat.le_of_ble_eq_true rfl) ⟨Nat.le_of_ble_eq_true rfl, Nat.le_of_ble_eq_true rfl⟩ ⟨Nat.le_of_ble_eq_true rfl, Nat.le_of_ble_eq_true rfl⟩ (fun E => kX_no E) (fun u => ?_)
  refine k_if_ne C0 33 dX6_addProduct_26 (by decide) (fun zz => absurd (by decide) zz) (fun _ => ?_)
  refine k_iconst C0 2 dX6_addProduct_29 (by decide) ?_
  refine k_goto C0 47 dX6_addProduct_30 (by decide) ?_
  refine r_putS C0 K0 25 dX6_addProduct_47 (tD 1 rfl rfl) (by decide) rfl rfl (by decide +kernel) (rs_25 al _ _) (by decide) ?_
  refine k_aload_n C0 dX6_addProduct_50 0 rfl ?_
  refine r_getI C0 K0 25 2 dX6_addProduct_51 (tD 1 rfl rfl) (by decide) rfl (rg_25 al _) rI_at ?_
  refine k_if_le C0 59 dX6_addProduct_54 (by decide) (fun zz => absurd zz (by decide)) (fun _ => ?_)
  refine k_iconst C0 0 dX6_addProduct_57 (by decide) ?_
  exact k_iret C0 dX6_addProduct_58 hr hlk (Nat.le_of_ble_eq_true rfl) (Nat.le_of_ble_eq_true rfl) () rfl (fun H h => h)
set_option maxRecDepth 100000 in
set_option maxHeartbeats 4000000 in
theorem ct_addProduct_3 (l : Launch) (D : va_G) (Y : Nat → Nat) (A : Nat → Prop) (o : Nat) (al : Nat → Nat) (mu : Rm) (a b : Int32) (a1 : 0 ≤ a) (a2 : a ≤ mu.1 4 0 - 1) (b1 : 0 ≤ b) (b2 : b ≤ 100000) (hn : mu.1 10 0 = 20) : CT l yX6_addProduct (Cond.code yX6_addProduct cX6_addProduct 4 (some .int)) 1 22 D Y A [.ref o, .int a, .int b] (WR D Y A o al mu) (fun _ : Unit => some (.int 0)) (fun _ : Unit => WR D Y A o al (rI mu 25 0 3)) noX 0 0 := by
  refine CT.of (by decide) (Nat.le_of_ble_eq_true rfl) ?_
  intro p_ e_ s_ m_ below_ meth_ c_ C0 K0 hr hlk htab hnm_
  refine k_aload_n C0 dX6_addProduct_0 0 rfl ?_
  refine k_iload_n C0 dX6_addProduct_1 1 rfl ?_
  refine k_iconst C0 0 dX6_addProduct_2 (by decide) ?_
  refine k_aload_n C0 dX6_addProduct_3 0 rfl ?_
  refine r_getI C0 K0 4 (mu.1 4 0) dX6_addProduct_4 (tC 220 rfl rfl) (by decide) rfl (rg_4 al _) rfl ?_
  refine k_iconst C0 1 dX6_addProduct_7 (by decide) ?_
  refine k_isub C0 dX6_addProduct_8 ?_
  refine k_callS C0 K0 dX6_addProduct_9 (ct_in1 l D Y A _ a (0 : Int32) ((mu.1 4 0) - 1) a1 a2) gkX6_69 hyX6_in rfl (by exact Nat.le_of_ble_eq_true rfl) ⟨Nat.le_of_ble_eq_true rfl, Nat.le_of_ble_eq_true rfl⟩ ⟨Nat.le_of_ble_eq_true rfl, Nat.le_of_ble_eq_true rfl⟩ (fun E => kX_no E) (fun u => ?_)
  refine k_if_ne C0 19 dX6_addProduct_12 (by decide) (fun _ => ?_) (fun zz => absurd zz (by decide))
  refine k_iload_n C0 dX6_addProduct_19 2 rfl ?_
  refine k_iconst C0 0 dX6_addProduct_20 (by decide) ?_
  refine k_ldc C0 (v := 100000) dX6_addProduct_21 (tD 76 rfl rfl) ?_
  refine k_callS C0 K0 dX6_addProduct_23 (ct_in1 l D Y A _ b (0 : Int32) (100000 : Int32) b1 b2) gkX6_69 hyX6_in rfl (by exact Nat.le_of_ble_eq_true rfl) ⟨Nat.le_of_ble_eq_true rfl, Nat.le_of_ble_eq_true rfl⟩ ⟨Nat.le_of_ble_eq_true rfl, Nat.le_of_ble_eq_true rfl⟩ (fun E => kX_no E) (fun u => ?_)
  refine k_if_ne C0 33 dX6_addProduct_26 (by decide) (fun _ => ?_) (fun zz => absurd zz (by decide))
  refine k_aload_n C0 dX6_addProduct_33 0 rfl ?_
  refine r_getI C0 K0 10 (mu.1 10 0) dX6_addProduct_34 (tC 226 rfl rfl) (by decide) rfl (rg_10 al _) rfl ?_
  refine k_bipush C0 20 dX6_addProduct_37 (by decide) ?_
  refine k_icmp_ne C0 46 dX6_addProduct_39 (by decide) (fun zz => absurd hn zz) (fun _ => ?_)
  refine k_iconst C0 3 dX6_addProduct_42 (by decide) ?_
  refine k_goto C0 47 dX6_addProduct_43 (by decide) ?_
  refine r_putS C0 K0 25 dX6_addProduct_47 (tD 1 rfl rfl) (by decide) rfl rfl (by decide +kernel) (rs_25 al _ _) (by decide) ?_
  refine k_aload_n C0 dX6_addProduct_50 0 rfl ?_
  refine r_getI C0 K0 25 3 dX6_addProduct_51 (tD 1 rfl rfl) (by decide) rfl (rg_25 al _) rI_at ?_
  refine k_if_le C0 59 dX6_addProduct_54 (by decide) (fun zz => absurd zz (by decide)) (fun _ => ?_)
  refine k_iconst C0 0 dX6_addProduct_57 (by decide) ?_
  exact k_iret C0 dX6_addProduct_58 hr hlk (Nat.le_of_ble_eq_true rfl) (Nat.le_of_ble_eq_true rfl) () rfl (fun H h => h)
set_option maxRecDepth 100000 in
set_option maxHeartbeats 4000000 in
theorem ct_setPrice_ok (l : Launch) (D : va_G) (Y : Nat → Nat) (A : Nat → Prop) (o : Nat) (al : Nat → Nat) (mu : Rm) (a b v : Int32) (a1 : 0 ≤ a) (a2 : a ≤ mu.1 10 0 - 1) (b1 : 0 ≤ b) (b2 : b ≤ 4) (v1 : 0 ≤ v) (v2 : v ≤ 100000) (hi : vp_in (5 * a + b) 100) : CT l yX6_setPrice (Cond.code yX6_setPrice cX6_setPrice 5 (some .int)) 1 22 D Y A [.ref o, .int a, .int b, .int v] (WR D Y A o al mu) (fun _ : Unit => some (.int (mu.1 12 (((5 * a) + b).toNatClampNeg)))) (fun _ : Unit => WR D Y A o al (rI (rI mu 25 0 0) 12 (((5 * a) + b).toNatClampNeg) v)) noX 0 0 := by
  refine CT.of (by decide) (Nat.le_of_ble_eq_true rfl) ?_
  intro p_ e_ s_ m_ below_ meth_ c_ C0 K0 hr hlk htab hnm_
  refine k_aload_n C0 dX6_setPrice_0 0 rfl ?_
  refine k_iload_n C0 dX6_setPrice_1 1 rfl ?_
  refine k_iconst C0 0 dX6_setPrice_2 (by decide) ?_
  refine k_aload_n C0 dX6_setPrice_3 0 rfl ?_
  refine r_getI C0 K0 10 (mu.1 10 0) dX6_setPrice_4 (tC 226 rfl rfl) (by decide) rfl (rg_10 al _) rfl ?_
  refine k_iconst C0 1 dX6_setPrice_7 (by decide) ?_
  refine k_isub C0 dX6_setPrice_8 ?_
  refine k_callS C0 K0 dX6_setPrice_9 (ct_in1 l D Y A _ a (0 : Int32) ((mu.1 10 0) - 1) a1 a2) gkX6_69 hyX6_in rfl (by exact Nat.le_of_ble_eq_true rfl) ⟨Nat.le_of_ble_eq_true rfl, Nat.le_of_ble_eq_true rfl⟩ ⟨Nat.le_of_ble_eq_true rfl, Nat.le_of_ble_eq_true rfl⟩ (fun E => kX_no E) (fun u => ?_)
  refine k_if_ne C0 19 dX6_setPrice_12 (by decide) (fun _ => ?_) (fun zz => absurd zz (by decide))
  refine k_iload_n C0 dX6_setPrice_19 2 rfl ?_
  refine k_iconst C0 0 dX6_setPrice_20 (by decide) ?_
  refine k_iconst C0 4 dX6_setPrice_21 (by decide) ?_
  refine k_callS C0 K0 dX6_setPrice_22 (ct_in1 l D Y A _ b (0 : Int32) (4 : Int32) b1 b2) gkX6_69 hyX6_in rfl (by exact Nat.le_of_ble_eq_true rfl) ⟨Nat.le_of_ble_eq_true rfl, Nat.le_of_ble_eq_true rfl⟩ ⟨Nat.le_of_ble_eq_true rfl, Nat.le_of_ble_eq_true rfl⟩ (fun E => kX_no E) (fun u => ?_)
  refine k_if_eq C0 38 dX6_setPrice_25 (by decide) (fun zz => absurd zz (by decide)) (fun _ => ?_)
  refine k_iload_n C0 dX6_setPrice_28 3 rfl ?_
  refine k_iconst C0 0 dX6_setPrice_29 (by decide) ?_
  refine k_ldc C0 (v := 100000) dX6_setPrice_30 (tD 76 rfl rfl) ?_
  refine k_callS C0 K0 dX6_setPrice_32 (ct_in1 l D Y A _ v (0 : Int32) (100000 : Int32) v1 v2) gkX6_69 hyX6_in rfl (by exact Nat.le_of_ble_eq_true rfl) ⟨Nat.le_of_ble_eq_true rfl, Nat.le_of_ble_eq_true rfl⟩ ⟨Nat.le_of_ble_eq_true rfl, Nat.le_of_ble_eq_true rfl⟩ (fun E => kX_no E) (fun u => ?_)
  refine k_if_ne C0 42 dX6_setPrice_35 (by decide) (fun _ => ?_) (fun zz => absurd zz (by decide))
  refine k_iconst C0 0 dX6_setPrice_42 (by decide) ?_
  refine r_putS C0 K0 25 dX6_setPrice_43 (tD 1 rfl rfl) (by decide) rfl rfl (by decide +kernel) (rs_25 al _ _) (by decide) ?_
  refine k_aload_n C0 dX6_setPrice_46 0 rfl ?_
  refine r_getI C0 K0 25 0 dX6_setPrice_47 (tD 1 rfl rfl) (by decide) rfl (rg_25 al _) rI_at ?_
  refine k_if_le C0 55 dX6_setPrice_50 (by decide) (fun _ => ?_) (fun zz => absurd (by decide) zz)
  refine k_aload_n C0 dX6_setPrice_55 0 rfl ?_
  refine r_get C0 K0 12 dX6_setPrice_56 (tC 228 rfl rfl) (by decide) rfl rfl ?_
  refine k_iconst C0 5 dX6_setPrice_59 (by decide) ?_
  refine k_iload_n C0 dX6_setPrice_60 1 rfl ?_
  refine k_imul C0 dX6_setPrice_61 ?_
  refine k_iload_n C0 dX6_setPrice_62 2 rfl ?_
  refine k_iadd C0 dX6_setPrice_63 ?_
  refine r_iald C0 K0 12 dX6_setPrice_64 (by decide) hi (v := mu.1 12 (((5 * a) + b).toNatClampNeg)) (rI_tr (by decide) rfl) ?_
  refine k_istore C0 [(4, _), (0, _), (1, _), (2, _), (3, _)] dX6_setPrice_65 (by decide) rfl ?_
  refine k_aload_n C0 dX6_setPrice_67 1 rfl ?_
  refine r_get C0 K0 12 dX6_setPrice_68 (tC 228 rfl rfl) (by decide) rfl rfl ?_
  refine k_iconst C0 5 dX6_setPrice_71 (by decide) ?_
  refine k_iload_n C0 dX6_setPrice_72 2 rfl ?_
  refine k_imul C0 dX6_setPrice_73 ?_
  refine k_iload_n C0 dX6_setPrice_74 3 rfl ?_
  refine k_iadd C0 dX6_setPrice_75 ?_
  refine k_iload_n C0 dX6_setPrice_76 4 rfl ?_
  refine r_iast C0 K0 12 dX6_setPrice_77 (by decide) hi ?_
  refine k_iload C0 dX6_setPrice_78 0 rfl ?_
  exact k_iret C0 dX6_setPrice_80 hr hlk (Nat.le_of_ble_eq_true rfl) (Nat.le_of_ble_eq_true rfl) () rfl (fun H h => h)
set_option maxRecDepth 100000 in
set_option maxHeartbeats 4000000 in
theorem ct_setPrice_1 (l : Launch) (D : va_G) (Y : Nat → Nat) (A : Nat → Prop) (o : Nat) (al : Nat → Nat) (mu : Rm) (a b v : Int32) (a1 : ¬ (0 ≤ a ∧ a ≤ mu.1 10 0 - 1)) : CT l yX6_setPrice (Cond.code yX6_setPrice cX6_setPrice 5 (some .int)) 1 22 D Y A [.ref o, .int a, .int b, .int v] (WR D Y A o al mu) (fun _ : Unit => some (.int 0)) (fun _ : Unit => WR D Y A o al (rI mu 25 0 1)) noX 0 0 := by
  refine CT.of (by decide) (Nat.le_of_ble_eq_true rfl) ?_
  intro p_ e_ s_ m_ below_ meth_ c_ C0 K0 hr hlk htab hnm_
  refine k_aload_n C0 dX6_setPrice_0 0 rfl ?_
  refine k_iload_n C0 dX6_setPrice_1 1 rfl ?_
  refine k_iconst C0 0 dX6_setPrice_2 (by decide) ?_
  refine k_aload_n C0 dX6_setPrice_3 0 rfl ?_
  refine r_getI C0 K0 10 (mu.1 10 0) dX6_setPrice_4 (tC 226 rfl rfl) (by decide) rfl (rg_10 al _) rfl ?_
  refine k_iconst C0 1 dX6_setPrice_7 (by decide) ?_
  refine k_isub C0 dX6_setPrice_8 ?_
  refine k_callS C0 K0 dX6_setPrice_9 (ct_in0 l D Y A _ a (0 : Int32) ((mu.1 10 0) - 1) a1) gkX6_69 hyX6_in rfl (by exact Nat.le_of_ble_eq_true rfl) ⟨Nat.le_of_ble_eq_true rfl, Nat.le_of_ble_eq_true rfl⟩ ⟨Nat.le_of_ble_eq_true rfl, Nat.le_of_ble_eq_true rfl⟩ (fun E => kX_no E) (fun u => ?_)
  refine k_if_ne C0 19 dX6_setPrice_12 (by decide) (fun zz => absurd (by decide) zz) (fun _ => ?_)
  refine k_iconst C0 1 dX6_setPrice_15 (by decide) ?_
  refine k_goto C0 43 dX6_setPrice_16 (by decide) ?_
  refine r_putS C0 K0 25 dX6_setPrice_43 (tD 1 rfl rfl) (by decide) rfl rfl (by decide +kernel) (rs_25 al _ _) (by decide) ?_
  refine k_aload_n C0 dX6_setPrice_46 0 rfl ?_
  refine r_getI C0 K0 25 1 dX6_setPrice_47 (tD 1 rfl rfl) (by decide) rfl (rg_25 al _) rI_at ?_
  refine k_if_le C0 55 dX6_setPrice_50 (by decide) (fun zz => absurd zz (by decide)) (fun _ => ?_)
  refine k_iconst C0 0 dX6_setPrice_53 (by decide) ?_
  exact k_iret C0 dX6_setPrice_54 hr hlk (Nat.le_of_ble_eq_true rfl) (Nat.le_of_ble_eq_true rfl) () rfl (fun H h => h)
set_option maxRecDepth 100000 in
set_option maxHeartbeats 4000000 in
theorem ct_setPrice_2a (l : Launch) (D : va_G) (Y : Nat → Nat) (A : Nat → Prop) (o : Nat) (al : Nat → Nat) (mu : Rm) (a b v : Int32) (a1 : 0 ≤ a) (a2 : a ≤ mu.1 10 0 - 1) (b1 : ¬ (0 ≤ b ∧ b ≤ 4)) : CT l yX6_setPrice (Cond.code yX6_setPrice cX6_setPrice 5 (some .int)) 1 22 D Y A [.ref o, .int a, .int b, .int v] (WR D Y A o al mu) (fun _ : Unit => some (.int 0)) (fun _ : Unit => WR D Y A o al (rI mu 25 0 2)) noX 0 0 := by
  refine CT.of (by decide) (Nat.le_of_ble_eq_true rfl) ?_
  intro p_ e_ s_ m_ below_ meth_ c_ C0 K0 hr hlk htab hnm_
  refine k_aload_n C0 dX6_setPrice_0 0 rfl ?_
  refine k_iload_n C0 dX6_setPrice_1 1 rfl ?_
  refine k_iconst C0 0 dX6_setPrice_2 (by decide) ?_
  refine k_aload_n C0 dX6_setPrice_3 0 rfl ?_
  refine r_getI C0 K0 10 (mu.1 10 0) dX6_setPrice_4 (tC 226 rfl rfl) (by decide) rfl (rg_10 al _) rfl ?_
  refine k_iconst C0 1 dX6_setPrice_7 (by decide) ?_
  refine k_isub C0 dX6_setPrice_8 ?_
  refine k_callS C0 K0 dX6_setPrice_9 (ct_in1 l D Y A _ a (0 : Int32) ((mu.1 10 0) - 1) a1 a2) gkX6_69 hyX6_in rfl (by exact Nat.le_of_ble_eq_true rfl) ⟨Nat.le_of_ble_eq_true rfl, Nat.le_of_ble_eq_true rfl⟩ ⟨Nat.le_of_ble_eq_true rfl, Nat.le_of_ble_eq_true rfl⟩ (fun E => kX_no E) (fun u => ?_)
  refine k_if_ne C0 19 dX6_setPrice_12 (by decide) (fun _ => ?_) (fun zz => absurd zz (by decide))
  refine k_iload_n C0 dX6_setPrice_19 2 rfl ?_
  refine k_iconst C0 0 dX6_setPrice_20 (by decide) ?_
  refine k_iconst C0 4 dX6_setPrice_21 (by decide) ?_
  refine k_callS C0 K0 dX6_setPrice_22 (ct_in0 l D Y A _ b (0 : Int32) (4 : Int32) b1) gkX6_69 hyX6_in rfl (by exact Nat.le_of_ble_eq_true rfl) ⟨Nat.le_of_ble_eq_true rfl, Nat.le_of_ble_eq_true rfl⟩ ⟨Nat.le_of_ble_eq_true rfl, Nat.le_of_ble_eq_true rfl⟩ (fun E => kX_no E) (fun u => ?_)
  refine k_if_eq C0 38 dX6_setPrice_25 (by decide) (fun _ => ?_) (fun zz => absurd (by decide) zz)
  refine k_iconst C0 2 dX6_setPrice_38 (by decide) ?_
  refine k_goto C0 43 dX6_setPrice_39 (by decide) ?_
  refine r_putS C0 K0 25 dX6_setPrice_43 (tD 1 rfl rfl) (by decide) rfl rfl (by decide +kernel) (rs_25 al _ _) (by decide) ?_
  refine k_aload_n C0 dX6_setPrice_46 0 rfl ?_
  refine r_getI C0 K0 25 2 dX6_setPrice_47 (tD 1 rfl rfl) (by decide) rfl (rg_25 al _) rI_at ?_
  refine k_if_le C0 55 dX6_setPrice_50 (by decide) (fun zz => absurd zz (by decide)) (fun _ => ?_)
  refine k_iconst C0 0 dX6_setPrice_53 (by decide) ?_
  exact k_iret C0 dX6_setPrice_54 hr hlk (Nat.le_of_ble_eq_true rfl) (Nat.le_of_ble_eq_true rfl) () rfl (fun H h => h)
set_option maxRecDepth 100000 in
set_option maxHeartbeats 4000000 in
theorem ct_setPrice_2b (l : Launch) (D : va_G) (Y : Nat → Nat) (A : Nat → Prop) (o : Nat) (al : Nat → Nat) (mu : Rm) (a b v : Int32) (a1 : 0 ≤ a) (a2 : a ≤ mu.1 10 0 - 1) (b1 : 0 ≤ b) (b2 : b ≤ 4) (v1 : ¬ (0 ≤ v ∧ v ≤ 100000)) : CT l yX6_setPrice (Cond.code yX6_setPrice cX6_setPrice 5 (some .int)) 1 22 D Y A [.ref o, .int a, .int b, .int v] (WR D Y A o al mu) (fun _ : Unit => some (.int 0)) (fun _ : Unit => WR D Y A o al (rI mu 25 0 2)) noX 0 0 := by
  refine CT.of (by decide) (Nat.le_of_ble_eq_true rfl) ?_
  intro p_ e_ s_ m_ below_ meth_ c_ C0 K0 hr hlk htab hnm_
  refine k_aload_n C0 dX6_setPrice_0 0 rfl ?_
  refine k_iload_n C0 dX6_setPrice_1 1 rfl ?_
  refine k_iconst C0 0 dX6_setPrice_2 (by decide) ?_
  refine k_aload_n C0 dX6_setPrice_3 0 rfl ?_
  refine r_getI C0 K0 10 (mu.1 10 0) dX6_setPrice_4 (tC 226 rfl rfl) (by decide) rfl (rg_10 al _) rfl ?_
  refine k_iconst C0 1 dX6_setPrice_7 (by decide) ?_
  refine k_isub C0 dX6_setPrice_8 ?_
  refine k_callS C0 K0 dX6_setPrice_9 (ct_in1 l D Y A _ a (0 : Int32) ((mu.1 10 0) - 1) a1 a2) gkX6_69 hyX6_in rfl (by exact Nat.le_of_ble_eq_true rfl) ⟨Nat.le_of_ble_eq_true rfl, Nat.le_of_ble_eq_true rfl⟩ ⟨Nat.le_of_ble_eq_true rfl, Nat.le_of_ble_eq_true rfl⟩ (fun E => kX_no E) (fun u => ?_)
  refine k_if_ne C0 19 dX6_setPrice_12 (by decide) (fun _ => ?_) (fun zz => absurd zz (by decide))
  refine k_iload_n C0 dX6_setPrice_19 2 rfl ?_
  refine k_iconst C0 0 dX6_setPrice_20 (by decide) ?_
  refine k_iconst C0 4 dX6_setPrice_21 (by decide) ?_
  refine k_callS C0 K0 dX6_setPrice_22 (ct_in1 l D Y A _ b (0 : Int32) (4 : Int32) b1 b2) gkX6_69 hyX6_in rfl (by exact Nat.le_of_ble_eq_true rfl) ⟨Nat.le_of_ble_eq_true rfl, Nat.le_of_ble_eq_true rfl⟩ ⟨Nat.le_of_ble_eq_true rfl, Nat.le_of_ble_eq_true rfl⟩ (fun E => kX_no E) (fun u => ?_)
  refine k_if_eq C0 38 dX6_setPrice_25 (by decide) (fun zz => absurd zz (by decide)) (fun _ => ?_)
  refine k_iload_n C0 dX6_setPrice_28 3 rfl ?_
  refine k_iconst C0 0 dX6_setPrice_29 (by decide) ?_
  refine k_ldc C0 (v := 100000) dX6_setPrice_30 (tD 76 rfl rfl) ?_
  refine k_callS C0 K0 dX6_setPrice_32 (ct_in0 l D Y A _ v (0 : Int32) (100000 : Int32) v1) gkX6_69 hyX6_in rfl (by exact Nat.le_of_ble_eq_true rfl) ⟨Nat.le_of_ble_eq_true rfl, Nat.le_of_ble_eq_true rfl⟩ ⟨Nat.le_of_ble_eq_true rfl, Nat.le_of_ble_eq_true rfl⟩ (fun E => kX_no E) (fun u => ?_)
  refine k_if_ne C0 42 dX6_setPrice_35 (by decide) (fun zz => absurd (by decide) zz) (fun _ => ?_)
  refine k_iconst C0 2 dX6_setPrice_38 (by decide) ?_
  refine k_goto C0 43 dX6_setPrice_39 (by decide) ?_
  refine r_putS C0 K0 25 dX6_setPrice_43 (tD 1 rfl rfl) (by decide) rfl rfl (by decide +kernel) (rs_25 al _ _) (by decide) ?_
  refine k_aload_n C0 dX6_setPrice_46 0 rfl ?_
  refine r_getI C0 K0 25 2 dX6_setPrice_47 (tD 1 rfl rfl) (by decide) rfl (rg_25 al _) rI_at ?_
  refine k_if_le C0 55 dX6_setPrice_50 (by decide) (fun zz => absurd zz (by decide)) (fun _ => ?_)
  refine k_iconst C0 0 dX6_setPrice_53 (by decide) ?_
  exact k_iret C0 dX6_setPrice_54 hr hlk (Nat.le_of_ble_eq_true rfl) (Nat.le_of_ble_eq_true rfl) () rfl (fun H h => h)
set_option maxRecDepth 100000 in
set_option maxHeartbeats 4000000 in
theorem ct_subscribe_ok (l : Launch) (D : va_G) (Y : Nat → Nat) (A : Nat → Prop) (o : Nat) (al : Nat → Nat) (mu : Rm) (a b dd h : Int32) (a1 : 0 ≤ a) (a2 : a ≤ mu.1 10 0 - 1) (b1 : 0 ≤ b) (b2 : b ≤ 4) (d1 : 1 ≤ dd) (d2 : dd ≤ 60) (hn : ¬ mu.1 15 0 = 40) (hi : vp_in (mu.1 15 0) 40) : CT l yX6_subscribe (Cond.code yX6_subscribe cX6_subscribe 5 (some .int)) 1 22 D Y A [.ref o, .int a, .int b, .int dd, .int h] (WR D Y A o al mu) (fun _ : Unit => some (.int (((mu.1 15 0) + 1) - 1))) (fun _ : Unit => WR D Y A o al (rI (rI (rI (rI (rI (rI (rI (rI (rI mu 25 0 0) 16 (mu.1 15 0).toNatClampNeg a) 17 (mu.1 15 0).toNatClampNeg b) 18 (mu.1 15 0).toNatClampNeg (mu.1 0 0 + dd)) 19 (mu.1 15 0).toNatClampNeg 0) 20 (mu.1 15 0).toNatClampNeg 0) 21 (mu.1 15 0).toNatClampNeg (if h = 0 then 0 else 1)) 22 (mu.1 15 0).toNatClampNeg 0) 15 0 (mu.1 15 0 + 1))) noX 0 0 := by
  refine CT.of (by decide) (Nat.le_of_ble_eq_true rfl) ?_
  intro p_ e_ s_ m_ below_ meth_ c_ C0 K0 hr hlk htab hnm_
  refine k_aload_n C0 dX6_subscribe_0 0 rfl ?_
  refine k_iload_n C0 dX6_subscribe_1 1 rfl ?_
  refine k_iconst C0 0 dX6_subscribe_2 (by decide) ?_
  refine k_aload_n C0 dX6_subscribe_3 0 rfl ?_
  refine r_getI C0 K0 10 (mu.1 10 0) dX6_subscribe_4 (tC 226 rfl rfl) (by decide) rfl (rg_10 al _) rfl ?_
  refine k_iconst C0 1 dX6_subscribe_7 (by decide) ?_
  refine k_isub C0 dX6_subscribe_8 ?_
  refine k_callS C0 K0 dX6_subscribe_9 (ct_in1 l D Y A _ a (0 : Int32) ((mu.1 10 0) - 1) a1 a2) gkX6_69 hyX6_in rfl (by exact Nat.le_of_ble_eq_true rfl) ⟨Nat.le_of_ble_eq_true rfl, Nat.le_of_ble_eq_true rfl⟩ ⟨Nat.le_of_ble_eq_true rfl, Nat.le_of_ble_eq_true rfl⟩ (fun E => kX_no E) (fun u => ?_)
  refine k_if_ne C0 19 dX6_subscribe_12 (by decide) (fun _ => ?_) (fun zz => absurd zz (by decide))
  refine k_iload_n C0 dX6_subscribe_19 2 rfl ?_
  refine k_iconst C0 0 dX6_subscribe_20 (by decide) ?_
  refine k_iconst C0 4 dX6_subscribe_21 (by decide) ?_
  refine k_callS C0 K0 dX6_subscribe_22 (ct_in1 l D Y A _ b (0 : Int32) (4 : Int32) b1 b2) gkX6_69 hyX6_in rfl (by exact Nat.le_of_ble_eq_true rfl) ⟨Nat.le_of_ble_eq_true rfl, Nat.le_of_ble_eq_true rfl⟩ ⟨Nat.le_of_ble_eq_true rfl, Nat.le_of_ble_eq_true rfl⟩ (fun E => kX_no E) (fun u => ?_)
  refine k_if_eq C0 38 dX6_subscribe_25 (by decide) (fun zz => absurd zz (by decide)) (fun _ => ?_)
  refine k_iload_n C0 dX6_subscribe_28 3 rfl ?_
  refine k_iconst C0 1 dX6_subscribe_29 (by decide) ?_
  refine k_bipush C0 60 dX6_subscribe_30 (by decide) ?_
  refine k_callS C0 K0 dX6_subscribe_32 (ct_in1 l D Y A _ dd (1 : Int32) (60 : Int32) d1 d2) gkX6_69 hyX6_in rfl (by exact Nat.le_of_ble_eq_true rfl) ⟨Nat.le_of_ble_eq_true rfl, Nat.le_of_ble_eq_true rfl⟩ ⟨Nat.le_of_ble_eq_true rfl, Nat.le_of_ble_eq_true rfl⟩ (fun E => kX_no E) (fun u => ?_)
  refine k_if_ne C0 42 dX6_subscribe_35 (by decide) (fun _ => ?_) (fun zz => absurd zz (by decide))
  refine k_aload_n C0 dX6_subscribe_42 0 rfl ?_
  refine r_getI C0 K0 15 (mu.1 15 0) dX6_subscribe_43 (tC 231 rfl rfl) (by decide) rfl (rg_15 al _) rfl ?_
  refine k_bipush C0 40 dX6_subscribe_46 (by decide) ?_
  refine k_icmp_ne C0 55 dX6_subscribe_48 (by decide) (fun _ => ?_) (fun zz => absurd zz hn)
  refine k_iconst C0 0 dX6_subscribe_55 (by decide) ?_
  refine r_putS C0 K0 25 dX6_subscribe_56 (tD 1 rfl rfl) (by decide) rfl rfl (by decide +kernel) (rs_25 al _ _) (by decide) ?_
  refine k_aload_n C0 dX6_subscribe_59 0 rfl ?_
  refine r_getI C0 K0 25 0 dX6_subscribe_60 (tD 1 rfl rfl) (by decide) rfl (rg_25 al _) rI_at ?_
  refine k_if_le C0 68 dX6_subscribe_63 (by decide) (fun _ => ?_) (fun zz => absurd (by decide) zz)
  refine k_aload_n C0 dX6_subscribe_68 0 rfl ?_
  refine r_get C0 K0 16 dX6_subscribe_69 (tC 232 rfl rfl) (by decide) rfl rfl ?_
  refine k_aload_n C0 dX6_subscribe_72 0 rfl ?_
  refine r_getI C0 K0 15 (mu.1 15 0) dX6_subscribe_73 (tC 231 rfl rfl) (by decide) rfl (rg_15 al _) (rI_tr (by decide) rfl) ?_
  refine k_iload_n C0 dX6_subscribe_76 1 rfl ?_
  refine r_iast C0 K0 16 dX6_subscribe_77 (by decide) hi ?_
  refine k_aload_n C0 dX6_subscribe_78 0 rfl ?_
  refine r_get C0 K0 17 dX6_subscribe_79 (tC 233 rfl rfl) (by decide) rfl rfl ?_
  refine k_aload_n C0 dX6_subscribe_82 0 rfl ?_
  refine r_getI C0 K0 15 (mu.1 15 0) dX6_subscribe_83 (tC 231 rfl rfl) (by decide) rfl (rg_15 al _) (rI_tr (by decide) (rI_tr (by decide) rfl)) ?_
  refine k_iload_n C0 dX6_subscribe_86 2 rfl ?_
  refine r_iast C0 K0 17 dX6_subscribe_87 (by decide) hi ?_
  refine k_aload_n C0 dX6_subscribe_88 0 rfl ?_
  refine r_get C0 K0 18 dX6_subscribe_89 (tC 234 rfl rfl) (by decide) rfl rfl ?_
  refine k_aload_n C0 dX6_subscribe_92 0 rfl ?_
  refine r_getI C0 K0 15 (mu.1 15 0) dX6_subscribe_93 (tC 231 rfl rfl) (by decide) rfl (rg_15 al _) (rI_tr (by decide) (rI_tr (by decide) (rI_tr (by decide) rfl))) ?_
  refine k_aload_n C0 dX6_subscribe_96 0 rfl ?_
  refine r_getI C0 K0 0 (mu.1 0 0) dX6_subscribe_97 (tC 216 rfl rfl) (by decide) rfl (rg_0 al _) (rI_tr (by decide) (rI_tr (by decide) (rI_tr (by decide) rfl))) ?_
  refine k_iload_n C0 dX6_subscribe_100 3 rfl ?_
  refine k_iadd C0 dX6_subscribe_101 ?_
  refine r_iast C0 K0 18 dX6_subscribe_102 (by decide) hi ?_
  refine k_aload_n C0 dX6_subscribe_103 0 rfl ?_
  refine r_get C0 K0 19 dX6_subscribe_104 (tC 235 rfl rfl) (by decide) rfl rfl ?_
  refine k_aload_n C0 dX6_subscribe_107 0 rfl ?_
  refine r_getI C0 K0 15 (mu.1 15 0) dX6_subscribe_108 (tC 231 rfl rfl) (by decide) rfl (rg_15 al _) (rI_tr (by decide) (rI_tr (by decide) (rI_tr (by decide) (rI_tr (by decide) rfl)))) ?_
  refine k_iconst C0 0 dX6_subscribe_111 (by decide) ?_
  refine r_iast C0 K0 19 dX6_subscribe_112 (by decide) hi ?_
  refine k_aload_n C0 dX6_subscribe_113 0 rfl ?_
  refine r_get C0 K0 20 dX6_subscribe_114 (tC 236 rfl rfl) (by decide) rfl rfl ?_
  refine k_aload_n C0 dX6_subscribe_117 0 rfl ?_
  refine r_getI C0 K0 15 (mu.1 15 0) dX6_subscribe_118 (tC 231 rfl rfl) (by decide) rfl (rg_15 al _) (rI_tr (by decide) (rI_tr (by decide) (rI_tr (by decide) (rI_tr (by decide) (rI_tr (by decide) rfl))))) ?_
  refine k_iconst C0 0 dX6_subscribe_121 (by decide) ?_
  refine r_iast C0 K0 20 dX6_subscribe_122 (by decide) hi ?_
  refine k_aload_n C0 dX6_subscribe_123 0 rfl ?_
  refine r_get C0 K0 21 dX6_subscribe_124 (tC 237 rfl rfl) (by decide) rfl rfl ?_
  refine k_aload_n C0 dX6_subscribe_127 0 rfl ?_
  refine r_getI C0 K0 15 (mu.1 15 0) dX6_subscribe_128 (tC 231 rfl rfl) (by decide) rfl (rg_15 al _) (rI_tr (by decide) (rI_tr (by decide) (rI_tr (by decide) (rI_tr (by decide) (rI_tr (by decide) (rI_tr (by decide) rfl)))))) ?_
  refine k_iload C0 dX6_subscribe_131 4 rfl ?_
  refine k_if_eq C0 140 dX6_subscribe_133 (by decide) (fun h133 => ?_) (fun h133 => ?_)
  ·
    refine k_iconst C0 0 dX6_subscribe_140 (by decide) ?_
    refine r_iast C0 K0 21 dX6_subscribe_141 (by decide) hi ?_
    refine k_aload_n C0 dX6_subscribe_142 0 rfl ?_
    refine r_get C0 K0 22 dX6_subscribe_143 (tC 238 rfl rfl) (by decide) rfl rfl ?_
    refine k_aload_n C0 dX6_subscribe_146 0 rfl ?_
    refine r_getI C0 K0 15 (mu.1 15 0) dX6_subscribe_147 (tC 231 rfl rfl) (by decide) rfl (rg_15 al _) (rI_tr (by decide) (rI_tr (by decide) (rI_tr (by decide) (rI_tr (by decide) (rI_tr (by decide) (rI_tr (by decide) (rI_tr (by decide) rfl))))))) ?_
    refine k_iconst C0 0 dX6_subscribe_150 (by decide) ?_
    refine r_iast C0 K0 22 dX6_subscribe_151 (by decide) hi ?_
    refine k_aload_n C0 dX6_subscribe_152 0 rfl ?_
    refine k_dup C0 dX6_subscribe_153 rfl ?_
    refine r_getI C0 K0 15 (mu.1 15 0) dX6_subscribe_154 (tC 231 rfl rfl) (by decide) rfl (rg_15 al _) (rI_tr (by decide) (rI_tr (by decide) (rI_tr (by decide) (rI_tr (by decide) (rI_tr (by decide) (rI_tr (by decide) (rI_tr (by decide) (rI_tr (by decide) rfl)))))))) ?_
    refine k_iconst C0 1 dX6_subscribe_157 (by decide) ?_
    refine k_iadd C0 dX6_subscribe_158 ?_
    refine r_putS C0 K0 15 dX6_subscribe_159 (tC 231 rfl rfl) (by decide) rfl rfl (by decide +kernel) (rs_15 al _ _) (by decide) ?_
    refine k_aload_n C0 dX6_subscribe_162 0 rfl ?_
    refine r_getI C0 K0 15 ((mu.1 15 0) + 1) dX6_subscribe_163 (tC 231 rfl rfl) (by decide) rfl (rg_15 al _) rI_at ?_
    refine k_iconst C0 1 dX6_subscribe_166 (by decide) ?_
    refine k_isub C0 dX6_subscribe_167 ?_
    exact k_iret C0 dX6_subscribe_168 hr hlk (Nat.le_of_ble_eq_true rfl) (Nat.le_of_ble_eq_true rfl) () rfl (by first | (rw [if_pos h133]; exact fun H h => h) | (rw [if_neg h133]; exact fun H h => h))
  ·
    refine k_iconst C0 1 dX6_subscribe_136 (by decide) ?_
    refine k_goto C0 141 dX6_subscribe_137 (by decide) ?_
    refine r_iast C0 K0 21 dX6_subscribe_141 (by decide) hi ?_
    refine k_aload_n C0 dX6_subscribe_142 0 rfl ?_
    refine r_get C0 K0 22 dX6_subscribe_143 (tC 238 rfl rfl) (by decide) rfl rfl ?_
    refine k_aload_n C0 dX6_subscribe_146 0 rfl ?_
    refine r_getI C0 K0 15 (mu.1 15 0) dX6_subscribe_147 (tC 231 rfl rfl) (by decide) rfl (rg_15 al _) (rI_tr (by decide) (rI_tr (by decide) (rI_tr (by decide) (rI_tr (by decide) (rI_tr (by decide) (rI_tr (by decide) (rI_tr (by decide) rfl))))))) ?_
    refine k_iconst C0 0 dX6_subscribe_150 (by decide) ?_
    refine r_iast C0 K0 22 dX6_subscribe_151 (by decide) hi ?_
    refine k_aload_n C0 dX6_subscribe_152 0 rfl ?_
    refine k_dup C0 dX6_subscribe_153 rfl ?_
    refine r_getI C0 K0 15 (mu.1 15 0) dX6_subscribe_154 (tC 231 rfl rfl) (by decide) rfl (rg_15 al _) (rI_tr (by decide) (rI_tr (by decide) (rI_tr (by decide) (rI_tr (by decide) (rI_tr (by decide) (rI_tr (by decide) (rI_tr (by decide) (rI_tr (by decide) rfl)))))))) ?_
    refine k_iconst C0 1 dX6_subscribe_157 (by decide) ?_
    refine k_iadd C0 dX6_subscribe_158 ?_
    refine r_putS C0 K0 15 dX6_subscribe_159 (tC 231 rfl rfl) (by decide) rfl rfl (by decide +kernel) (rs_15 al _ _) (by decide) ?_
    refine k_aload_n C0 dX6_subscribe_162 0 rfl ?_
    refine r_getI C0 K0 15 ((mu.1 15 0) + 1) dX6_subscribe_163 (tC 231 rfl rfl) (by decide) rfl (rg_15 al _) rI_at ?_
    refine k_iconst C0 1 dX6_subscribe_166 (by decide) ?_
    refine k_isub C0 dX6_subscribe_167 ?_
    exact k_iret C0 dX6_subscribe_168 hr hlk (Nat.le_of_ble_eq_true rfl) (Nat.le_of_ble_eq_true rfl) () rfl (by first | (rw [if_pos h133]; exact fun H h => h) | (rw [if_neg h133]; exact fun H h => h))
set_option maxRecDepth 100000 in
set_option maxHeartbeats 4000000 in
theorem ct_subscribe_1 (l : Launch) (D : va_G) (Y : Nat → Nat) (A : Nat → Prop) (o : Nat) (al : Nat → Nat) (mu : Rm) (a b dd h : Int32) (a1 : ¬ (0 ≤ a ∧ a ≤ mu.1 10 0 - 1)) : CT l yX6_subscribe (Cond.code yX6_subscribe cX6_subscribe 5 (some .int)) 1 22 D Y A [.ref o, .int a, .int b, .int dd, .int h] (WR D Y A o al mu) (fun _ : Unit => some (.int 0)) (fun _ : Unit => WR D Y A o al (rI mu 25 0 1)) noX 0 0 := by
  refine CT.of (by decide) (Nat.le_of_ble_eq_true rfl) ?_
  intro p_ e_ s_ m_ below_ meth_ c_ C0 K0 hr hlk htab hnm_
  refine k_aload_n C0 dX6_subscribe_0 0 rfl ?_
  refine k_iload_n C0 dX6_subscribe_1 1 rfl ?_
  refine k_iconst C0 0 dX6_subscribe_2 (by decide) ?_
  refine k_aload_n C0 dX6_subscribe_3 0 rfl ?_
  refine r_getI C0 K0 10 (mu.1 10 0) dX6_subscribe_4 (tC 226 rfl rfl) (by decide) rfl (rg_10 al _) rfl ?_
  refine k_iconst C0 1 dX6_subscribe_7 (by decide) ?_
  refine k_isub C0 dX6_subscribe_8 ?_
  refine k_callS C0 K0 dX6_subscribe_9 (ct_in0 l D Y A _ a (0 : Int32) ((mu.1 10 0) - 1) a1) gkX6_69 hyX6_in rfl (by exact Nat.le_of_ble_eq_true rfl) ⟨Nat.le_of_ble_eq_true rfl, Nat.le_of_ble_eq_true rfl⟩ ⟨Nat.le_of_ble_eq_true rfl, Nat.le_of_ble_eq_true rfl⟩ (fun E => kX_no E) (fun u => ?_)
  refine k_if_ne C0 19 dX6_subscribe_12 (by decide) (fun zz => absurd (by decide) zz) (fun _ => ?_)
  refine k_iconst C0 1 dX6_subscribe_15 (by decide) ?_
  refine k_goto C0 56 dX6_subscribe_16 (by decide) ?_
  refine r_putS C0 K0 25 dX6_subscribe_56 (tD 1 rfl rfl) (by decide) rfl rfl (by decide +kernel) (rs_25 al _ _) (by decide) ?_
  refine k_aload_n C0 dX6_subscribe_59 0 rfl ?_
  refine r_getI C0 K0 25 1 dX6_subscribe_60 (tD 1 rfl rfl) (by decide) rfl (rg_25 al _) rI_at ?_
  refine k_if_le C0 68 dX6_subscribe_63 (by decide) (fun zz => absurd zz (by decide)) (fun _ => ?_)
  refine k_iconst C0 0 dX6_subscribe_66 (by decide) ?_
  exact k_iret C0 dX6_subscribe_67 hr hlk (Nat.le_of_ble_eq_true rfl) (Nat.le_of_ble_eq_true rfl) () rfl (fun H h => h)
set_option maxRecDepth 100000 in
set_option maxHeartbeats 4000000 in
theorem ct_subscribe_2a (l : Launch) (D : va_G) (Y : Nat → Nat) (A : Nat → Prop) (o : Nat) (al : Nat → Nat) (mu : Rm) (a b dd h : Int32) (a1 : 0 ≤ a) (a2 : a ≤ mu.1 10 0 - 1) (b1 : ¬ (0 ≤ b ∧ b ≤ 4)) : CT l yX6_subscribe (Cond.code yX6_subscribe cX6_subscribe 5 (some .int)) 1 22 D Y A [.ref o, .int a, .int b, .int dd, .int h] (WR D Y A o al mu) (fun _ : Unit => some (.int 0)) (fun _ : Unit => WR D Y A o al (rI mu 25 0 2)) noX 0 0 := by
  refine CT.of (by decide) (Nat.le_of_ble_eq_true rfl) ?_
  intro p_ e_ s_ m_ below_ meth_ c_ C0 K0 hr hlk htab hnm_
  refine k_aload_n C0 dX6_subscribe_0 0 rfl ?_
  refine k_iload_n C0 dX6_subscribe_1 1 rfl ?_
  refine k_iconst C0 0 dX6_subscribe_2 (by decide) ?_
  refine k_aload_n C0 dX6_subscribe_3 0 rfl ?_
  refine r_getI C0 K0 10 (mu.1 10 0) dX6_subscribe_4 (tC 226 rfl rfl) (by decide) rfl (rg_10 al _) rfl ?_
  refine k_iconst C0 1 dX6_subscribe_7 (by decide) ?_
  refine k_isub C0 dX6_subscribe_8 ?_
  refine k_callS C0 K0 dX6_subscribe_9 (ct_in1 l D Y A _ a (0 : Int32) ((mu.1 10 0) - 1) a1 a2) gkX6_69 hyX6_in rfl (by exact Nat.le_of_ble_eq_true rfl) ⟨Nat.le_of_ble_eq_true rfl, Nat.le_of_ble_eq_true rfl⟩ ⟨Nat.le_of_ble_eq_true rfl, Nat.le_of_ble_eq_true rfl⟩ (fun E => kX_no E) (fun u => ?_)
  refine k_if_ne C0 19 dX6_subscribe_12 (by decide) (fun _ => ?_) (fun zz => absurd zz (by decide))
  refine k_iload_n C0 dX6_subscribe_19 2 rfl ?_
  refine k_iconst C0 0 dX6_subscribe_20 (by decide) ?_
  refine k_iconst C0 4 dX6_subscribe_21 (by decide) ?_
  refine k_callS C0 K0 dX6_subscribe_22 (ct_in0 l D Y A _ b (0 : Int32) (4 : Int32) b1) gkX6_69 hyX6_in rfl (by exact Nat.le_of_ble_eq_true rfl) ⟨Nat.le_of_ble_eq_true rfl, Nat.le_of_ble_eq_true rfl⟩ ⟨Nat.le_of_ble_eq_true rfl, Nat.le_of_ble_eq_true rfl⟩ (fun E => kX_no E) (fun u => ?_)
  refine k_if_eq C0 38 dX6_subscribe_25 (by decide) (fun _ => ?_) (fun zz => absurd (by decide) zz)
  refine k_iconst C0 2 dX6_subscribe_38 (by decide) ?_
  refine k_goto C0 56 dX6_subscribe_39 (by decide) ?_
  refine r_putS C0 K0 25 dX6_subscribe_56 (tD 1 rfl rfl) (by decide) rfl rfl (by decide +kernel) (rs_25 al _ _) (by decide) ?_
  refine k_aload_n C0 dX6_subscribe_59 0 rfl ?_
  refine r_getI C0 K0 25 2 dX6_subscribe_60 (tD 1 rfl rfl) (by decide) rfl (rg_25 al _) rI_at ?_
  refine k_if_le C0 68 dX6_subscribe_63 (by decide) (fun zz => absurd zz (by decide)) (fun _ => ?_)
  refine k_iconst C0 0 dX6_subscribe_66 (by decide) ?_
  exact k_iret C0 dX6_subscribe_67 hr hlk (Nat.le_of_ble_eq_true rfl) (Nat.le_of_ble_eq_true rfl) () rfl (fun H h => h)
set_option maxRecDepth 100000 in
set_option maxHeartbeats 4000000 in
theorem ct_subscribe_2b (l : Launch) (D : va_G) (Y : Nat → Nat) (A : Nat → Prop) (o : Nat) (al : Nat → Nat) (mu : Rm) (a b dd h : Int32) (a1 : 0 ≤ a) (a2 : a ≤ mu.1 10 0 - 1) (b1 : 0 ≤ b) (b2 : b ≤ 4) (d1 : ¬ (1 ≤ dd ∧ dd ≤ 60)) : CT l yX6_subscribe (Cond.code yX6_subscribe cX6_subscribe 5 (some .int)) 1 22 D Y A [.ref o, .int a, .int b, .int dd, .int h] (WR D Y A o al mu) (fun _ : Unit => some (.int 0)) (fun _ : Unit => WR D Y A o al (rI mu 25 0 2)) noX 0 0 := by
  refine CT.of (by decide) (Nat.le_of_ble_eq_true rfl) ?_
  intro p_ e_ s_ m_ below_ meth_ c_ C0 K0 hr hlk htab hnm_
  refine k_aload_n C0 dX6_subscribe_0 0 rfl ?_
  refine k_iload_n C0 dX6_subscribe_1 1 rfl ?_
  refine k_iconst C0 0 dX6_subscribe_2 (by decide) ?_
  refine k_aload_n C0 dX6_subscribe_3 0 rfl ?_
  refine r_getI C0 K0 10 (mu.1 10 0) dX6_subscribe_4 (tC 226 rfl rfl) (by decide) rfl (rg_10 al _) rfl ?_
  refine k_iconst C0 1 dX6_subscribe_7 (by decide) ?_
  refine k_isub C0 dX6_subscribe_8 ?_
  refine k_callS C0 K0 dX6_subscribe_9 (ct_in1 l D Y A _ a (0 : Int32) ((mu.1 10 0) - 1) a1 a2) gkX6_69 hyX6_in rfl (by exact Nat.le_of_ble_eq_true rfl) ⟨Nat.le_of_ble_eq_true rfl, Nat.le_of_ble_eq_true rfl⟩ ⟨Nat.le_of_ble_eq_true rfl, Nat.le_of_ble_eq_true rfl⟩ (fun E => kX_no E) (fun u => ?_)
  refine k_if_ne C0 19 dX6_subscribe_12 (by decide) (fun _ => ?_) (fun zz => absurd zz (by decide))
  refine k_iload_n C0 dX6_subscribe_19 2 rfl ?_
  refine k_iconst C0 0 dX6_subscribe_20 (by decide) ?_
  refine k_iconst C0 4 dX6_subscribe_21 (by decide) ?_
  refine k_callS C0 K0 dX6_subscribe_22 (ct_in1 l D Y A _ b (0 : Int32) (4 : Int32) b1 b2) gkX6_69 hyX6_in rfl (by exact Nat.le_of_ble_eq_true rfl) ⟨Nat.le_of_ble_eq_true rfl, Nat.le_of_ble_eq_true rfl⟩ ⟨Nat.le_of_ble_eq_true rfl, Nat.le_of_ble_eq_true rfl⟩ (fun E => kX_no E) (fun u => ?_)
  refine k_if_eq C0 38 dX6_subscribe_25 (by decide) (fun zz => absurd zz (by decide)) (fun _ => ?_)
  refine k_iload_n C0 dX6_subscribe_28 3 rfl ?_
  refine k_iconst C0 1 dX6_subscribe_29 (by decide) ?_
  refine k_bipush C0 60 dX6_subscribe_30 (by decide) ?_
  refine k_callS C0 K0 dX6_subscribe_32 (ct_in0 l D Y A _ dd (1 : Int32) (60 : Int32) d1) gkX6_69 hyX6_in rfl (by exact Nat.le_of_ble_eq_true rfl) ⟨Nat.le_of_ble_eq_true rfl, Nat.le_of_ble_eq_true rfl⟩ ⟨Nat.le_of_ble_eq_true rfl, Nat.le_of_ble_eq_true rfl⟩ (fun E => kX_no E) (fun u => ?_)
  refine k_if_ne C0 42 dX6_subscribe_35 (by decide) (fun zz => absurd (by decide) zz) (fun _ => ?_)
  refine k_iconst C0 2 dX6_subscribe_38 (by decide) ?_
  refine k_goto C0 56 dX6_subscribe_39 (by decide) ?_
  refine r_putS C0 K0 25 dX6_subscribe_56 (tD 1 rfl rfl) (by decide) rfl rfl (by decide +kernel) (rs_25 al _ _) (by decide) ?_
  refine k_aload_n C0 dX6_subscribe_59 0 rfl ?_
  refine r_getI C0 K0 25 2 dX6_subscribe_60 (tD 1 rfl rfl) (by decide) rfl (rg_25 al _) rI_at ?_
  refine k_if_le C0 68 dX6_subscribe_63 (by decide) (fun zz => absurd zz (by decide)) (fun _ => ?_)
  refine k_iconst C0 0 dX6_subscribe_66 (by decide) ?_
  exact k_iret C0 dX6_subscribe_67 hr hlk (Nat.le_of_ble_eq_true rfl) (Nat.le_of_ble_eq_true rfl) () rfl (fun H h => h)
set_option maxRecDepth 100000 in
set_option maxHeartbeats 4000000 in
theorem ct_subscribe_3 (l : Launch) (D : va_G) (Y : Nat → Nat) (A : Nat → Prop) (o : Nat) (al : Nat → Nat) (mu : Rm) (a b dd h : Int32) (a1 : 0 ≤ a) (a2 : a ≤ mu.1 10 0 - 1) (b1 : 0 ≤ b) (b2 : b ≤ 4) (d1 : 1 ≤ dd) (d2 : dd ≤ 60) (hn : mu.1 15 0 = 40) : CT l yX6_subscribe (Cond.code yX6_subscribe cX6_subscribe 5 (some .int)) 1 22 D Y A [.ref o, .int a, .int b, .int dd, .int h] (WR D Y A o al mu) (fun _ : Unit => some (.int 0)) (fun _ : Unit => WR D Y A o al (rI mu 25 0 3)) noX 0 0 := by
  refine CT.of (by decide) (Nat.le_of_ble_eq_true rfl) ?_
  intro p_ e_ s_ m_ below_ meth_ c_ C0 K0 hr hlk htab hnm_
  refine k_aload_n C0 dX6_subscribe_0 0 rfl ?_
  refine k_iload_n C0 dX6_subscribe_1 1 rfl ?_
  refine k_iconst C0 0 dX6_subscribe_2 (by decide) ?_
  refine k_aload_n C0 dX6_subscribe_3 0 rfl ?_
  refine r_getI C0 K0 10 (mu.1 10 0) dX6_subscribe_4 (tC 226 rfl rfl) (by decide) rfl (rg_10 al _) rfl ?_
  refine k_iconst C0 1 dX6_subscribe_7 (by decide) ?_
  refine k_isub C0 dX6_subscribe_8 ?_
  refine k_callS C0 K0 dX6_subscribe_9 (ct_in1 l D Y A _ a (0 : Int32) ((mu.1 10 0) - 1) a1 a2) gkX6_69 hyX6_in rfl (by exact Nat.le_of_ble_eq_true rfl) ⟨Nat.le_of_ble_eq_true rfl, Nat.le_of_ble_eq_true rfl⟩ ⟨Nat.le_of_ble_eq_true rfl, Nat.le_of_ble_eq_true rfl⟩ (fun E => kX_no E) (fun u => ?_)
  refine k_if_ne C0 19 dX6_subscribe_12 (by decide) (fun _ => ?_) (fun zz => absurd zz (by decide))
  refine k_iload_n C0 dX6_subscribe_19 2 rfl ?_
  refine k_iconst C0 0 dX6_subscribe_20 (by decide) ?_
  refine k_iconst C0 4 dX6_subscribe_21 (by decide) ?_
  refine k_callS C0 K0 dX6_subscribe_22 (ct_in1 l D Y A _ b (0 : Int32) (4 : Int32) b1 b2) gkX6_69 hyX6_in rfl (by exact Nat.le_of_ble_eq_true rfl) ⟨Nat.le_of_ble_eq_true rfl, Nat.le_of_ble_eq_true rfl⟩ ⟨Nat.le_of_ble_eq_true rfl, Nat.le_of_ble_eq_true rfl⟩ (fun E => kX_no E) (fun u => ?_)
  refine k_if_eq C0 38 dX6_subscribe_25 (by decide) (fun zz => absurd zz (by decide)) (fun _ => ?_)
  refine k_iload_n C0 dX6_subscribe_28 3 rfl ?_
  refine k_iconst C0 1 dX6_subscribe_29 (by decide) ?_
  refine k_bipush C0 60 dX6_subscribe_30 (by decide) ?_
  refine k_callS C0 K0 dX6_subscribe_32 (ct_in1 l D Y A _ dd (1 : Int32) (60 : Int32) d1 d2) gkX6_69 hyX6_in rfl (by exact Nat.le_of_ble_eq_true rfl) ⟨Nat.le_of_ble_eq_true rfl, Nat.le_of_ble_eq_true rfl⟩ ⟨Nat.le_of_ble_eq_true rfl, Nat.le_of_ble_eq_true rfl⟩ (fun E => kX_no E) (fun u => ?_)
  refine k_if_ne C0 42 dX6_subscribe_35 (by decide) (fun _ => ?_) (fun zz => absurd zz (by decide))
  refine k_aload_n C0 dX6_subscribe_42 0 rfl ?_
  refine r_getI C0 K0 15 (mu.1 15 0) dX6_subscribe_43 (tC 231 rfl rfl) (by decide) rfl (rg_15 al _) rfl ?_
  refine k_bipush C0 40 dX6_subscribe_46 (by decide) ?_
  refine k_icmp_ne C0 55 dX6_subscribe_48 (by decide) (fun zz => absurd hn zz) (fun _ => ?_)
  refine k_iconst C0 3 dX6_subscribe_51 (by decide) ?_
  refine k_goto C0 56 dX6_subscribe_52 (by decide) ?_
  refine r_putS C0 K0 25 dX6_subscribe_56 (tD 1 rfl rfl) (by decide) rfl rfl (by decide +kernel) (rs_25 al _ _) (by decide) ?_
  refine k_aload_n C0 dX6_subscribe_59 0 rfl ?_
  refine r_getI C0 K0 25 3 dX6_subscribe_60 (tD 1 rfl rfl) (by decide) rfl (rg_25 al _) rI_at ?_
  refine k_if_le C0 68 dX6_subscribe_63 (by decide) (fun zz => absurd zz (by decide)) (fun _ => ?_)
  refine k_iconst C0 0 dX6_subscribe_66 (by decide) ?_
  exact k_iret C0 dX6_subscribe_67 hr hlk (Nat.le_of_ble_eq_true rfl) (Nat.le_of_ble_eq_true rfl) () rfl (fun H h => h)
set_option maxRecDepth 100000 in
set_option maxHeartbeats 4000000 in
theorem ct_move_1a (l : Launch) (D : va_G) (Y : Nat → Nat) (A : Nat → Prop) (o : Nat) (al : Nat → Nat) (mu : Rm) (a b : Int32) (a1 : ¬ (0 ≤ a ∧ a ≤ mu.1 15 0 - 1)) : CT l yX6_move (Cond.code yX6_move cX6_move 4 (some .int)) 1 22 D Y A [.ref o, .int a, .int b] (WR D Y A o al mu) (fun _ : Unit => some (.int 0)) (fun _ : Unit => WR D Y A o al (rI mu 25 0 1)) noX 0 0 := by
  refine CT.of (by decide) (Nat.le_of_ble_eq_true rfl) ?_
  intro p_ e_ s_ m_ below_ meth_ c_ C0 K0 hr hlk htab hnm_
  refine k_aload_n C0 dX6_move_0 0 rfl ?_
  refine k_iload_n C0 dX6_move_1 1 rfl ?_
  refine k_iconst C0 0 dX6_move_2 (by decide) ?_
  refine k_aload_n C0 dX6_move_3 0 rfl ?_
  refine r_getI C0 K0 15 (mu.1 15 0) dX6_move_4 (tC 231 rfl rfl) (by decide) rfl (rg_15 al _) rfl ?_
  refine k_iconst C0 1 dX6_move_7 (by decide) ?_
  refine k_isub C0 dX6_move_8 ?_
  refine k_callS C0 K0 dX6_move_9 (ct_in0 l D Y A _ a (0 : Int32) ((mu.1 15 0) - 1) a1) gkX6_69 hyX6_in rfl (by exact Nat.le_of_ble_eq_true rfl) ⟨Nat.le_of_ble_eq_true rfl, Nat.le_of_ble_eq_true rfl⟩ ⟨Nat.le_of_ble_eq_true rfl, Nat.le_of_ble_eq_true rfl⟩ (fun E => kX_no E) (fun u => ?_)
  refine k_if_eq C0 33 dX6_move_12 (by decide) (fun _ => ?_) (fun zz => absurd (by decide) zz)
  refine k_iconst C0 1 dX6_move_33 (by decide) ?_
  refine r_putS C0 K0 25 dX6_move_34 (tD 1 rfl rfl) (by decide) rfl rfl (by decide +kernel) (rs_25 al _ _) (by decide) ?_
  refine k_aload_n C0 dX6_move_37 0 rfl ?_
  refine r_getI C0 K0 25 1 dX6_move_38 (tD 1 rfl rfl) (by decide) rfl (rg_25 al _) rI_at ?_
  refine k_if_le C0 46 dX6_move_41 (by decide) (fun zz => absurd zz (by decide)) (fun _ => ?_)
  refine k_iconst C0 0 dX6_move_44 (by decide) ?_
  exact k_iret C0 dX6_move_45 hr hlk (Nat.le_of_ble_eq_true rfl) (Nat.le_of_ble_eq_true rfl) () rfl (fun H h => h)
set_option maxRecDepth 100000 in
set_option maxHeartbeats 4000000 in
theorem ct_move_1b (l : Launch) (D : va_G) (Y : Nat → Nat) (A : Nat → Prop) (o : Nat) (al : Nat → Nat) (mu : Rm) (a b : Int32) (a1 : 0 ≤ a) (a2 : a ≤ mu.1 15 0 - 1) (b1 : ¬ (0 ≤ b ∧ b ≤ mu.1 10 0 - 1)) : CT l yX6_move (Cond.code yX6_move cX6_move 4 (some .int)) 1 22 D Y A [.ref o, .int a, .int b] (WR D Y A o al mu) (fun _ : Unit => some (.int 0)) (fun _ : Unit => WR D Y A o al (rI mu 25 0 1)) noX 0 0 := by
  refine CT.of (by decide) (Nat.le_of_ble_eq_true rfl) ?_
  intro p_ e_ s_ m_ below_ meth_ c_ C0 K0 hr hlk htab hnm_
  refine k_aload_n C0 dX6_move_0 0 rfl ?_
  refine k_iload_n C0 dX6_move_1 1 rfl ?_
  refine k_iconst C0 0 dX6_move_2 (by decide) ?_
  refine k_aload_n C0 dX6_move_3 0 rfl ?_
  refine r_getI C0 K0 15 (mu.1 15 0) dX6_move_4 (tC 231 rfl rfl) (by decide) rfl (rg_15 al _) rfl ?_
  refine k_iconst C0 1 dX6_move_7 (by decide) ?_
  refine k_isub C0 dX6_move_8 ?_
  refine k_callS C0 K0 dX6_move_9 (ct_in1 l D Y A _ a (0 : Int32) ((mu.1 15 0) - 1) a1 a2) gkX6_69 hyX6_in rfl (by exact Nat.le_of_ble_eq_true rfl) ⟨Nat.le_of_ble_eq_true rfl, Nat.le_of_ble_eq_true rfl⟩ ⟨Nat.le_of_ble_eq_true rfl, Nat.le_of_ble_eq_true rfl⟩ (fun E => kX_no E) (fun u => ?_)
  refine k_if_eq C0 33 dX6_move_12 (by decide) (fun zz => absurd zz (by decide)) (fun _ => ?_)
  refine k_iload_n C0 dX6_move_15 2 rfl ?_
  refine k_iconst C0 0 dX6_move_16 (by decide) ?_
  refine k_aload_n C0 dX6_move_17 0 rfl ?_
  refine r_getI C0 K0 10 (mu.1 10 0) dX6_move_18 (tC 226 rfl rfl) (by decide) rfl (rg_10 al _) rfl ?_
  refine k_iconst C0 1 dX6_move_21 (by decide) ?_
  refine k_isub C0 dX6_move_22 ?_
  refine k_callS C0 K0 dX6_move_23 (ct_in0 l D Y A _ b (0 : Int32) ((mu.1 10 0) - 1) b1) gkX6_69 hyX6_in rfl (by exact Nat.le_of_ble_eq_true rfl) ⟨Nat.le_of_ble_eq_true rfl, Nat.le_of_ble_eq_true rfl⟩ ⟨Nat.le_of_ble_eq_true rfl, Nat.le_of_ble_eq_true rfl⟩ (fun E => kX_no E) (fun u => ?_)
  refine k_if_eq C0 33 dX6_move_26 (by decide) (fun _ => ?_) (fun zz => absurd (by decide) zz)
  refine k_iconst C0 1 dX6_move_33 (by decide) ?_
  refine r_putS C0 K0 25 dX6_move_34 (tD 1 rfl rfl) (by decide) rfl rfl (by decide +kernel) (rs_25 al _ _) (by decide) ?_
  refine k_aload_n C0 dX6_move_37 0 rfl ?_
  refine r_getI C0 K0 25 1 dX6_move_38 (tD 1 rfl rfl) (by decide) rfl (rg_25 al _) rI_at ?_
  refine k_if_le C0 46 dX6_move_41 (by decide) (fun zz => absurd zz (by decide)) (fun _ => ?_)
  refine k_iconst C0 0 dX6_move_44 (by decide) ?_
  exact k_iret C0 dX6_move_45 hr hlk (Nat.le_of_ble_eq_true rfl) (Nat.le_of_ble_eq_true rfl) () rfl (fun H h => h)
set_option maxRecDepth 100000 in
set_option maxHeartbeats 4000000 in
theorem ct_move_2a (l : Launch) (D : va_G) (Y : Nat → Nat) (A : Nat → Prop) (o : Nat) (al : Nat → Nat) (mu : Rm) (a b : Int32) (a1 : 0 ≤ a) (a2 : a ≤ mu.1 15 0 - 1) (b1 : 0 ≤ b) (b2 : b ≤ mu.1 10 0 - 1) (hi : vp_in a 40) (hs : mu.1 16 a.toNatClampNeg = b) : CT l yX6_move (Cond.code yX6_move cX6_move 4 (some .int)) 1 22 D Y A [.ref o, .int a, .int b] (WR D Y A o al mu) (fun _ : Unit => some (.int 0)) (fun _ : Unit => WR D Y A o al (rI (rI mu 25 0 0) 25 0 (2 : Int32))) noX 0 0 := by
  refine CT.of (by decide) (Nat.le_of_ble_eq_true rfl) ?_
  intro p_ e_ s_ m_ below_ meth_ c_ C0 K0 hr hlk htab hnm_
  refine k_aload_n C0 dX6_move_0 0 rfl ?_
  refine k_iload_n C0 dX6_move_1 1 rfl ?_
  refine k_iconst C0 0 dX6_move_2 (by decide) ?_
  refine k_aload_n C0 dX6_move_3 0 rfl ?_
  refine r_getI C0 K0 15 (mu.1 15 0) dX6_move_4 (tC 231 rfl rfl) (by decide) rfl (rg_15 al _) rfl ?_
  refine k_iconst C0 1 dX6_move_7 (by decide) ?_
  refine k_isub C0 dX6_move_8 ?_
  refine k_callS C0 K0 dX6_move_9 (ct_in1 l D Y A _ a (0 : Int32) ((mu.1 15 0) - 1) a1 a2) gkX6_69 hyX6_in rfl (by exact Nat.le_of_ble_eq_true rfl) ⟨Nat.le_of_ble_eq_true rfl, Nat.le_of_ble_eq_true rfl⟩ ⟨Nat.le_of_ble_eq_true rfl, Nat.le_of_ble_eq_true rfl⟩ (fun E => kX_no E) (fun u => ?_)
  refine k_if_eq C0 33 dX6_move_12 (by decide) (fun zz => absurd zz (by decide)) (fun _ => ?_)
  refine k_iload_n C0 dX6_move_15 2 rfl ?_
  refine k_iconst C0 0 dX6_move_16 (by decide) ?_
  refine k_aload_n C0 dX6_move_17 0 rfl ?_
  refine r_getI C0 K0 10 (mu.1 10 0) dX6_move_18 (tC 226 rfl rfl) (by decide) rfl (rg_10 al _) rfl ?_
  refine k_iconst C0 1 dX6_move_21 (by decide) ?_
  refine k_isub C0 dX6_move_22 ?_
  refine k_callS C0 K0 dX6_move_23 (ct_in1 l D Y A _ b (0 : Int32) ((mu.1 10 0) - 1) b1 b2) gkX6_69 hyX6_in rfl (by exact Nat.le_of_ble_eq_true rfl) ⟨Nat.le_of_ble_eq_true rfl, Nat.le_of_ble_eq_true rfl⟩ ⟨Nat.le_of_ble_eq_true rfl, Nat.le_of_ble_eq_true rfl⟩ (fun E => kX_no E) (fun u => ?_)
  refine k_if_eq C0 33 dX6_move_26 (by decide) (fun zz => absurd zz (by decide)) (fun _ => ?_)
  refine k_iconst C0 0 dX6_move_29 (by decide) ?_
  refine k_goto C0 34 dX6_move_30 (by decide) ?_
  refine r_putS C0 K0 25 dX6_move_34 (tD 1 rfl rfl) (by decide) rfl rfl (by decide +kernel) (rs_25 al _ _) (by decide) ?_
  refine k_aload_n C0 dX6_move_37 0 rfl ?_
  refine r_getI C0 K0 25 0 dX6_move_38 (tD 1 rfl rfl) (by decide) rfl (rg_25 al _) rI_at ?_
  refine k_if_le C0 46 dX6_move_41 (by decide) (fun _ => ?_) (fun zz => absurd (by decide) zz)
  refine k_aload_n C0 dX6_move_46 0 rfl ?_
  refine r_get C0 K0 16 dX6_move_47 (tC 232 rfl rfl) (by decide) rfl rfl ?_
  refine k_iload_n C0 dX6_move_50 1 rfl ?_
  refine r_iald C0 K0 16 dX6_move_51 (by decide) hi (v := mu.1 16 a.toNatClampNeg) (rI_tr (by decide) rfl) ?_
  refine k_istore_n C0 [(3, _), (0, _), (1, _), (2, _)] dX6_move_52 (by decide) rfl ?_
  refine k_iload_n C0 dX6_move_53 0 rfl ?_
  refine k_iload_n C0 dX6_move_54 3 rfl ?_
  refine k_icmp_eq C0 73 dX6_move_55 (by decide) (fun _ => ?_) (fun zz => absurd hs zz)
  refine k_aload_n C0 dX6_move_73 1 rfl ?_
  refine k_iconst C0 2 dX6_move_74 (by decide) ?_
  refine k_callV C0 K0 dX6_move_75 (ct_fails l D Y A o al (rI mu 25 0 0) (2 : Int32)) gkX6_122 hyX6_fails (fun H hV => r_recv K0 hV) rfl (by exact Nat.le_of_ble_eq_true rfl) ⟨Nat.le_of_ble_eq_true rfl, Nat.le_of_ble_eq_true rfl⟩ ⟨Nat.le_of_ble_eq_true rfl, Nat.le_of_ble_eq_true rfl⟩ (fun E => kX_no E) (fun u => ?_)
  exact k_iret C0 dX6_move_78 hr hlk (Nat.le_of_ble_eq_true rfl) (Nat.le_of_ble_eq_true rfl) () rfl (fun H h => h)
set_option maxRecDepth 100000 in
set_option maxHeartbeats 4000000 in
theorem ct_move_2b (l : Launch) (D : va_G) (Y : Nat → Nat) (A : Nat → Prop) (o : Nat) (al : Nat → Nat) (mu : Rm) (a b : Int32) (a1 : 0 ≤ a) (a2 : a ≤ mu.1 15 0 - 1) (b1 : 0 ≤ b) (b2 : b ≤ mu.1 10 0 - 1) (hi : vp_in a 40) (hj : vp_in (mu.1 16 a.toNatClampNeg) 20) (hb : vp_in b 20) (hs : ¬ mu.1 16 a.toNatClampNeg = b) (hm : ¬ mu.1 11 (mu.1 16 a.toNatClampNeg).toNatClampNeg = mu.1 11 b.toNatClampNeg) : CT l yX6_move (Cond.code yX6_move cX6_move 4 (some .int)) 1 22 D Y A [.ref o, .int a, .int b] (WR D Y A o al mu) (fun _ : Unit => some (.int 0)) (fun _ : Unit => WR D Y A o al (rI (rI mu 25 0 0) 25 0 (2 : Int32))) noX 0 0 := by
  refine CT.of (by decide) (Nat.le_of_ble_eq_true rfl) ?_
  intro p_ e_ s_ m_ below_ meth_ c_ C0 K0 hr hlk htab hnm_
  refine k_aload_n C0 dX6_move_0 0 rfl ?_
  refine k_iload_n C0 dX6_move_1 1 rfl ?_
  refine k_iconst C0 0 dX6_move_2 (by decide) ?_
  refine k_aload_n C0 dX6_move_3 0 rfl ?_
  refine r_getI C0 K0 15 (mu.1 15 0) dX6_move_4 (tC 231 rfl rfl) (by decide) rfl (rg_15 al _) rfl ?_
  refine k_iconst C0 1 dX6_move_7 (by decide) ?_
  refine k_isub C0 dX6_move_8 ?_
  refine k_callS C0 K0 dX6_move_9 (ct_in1 l D Y A _ a (0 : Int32) ((mu.1 15 0) - 1) a1 a2) gkX6_69 hyX6_in rfl (by exact Nat.le_of_ble_eq_true rfl) ⟨Nat.le_of_ble_eq_true rfl, Nat.le_of_ble_eq_true rfl⟩ ⟨Nat.le_of_ble_eq_true rfl, Nat.le_of_ble_eq_true rfl⟩ (fun E => kX_no E) (fun u => ?_)
  refine k_if_eq C0 33 dX6_move_12 (by decide) (fun zz => absurd zz (by decide)) (fun _ => ?_)
  refine k_iload_n C0 dX6_move_15 2 rfl ?_
  refine k_iconst C0 0 dX6_move_16 (by decide) ?_
  refine k_aload_n C0 dX6_move_17 0 rfl ?_
  refine r_getI C0 K0 10 (mu.1 10 0) dX6_move_18 (tC 226 rfl rfl) (by decide) rfl (rg_10 al _) rfl ?_
  refine k_iconst C0 1 dX6_move_21 (by decide) ?_
  refine k_isub C0 dX6_move_22 ?_
  refine k_callS C0 K0 dX6_move_23 (ct_in1 l D Y A _ b (0 : Int32) ((mu.1 10 0) - 1) b1 b2) gkX6_69 hyX6_in rfl (by exact Nat.le_of_ble_eq_true rfl) ⟨Nat.le_of_ble_eq_true rfl, Nat.le_of_ble_eq_true rfl⟩ ⟨Nat.le_of_ble_eq_true rfl, Nat.le_of_ble_eq_true rfl⟩ (fun E => kX_no E) (fun u => ?_)
  refine k_if_eq C0 33 dX6_move_26 (by decide) (fun zz => absurd zz (by decide)) (fun _ => ?_)
  refine k_iconst C0 0 dX6_move_29 (by decide) ?_
  refine k_goto C0 34 dX6_move_30 (by decide) ?_
  refine r_putS C0 K0 25 dX6_move_34 (tD 1 rfl rfl) (by decide) rfl rfl (by decide +kernel) (rs_25 al _ _) (by decide) ?_
  refine k_aload_n C0 dX6_move_37 0 rfl ?_
  refine r_getI C0 K0 25 0 dX6_move_38 (tD 1 rfl rfl) (by decide) rfl (rg_25 al _) rI_at ?_
  refine k_if_le C0 46 dX6_move_41 (by decide) (fun _ => ?_) (fun zz => absurd (by decide) zz)
  refine k_aload_n C0 dX6_move_46 0 rfl ?_
  refine r_get C0 K0 16 dX6_move_47 (tC 232 rfl rfl) (by decide) rfl rfl ?_
  refine k_iload_n C0 dX6_move_50 1 rfl ?_
  refine r_iald C0 K0 16 dX6_move_51 (by decide) hi (v := mu.1 16 a.toNatClampNeg) (rI_tr (by decide) rfl) ?_
  refine k_istore_n C0 [(3, _), (0, _), (1, _), (2, _)] dX6_move_52 (by decide) rfl ?_
  refine k_iload_n C0 dX6_move_53 0 rfl ?_
  refine k_iload_n C0 dX6_move_54 3 rfl ?_
  refine k_icmp_eq C0 73 dX6_move_55 (by decide) (fun zz => absurd zz hs) (fun _ => ?_)
  refine k_aload_n C0 dX6_move_58 1 rfl ?_
  refine r_get C0 K0 11 dX6_move_59 (tC 227 rfl rfl) (by decide) rfl rfl ?_
  refine k_iload_n C0 dX6_move_62 0 rfl ?_
  refine r_iald C0 K0 11 dX6_move_63 (by decide) hj (v := mu.1 11 ((mu.1 16 a.toNatClampNeg).toNatClampNeg)) (rI_tr (by decide) rfl) ?_
  refine k_aload_n C0 dX6_move_64 1 rfl ?_
  refine r_get C0 K0 11 dX6_move_65 (tC 227 rfl rfl) (by decide) rfl rfl ?_
  refine k_iload_n C0 dX6_move_68 3 rfl ?_
  refine r_iald C0 K0 11 dX6_move_69 (by decide) hb (v := mu.1 11 b.toNatClampNeg) (rI_tr (by decide) rfl) ?_
  refine k_icmp_eq C0 79 dX6_move_70 (by decide) (fun zz => absurd zz hm) (fun _ => ?_)
  refine k_aload_n C0 dX6_move_73 1 rfl ?_
  refine k_iconst C0 2 dX6_move_74 (by decide) ?_
  refine k_callV C0 K0 dX6_move_75 (ct_fails l D Y A o al (rI mu 25 0 0) (2 : Int32)) gkX6_122 hyX6_fails (fun H hV => r_recv K0 hV) rfl (by exact Nat.le_of_ble_eq_true rfl) ⟨Nat.le_of_ble_eq_true rfl, Nat.le_of_ble_eq_true rfl⟩ ⟨Nat.le_of_ble_eq_true rfl, Nat.le_of_ble_eq_true rfl⟩ (fun E => kX_no E) (fun u => ?_)
  exact k_iret C0 dX6_move_78 hr hlk (Nat.le_of_ble_eq_true rfl) (Nat.le_of_ble_eq_true rfl) () rfl (fun H h => h)
set_option maxRecDepth 100000 in
set_option maxHeartbeats 4000000 in
theorem ct_move_3 (l : Launch) (D : va_G) (Y : Nat → Nat) (A : Nat → Prop) (o : Nat) (al : Nat → Nat) (mu : Rm) (a b : Int32) (a1 : 0 ≤ a) (a2 : a ≤ mu.1 15 0 - 1) (b1 : 0 ≤ b) (b2 : b ≤ mu.1 10 0 - 1) (hi : vp_in a 40) (hj : vp_in (mu.1 16 a.toNatClampNeg) 20) (hb : vp_in b 20) (hs : ¬ mu.1 16 a.toNatClampNeg = b) (hm : mu.1 11 (mu.1 16 a.toNatClampNeg).toNatClampNeg = mu.1 11 b.toNatClampNeg) (he : mu.1 18 a.toNatClampNeg = -1) : CT l yX6_move (Cond.code yX6_move cX6_move 4 (some .int)) 1 22 D Y A [.ref o, .int a, .int b] (WR D Y A o al mu) (fun _ : Unit => some (.int 0)) (fun _ : Unit => WR D Y A o al (rI (rI mu 25 0 0) 25 0 (3 : Int32))) noX 0 0 := by
  refine CT.of (by decide) (Nat.le_of_ble_eq_true rfl) ?_
  intro p_ e_ s_ m_ below_ meth_ c_ C0 K0 hr hlk htab hnm_
  refine k_aload_n C0 dX6_move_0 0 rfl ?_
  refine k_iload_n C0 dX6_move_1 1 rfl ?_
  refine k_iconst C0 0 dX6_move_2 (by decide) ?_
  refine k_aload_n C0 dX6_move_3 0 rfl ?_
  refine r_getI C0 K0 15 (mu.1 15 0) dX6_move_4 (tC 231 rfl rfl) (by decide) rfl (rg_15 al _) rfl ?_
  refine k_iconst C0 1 dX6_move_7 (by decide) ?_
  refine k_isub C0 dX6_move_8 ?_
  refine k_callS C0 K0 dX6_move_9 (ct_in1 l D Y A _ a (0 : Int32) ((mu.1 15 0) - 1) a1 a2) gkX6_69 hyX6_in rfl (by exact Nat.le_of_ble_eq_true rfl) ⟨Nat.le_of_ble_eq_true rfl, Nat.le_of_ble_eq_true rfl⟩ ⟨Nat.le_of_ble_eq_true rfl, Nat.le_of_ble_eq_true rfl⟩ (fun E => kX_no E) (fun u => ?_)
  refine k_if_eq C0 33 dX6_move_12 (by decide) (fun zz => absurd zz (by decide)) (fun _ => ?_)
  refine k_iload_n C0 dX6_move_15 2 rfl ?_
  refine k_iconst C0 0 dX6_move_16 (by decide) ?_
  refine k_aload_n C0 dX6_move_17 0 rfl ?_
  refine r_getI C0 K0 10 (mu.1 10 0) dX6_move_18 (tC 226 rfl rfl) (by decide) rfl (rg_10 al _) rfl ?_
  refine k_iconst C0 1 dX6_move_21 (by decide) ?_
  refine k_isub C0 dX6_move_22 ?_
  refine k_callS C0 K0 dX6_move_23 (ct_in1 l D Y A _ b (0 : Int32) ((mu.1 10 0) - 1) b1 b2) gkX6_69 hyX6_in rfl (by exact Nat.le_of_ble_eq_true rfl) ⟨Nat.le_of_ble_eq_true rfl, Nat.le_of_ble_eq_true rfl⟩ ⟨Nat.le_of_ble_eq_true rfl, Nat.le_of_ble_eq_true rfl⟩ (fun E => kX_no E) (fun u => ?_)
  refine k_if_eq C0 33 dX6_move_26 (by decide) (fun zz => absurd zz (by decide)) (fun _ => ?_)
  refine k_iconst C0 0 dX6_move_29 (by decide) ?_
  refine k_goto C0 34 dX6_move_30 (by decide) ?_
  refine r_putS C0 K0 25 dX6_move_34 (tD 1 rfl rfl) (by decide) rfl rfl (by decide +kernel) (rs_25 al _ _) (by decide) ?_
  refine k_aload_n C0 dX6_move_37 0 rfl ?_
  refine r_getI C0 K0 25 0 dX6_move_38 (tD 1 rfl rfl) (by decide) rfl (rg_25 al _) rI_at ?_
  refine k_if_le C0 46 dX6_move_41 (by decide) (fun _ => ?_) (fun zz => absurd (by decide) zz)
  refine k_aload_n C0 dX6_move_46 0 rfl ?_
  refine r_get C0 K0 16 dX6_move_47 (tC 232 rfl rfl) (by decide) rfl rfl ?_
  refine k_iload_n C0 dX6_move_50 1 rfl ?_
  refine r_iald C0 K0 16 dX6_move_51 (by decide) hi (v := mu.1 16 a.toNatClampNeg) (rI_tr (by decide) rfl) ?_
  refine k_istore_n C0 [(3, _), (0, _), (1, _), (2, _)] dX6_move_52 (by decide) rfl ?_
  refine k_iload_n C0 dX6_move_53 0 rfl ?_
  refine k_iload_n C0 dX6_move_54 3 rfl ?_
  refine k_icmp_eq C0 73 dX6_move_55 (by decide) (fun zz => absurd zz hs) (fun _ => ?_)
  refine k_aload_n C0 dX6_move_58 1 rfl ?_
  refine r_get C0 K0 11 dX6_move_59 (tC 227 rfl rfl) (by decide) rfl rfl ?_
  refine k_iload_n C0 dX6_move_62 0 rfl ?_
  refine r_iald C0 K0 11 dX6_move_63 (by decide) hj (v := mu.1 11 ((mu.1 16 a.toNatClampNeg).toNatClampNeg)) (rI_tr (by decide) rfl) ?_
  refine k_aload_n C0 dX6_move_64 1 rfl ?_
  refine r_get C0 K0 11 dX6_move_65 (tC 227 rfl rfl) (by decide) rfl rfl ?_
  refine k_iload_n C0 dX6_move_68 3 rfl ?_
  refine r_iald C0 K0 11 dX6_move_69 (by decide) hb (v := mu.1 11 b.toNatClampNeg) (rI_tr (by decide) rfl) ?_
  refine k_icmp_eq C0 79 dX6_move_70 (by decide) (fun _ => ?_) (fun zz => absurd hm zz)
  refine k_aload_n C0 dX6_move_79 1 rfl ?_
  refine r_get C0 K0 18 dX6_move_80 (tC 234 rfl rfl) (by decide) rfl rfl ?_
  refine k_iload_n C0 dX6_move_83 2 rfl ?_
  refine r_iald C0 K0 18 dX6_move_84 (by decide) hi (v := mu.1 18 a.toNatClampNeg) (rI_tr (by decide) rfl) ?_
  refine k_iconst C0 (-1) dX6_move_85 (by decide) ?_
  refine k_icmp_ne C0 95 dX6_move_86 (by decide) (fun zz => absurd he zz) (fun _ => ?_)
  refine k_aload_n C0 dX6_move_89 1 rfl ?_
  refine k_iconst C0 3 dX6_move_90 (by decide) ?_
  refine k_callV C0 K0 dX6_move_91 (ct_fails l D Y A o al (rI mu 25 0 0) (3 : Int32)) gkX6_122 hyX6_fails (fun H hV => r_recv K0 hV) rfl (by exact Nat.le_of_ble_eq_true rfl) ⟨Nat.le_of_ble_eq_true rfl, Nat.le_of_ble_eq_true rfl⟩ ⟨Nat.le_of_ble_eq_true rfl, Nat.le_of_ble_eq_true rfl⟩ (fun E => kX_no E) (fun u => ?_)
  exact k_iret C0 dX6_move_94 hr hlk (Nat.le_of_ble_eq_true rfl) (Nat.le_of_ble_eq_true rfl) () rfl (fun H h => h)
set_option maxRecDepth 100000 in
set_option maxHeartbeats 4000000 in
theorem ct_move_ok (l : Launch) (D : va_G) (Y : Nat → Nat) (A : Nat → Prop) (o : Nat) (al : Nat → Nat) (mu : Rm) (a b : Int32) (a1 : 0 ≤ a) (a2 : a ≤ mu.1 15 0 - 1) (b1 : 0 ≤ b) (b2 : b ≤ mu.1 10 0 - 1) (hi : vp_in a 40) (hj : vp_in (mu.1 16 a.toNatClampNeg) 20) (hb : vp_in b 20) (hs : ¬ mu.1 16 a.toNatClampNeg = b) (hm : mu.1 11 (mu.1 16 a.toNatClampNeg).toNatClampNeg = mu.1 11 b.toNatClampNeg) (he : ¬ mu.1 18 a.toNatClampNeg = -1) : CT l yX6_move (Cond.code yX6_move cX6_move 4 (some .int)) 1 22 D Y A [.ref o, .int a, .int b] (WR D Y A o al mu) (fun _ : Unit => some (.int (mu.1 16 a.toNatClampNeg))) (fun _ : Unit => WR D Y A o al (rI (rI mu 25 0 0) 16 a.toNatClampNeg b)) noX 0 0 := by
  refine CT.of (by decide) (Nat.le_of_ble_eq_true rfl) ?_
  intro p_ e_ s_ m_ below_ meth_ c_ C0 K0 hr hlk htab hnm_
  refine k_aload_n C0 dX6_move_0 0 rfl ?_
  refine k_iload_n C0 dX6_move_1 1 rfl ?_
  refine k_iconst C0 0 dX6_move_2 (by decide) ?_
  refine k_aload_n C0 dX6_move_3 0 rfl ?_
  refine r_getI C0 K0 15 (mu.1 15 0) dX6_move_4 (tC 231 rfl rfl) (by decide) rfl (rg_15 al _) rfl ?_
  refine k_iconst C0 1 dX6_move_7 (by decide) ?_
  refine k_isub C0 dX6_move_8 ?_
  refine k_callS C0 K0 dX6_move_9 (ct_in1 l D Y A _ a (0 : Int32) ((mu.1 15 0) - 1) a1 a2) gkX6_69 hyX6_in rfl (by exact Nat.le_of_ble_eq_true rfl) ⟨Nat.le_of_ble_eq_true rfl, Nat.le_of_ble_eq_true rfl⟩ ⟨Nat.le_of_ble_eq_true rfl, Nat.le_of_ble_eq_true rfl⟩ (fun E => kX_no E) (fun u => ?_)
  refine k_if_eq C0 33 dX6_move_12 (by decide) (fun zz => absurd zz (by decide)) (fun _ => ?_)
  refine k_iload_n C0 dX6_move_15 2 rfl ?_
  refine k_iconst C0 0 dX6_move_16 (by decide) ?_
  refine k_aload_n C0 dX6_move_17 0 rfl ?_
  refine r_getI C0 K0 10 (mu.1 10 0) dX6_move_18 (tC 226 rfl rfl) (by decide) rfl (rg_10 al _) rfl ?_
  refine k_iconst C0 1 dX6_move_21 (by decide) ?_
  refine k_isub C0 dX6_move_22 ?_
  refine k_callS C0 K0 dX6_move_23 (ct_in1 l D Y A _ b (0 : Int32) ((mu.1 10 0) - 1) b1 b2) gkX6_69 hyX6_in rfl (by exact Nat.le_of_ble_eq_true rfl) ⟨Nat.le_of_ble_eq_true rfl, Nat.le_of_ble_eq_true rfl⟩ ⟨Nat.le_of_ble_eq_true rfl, Nat.le_of_ble_eq_true rfl⟩ (fun E => kX_no E) (fun u => ?_)
  refine k_if_eq C0 33 dX6_move_26 (by decide) (fun zz => absurd zz (by decide)) (fun _ => ?_)
  refine k_iconst C0 0 dX6_move_29 (by decide) ?_
  refine k_goto C0 34 dX6_move_30 (by decide) ?_
  refine r_putS C0 K0 25 dX6_move_34 (tD 1 rfl rfl) (by decide) rfl rfl (by decide +kernel) (rs_25 al _ _) (by decide) ?_
  refine k_aload_n C0 dX6_move_37 0 rfl ?_
  refine r_getI C0 K0 25 0 dX6_move_38 (tD 1 rfl rfl) (by decide) rfl (rg_25 al _) rI_at ?_
  refine k_if_le C0 46 dX6_move_41 (by decide) (fun _ => ?_) (fun zz => absurd (by decide) zz)
  refine k_aload_n C0 dX6_move_46 0 rfl ?_
  refine r_get C0 K0 16 dX6_move_47 (tC 232 rfl rfl) (by decide) rfl rfl ?_
  refine k_iload_n C0 dX6_move_50 1 rfl ?_
  refine r_iald C0 K0 16 dX6_move_51 (by decide) hi (v := mu.1 16 a.toNatClampNeg) (rI_tr (by decide) rfl) ?_
  refine k_istore_n C0 [(3, _), (0, _), (1, _), (2, _)] dX6_move_52 (by decide) rfl ?_
  refine k_iload_n C0 dX6_move_53 0 rfl ?_
  refine k_iload_n C0 dX6_move_54 3 rfl ?_
  refine k_icmp_eq C0 73 dX6_move_55 (by decide) (fun zz => absurd zz hs) (fun _ => ?_)
  refine k_aload_n C0 dX6_move_58 1 rfl ?_
  refine r_get C0 K0 11 dX6_move_59 (tC 227 rfl rfl) (by decide) rfl rfl ?_
  refine k_iload_n C0 dX6_move_62 0 rfl ?_
  refine r_iald C0 K0 11 dX6_move_63 (by decide) hj (v := mu.1 11 ((mu.1 16 a.toNatClampNeg).toNatClampNeg)) (rI_tr (by decide) rfl) ?_
  refine k_aload_n C0 dX6_move_64 1 rfl ?_
  refine r_get C0 K0 11 dX6_move_65 (tC 227 rfl rfl) (by decide) rfl rfl ?_
  refine k_iload_n C0 dX6_move_68 3 rfl ?_
  refine r_iald C0 K0 11 dX6_move_69 (by decide) hb (v := mu.1 11 b.toNatClampNeg) (rI_tr (by decide) rfl) ?_
  refine k_icmp_eq C0 79 dX6_move_70 (by decide) (fun _ => ?_) (fun zz => absurd hm zz)
  refine k_aload_n C0 dX6_move_79 1 rfl ?_
  refine r_get C0 K0 18 dX6_move_80 (tC 234 rfl rfl) (by decide) rfl rfl ?_
  refine k_iload_n C0 dX6_move_83 2 rfl ?_
  refine r_iald C0 K0 18 dX6_move_84 (by decide) hi (v := mu.1 18 a.toNatClampNeg) (rI_tr (by decide) rfl) ?_
  refine k_iconst C0 (-1) dX6_move_85 (by decide) ?_
  refine k_icmp_ne C0 95 dX6_move_86 (by decide) (fun _ => ?_) (fun zz => absurd zz he)
  refine k_aload_n C0 dX6_move_95 1 rfl ?_
  refine r_get C0 K0 16 dX6_move_96 (tC 232 rfl rfl) (by decide) rfl rfl ?_
  refine k_iload_n C0 dX6_move_99 2 rfl ?_
  refine k_iload_n C0 dX6_move_100 3 rfl ?_
  refine r_iast C0 K0 16 dX6_move_101 (by decide) hi ?_
  refine k_iload_n C0 dX6_move_102 0 rfl ?_
  exact k_iret C0 dX6_move_103 hr hlk (Nat.le_of_ble_eq_true rfl) (Nat.le_of_ble_eq_true rfl) () rfl (fun H h => h)
set_option maxRecDepth 100000 in
set_option maxHeartbeats 4000000 in
theorem ct_setFailing_1 (l : Launch) (D : va_G) (Y : Nat → Nat) (A : Nat → Prop) (o : Nat) (al : Nat → Nat) (mu : Rm) (a b : Int32) (a1 : ¬ (0 ≤ a ∧ a ≤ mu.1 15 0 - 1)) : CT l yX6_setFailing (Cond.code yX6_setFailing cX6_setFailing 3 none) 2 43 D Y A [.ref o, .int a, .int b] (WR D Y A o al mu) (fun _ : Unit => none) (fun _ : Unit => WR D Y A o al (rI mu 25 0 1)) noX 0 0 := by
  refine CT.of (by decide) (Nat.le_of_ble_eq_true rfl) ?_
  intro p_ e_ s_ m_ below_ meth_ c_ C0 K0 hr hlk htab hnm_
  refine k_aload_n C0 dX6_setFailing_0 0 rfl ?_
  refine k_iload_n C0 dX6_setFailing_1 1 rfl ?_
  refine k_callV C0 K0 dX6_setFailing_2 (ct_isPlan0 l D Y A o al mu a a1) gkX6_131 hyX6_isPlan (fun H hV => r_recv K0 hV) rfl (by exact Nat.le_of_ble_eq_true rfl) ⟨Nat.le_of_ble_eq_true rfl, Nat.le_of_ble_eq_true rfl⟩ ⟨Nat.le_of_ble_eq_true rfl, Nat.le_of_ble_eq_true rfl⟩ (fun E => kX_no E) (fun u => ?_)
  refine k_if_eq C0 27 dX6_setFailing_5 (by decide) (fun _ => ?_) (fun zz => absurd (by decide) zz)
  refine k_aload_n C0 dX6_setFailing_27 0 rfl ?_
  refine r_getI C0 K0 25 1 dX6_setFailing_28 (tD 1 rfl rfl) (by decide) rfl (rg_25 al _) rI_at ?_
  refine k_if_ne C0 49 dX6_setFailing_31 (by decide) (fun _ => ?_) (fun zz => absurd zz (by decide))
  exact k_vret C0 dX6_setFailing_49 hr hlk (Nat.le_of_ble_eq_true rfl) (Nat.le_of_ble_eq_true rfl) () rfl (fun H h => h)
set_option maxRecDepth 100000 in
set_option maxHeartbeats 4000000 in
theorem ct_setFailing_2 (l : Launch) (D : va_G) (Y : Nat → Nat) (A : Nat → Prop) (o : Nat) (al : Nat → Nat) (mu : Rm) (a b : Int32) (a1 : 0 ≤ a) (a2 : a ≤ mu.1 15 0 - 1) (hi : vp_in a 40) (he : mu.1 18 a.toNatClampNeg = -1) : CT l yX6_setFailing (Cond.code yX6_setFailing cX6_setFailing 3 none) 2 43 D Y A [.ref o, .int a, .int b] (WR D Y A o al mu) (fun _ : Unit => none) (fun _ : Unit => WR D Y A o al (rI (rI mu 25 0 0) 25 0 2)) noX 0 0 := by
  refine CT.of (by decide) (Nat.le_of_ble_eq_true rfl) ?_
  intro p_ e_ s_ m_ below_ meth_ c_ C0 K0 hr hlk htab hnm_
  refine k_aload_n C0 dX6_setFailing_0 0 rfl ?_
  refine k_iload_n C0 dX6_setFailing_1 1 rfl ?_
  refine k_callV C0 K0 dX6_setFailing_2 (ct_isPlan1 l D Y A o al mu a a1 a2) gkX6_131 hyX6_isPlan (fun H hV => r_recv K0 hV) rfl (by exact Nat.le_of_ble_eq_true rfl) ⟨Nat.le_of_ble_eq_true rfl, Nat.le_of_ble_eq_true rfl⟩ ⟨Nat.le_of_ble_eq_true rfl, Nat.le_of_ble_eq_true rfl⟩ (fun E => kX_no E) (fun u => ?_)
  refine k_if_eq C0 27 dX6_setFailing_5 (by decide) (fun zz => absurd zz (by decide)) (fun _ => ?_)
  refine k_aload_n C0 dX6_setFailing_8 0 rfl ?_
  refine k_aload_n C0 dX6_setFailing_9 0 rfl ?_
  refine r_get C0 K0 18 dX6_setFailing_10 (tC 234 rfl rfl) (by decide) rfl rfl ?_
  refine k_iload_n C0 dX6_setFailing_13 1 rfl ?_
  refine r_iald C0 K0 18 dX6_setFailing_14 (by decide) hi (v := mu.1 18 a.toNatClampNeg) (rI_tr (by decide) rfl) ?_
  refine k_iconst C0 (-1) dX6_setFailing_15 (by decide) ?_
  refine k_icmp_ne C0 23 dX6_setFailing_16 (by decide) (fun zz => absurd he zz) (fun _ => ?_)
  refine k_iconst C0 2 dX6_setFailing_19 (by decide) ?_
  refine k_goto C0 24 dX6_setFailing_20 (by decide) ?_
  refine r_putS C0 K0 25 dX6_setFailing_24 (tD 1 rfl rfl) (by decide) rfl rfl (by decide +kernel) (rs_25 al _ _) (by decide) ?_
  refine k_aload_n C0 dX6_setFailing_27 0 rfl ?_
  refine r_getI C0 K0 25 2 dX6_setFailing_28 (tD 1 rfl rfl) (by decide) rfl (rg_25 al _) rI_at ?_
  refine k_if_ne C0 49 dX6_setFailing_31 (by decide) (fun _ => ?_) (fun zz => absurd zz (by decide))
  exact k_vret C0 dX6_setFailing_49 hr hlk (Nat.le_of_ble_eq_true rfl) (Nat.le_of_ble_eq_true rfl) () rfl (fun H h => h)
set_option maxRecDepth 100000 in
set_option maxHeartbeats 4000000 in
theorem ct_setFailing_ok (l : Launch) (D : va_G) (Y : Nat → Nat) (A : Nat → Prop) (o : Nat) (al : Nat → Nat) (mu : Rm) (a b : Int32) (a1 : 0 ≤ a) (a2 : a ≤ mu.1 15 0 - 1) (hi : vp_in a 40) (he : ¬ mu.1 18 a.toNatClampNeg = -1) : CT l yX6_setFailing (Cond.code yX6_setFailing cX6_setFailing 3 none) 2 43 D Y A [.ref o, .int a, .int b] (WR D Y A o al mu) (fun _ : Unit => none) (fun _ : Unit => WR D Y A o al (rI (rI (rI mu 25 0 0) 25 0 0) 22 a.toNatClampNeg (if b = 0 then 0 else 1))) noX 0 0 := by
  refine CT.of (by decide) (Nat.le_of_ble_eq_true rfl) ?_
  intro p_ e_ s_ m_ below_ meth_ c_ C0 K0 hr hlk htab hnm_
  refine k_aload_n C0 dX6_setFailing_0 0 rfl ?_
  refine k_iload_n C0 dX6_setFailing_1 1 rfl ?_
  refine k_callV C0 K0 dX6_setFailing_2 (ct_isPlan1 l D Y A o al mu a a1 a2) gkX6_131 hyX6_isPlan (fun H hV => r_recv K0 hV) rfl (by exact Nat.le_of_ble_eq_true rfl) ⟨Nat.le_of_ble_eq_true rfl, Nat.le_of_ble_eq_true rfl⟩ ⟨Nat.le_of_ble_eq_true rfl, Nat.le_of_ble_eq_true rfl⟩ (fun E => kX_no E) (fun u => ?_)
  refine k_if_eq C0 27 dX6_setFailing_5 (by decide) (fun zz => absurd zz (by decide)) (fun _ => ?_)
  refine k_aload_n C0 dX6_setFailing_8 0 rfl ?_
  refine k_aload_n C0 dX6_setFailing_9 0 rfl ?_
  refine r_get C0 K0 18 dX6_setFailing_10 (tC 234 rfl rfl) (by decide) rfl rfl ?_
  refine k_iload_n C0 dX6_setFailing_13 1 rfl ?_
  refine r_iald C0 K0 18 dX6_setFailing_14 (by decide) hi (v := mu.1 18 a.toNatClampNeg) (rI_tr (by decide) rfl) ?_
  refine k_iconst C0 (-1) dX6_setFailing_15 (by decide) ?_
  refine k_icmp_ne C0 23 dX6_setFailing_16 (by decide) (fun _ => ?_) (fun zz => absurd zz he)
  refine k_iconst C0 0 dX6_setFailing_23 (by decide) ?_
  refine r_putS C0 K0 25 dX6_setFailing_24 (tD 1 rfl rfl) (by decide) rfl rfl (by decide +kernel) (rs_25 al _ _) (by decide) ?_
  refine k_aload_n C0 dX6_setFailing_27 0 rfl ?_
  refine r_getI C0 K0 25 0 dX6_setFailing_28 (tD 1 rfl rfl) (by decide) rfl (rg_25 al _) rI_at ?_
  refine k_if_ne C0 49 dX6_setFailing_31 (by decide) (fun zz => absurd (by decide) zz) (fun _ => ?_)
  refine k_aload_n C0 dX6_setFailing_34 0 rfl ?_
  refine r_get C0 K0 22 dX6_setFailing_35 (tC 238 rfl rfl) (by decide) rfl rfl ?_
  refine k_iload_n C0 dX6_setFailing_38 1 rfl ?_
  refine k_iload_n C0 dX6_setFailing_39 2 rfl ?_
  refine k_if_eq C0 47 dX6_setFailing_40 (by decide) (fun h40 => ?_) (fun h40 => ?_)
  ·
    refine k_iconst C0 0 dX6_setFailing_47 (by decide) ?_
    refine r_iast C0 K0 22 dX6_setFailing_48 (by decide) hi ?_
    exact k_vret C0 dX6_setFailing_49 hr hlk (Nat.le_of_ble_eq_true rfl) (Nat.le_of_ble_eq_true rfl) () rfl (by first | (rw [if_pos h40]; exact fun H h => h) | (rw [if_neg h40]; exact fun H h => h))
  ·
    refine k_iconst C0 1 dX6_setFailing_43 (by decide) ?_
    refine k_goto C0 48 dX6_setFailing_44 (by decide) ?_
    refine r_iast C0 K0 22 dX6_setFailing_48 (by decide) hi ?_
    exact k_vret C0 dX6_setFailing_49 hr hlk (Nat.le_of_ble_eq_true rfl) (Nat.le_of_ble_eq_true rfl) () rfl (by first | (rw [if_pos h40]; exact fun H h => h) | (rw [if_neg h40]; exact fun H h => h))
set_option maxRecDepth 100000 in
set_option maxHeartbeats 4000000 in
theorem ct_cancel_1 (l : Launch) (D : va_G) (Y : Nat → Nat) (A : Nat → Prop) (o : Nat) (al : Nat → Nat) (mu : Rm) (a : Int32) (a1 : ¬ (0 ≤ a ∧ a ≤ mu.1 15 0 - 1)) : CT l yX6_cancel (Cond.code yX6_cancel cX6_cancel 2 (some .int)) 2 43 D Y A [.ref o, .int a] (WR D Y A o al mu) (fun _ : Unit => some (.int 0)) (fun _ : Unit => WR D Y A o al (rI mu 25 0 1)) noX 0 0 := by
  refine CT.of (by decide) (Nat.le_of_ble_eq_true rfl) ?_
  intro p_ e_ s_ m_ below_ meth_ c_ C0 K0 hr hlk htab hnm_
  refine k_aload_n C0 dX6_cancel_0 0 rfl ?_
  refine k_iload_n C0 dX6_cancel_1 1 rfl ?_
  refine k_callV C0 K0 dX6_cancel_2 (ct_isPlan0 l D Y A o al mu a a1) gkX6_131 hyX6_isPlan (fun H hV => r_recv K0 hV) rfl (by exact Nat.le_of_ble_eq_true rfl) ⟨Nat.le_of_ble_eq_true rfl, Nat.le_of_ble_eq_true rfl⟩ ⟨Nat.le_of_ble_eq_true rfl, Nat.le_of_ble_eq_true rfl⟩ (fun E => kX_no E) (fun u => ?_)
  refine k_if_ne C0 10 dX6_cancel_5 (by decide) (fun zz => absurd (by decide) zz) (fun _ => ?_)
  refine k_iconst C0 0 dX6_cancel_8 (by decide) ?_
  exact k_iret C0 dX6_cancel_9 hr hlk (Nat.le_of_ble_eq_true rfl) (Nat.le_of_ble_eq_true rfl) () rfl (fun H h => h)
set_option maxRecDepth 100000 in
set_option maxHeartbeats 4000000 in
theorem ct_cancel_2 (l : Launch) (D : va_G) (Y : Nat → Nat) (A : Nat → Prop) (o : Nat) (al : Nat → Nat) (mu : Rm) (a : Int32) (a1 : 0 ≤ a) (a2 : a ≤ mu.1 15 0 - 1) (hi : vp_in a 40) (he : mu.1 18 a.toNatClampNeg = -1) : CT l yX6_cancel (Cond.code yX6_cancel cX6_cancel 2 (some .int)) 2 43 D Y A [.ref o, .int a] (WR D Y A o al mu) (fun _ : Unit => some (.int 0)) (fun _ : Unit => WR D Y A o al (rI (rI mu 25 0 0) 25 0 (2 : Int32))) noX 0 0 := by
  refine CT.of (by decide) (Nat.le_of_ble_eq_true rfl) ?_
  intro p_ e_ s_ m_ below_ meth_ c_ C0 K0 hr hlk htab hnm_
  refine k_aload_n C0 dX6_cancel_0 0 rfl ?_
  refine k_iload_n C0 dX6_cancel_1 1 rfl ?_
  refine k_callV C0 K0 dX6_cancel_2 (ct_isPlan1 l D Y A o al mu a a1 a2) gkX6_131 hyX6_isPlan (fun H hV => r_recv K0 hV) rfl (by exact Nat.le_of_ble_eq_true rfl) ⟨Nat.le_of_ble_eq_true rfl, Nat.le_of_ble_eq_true rfl⟩ ⟨Nat.le_of_ble_eq_true rfl, Nat.le_of_ble_eq_true rfl⟩ (fun E => kX_no E) (fun u => ?_)
  refine k_if_ne C0 10 dX6_cancel_5 (by decide) (fun _ => ?_) (fun zz => absurd zz (by decide))
  refine k_aload_n C0 dX6_cancel_10 0 rfl ?_
  refine r_get C0 K0 18 dX6_cancel_11 (tC 234 rfl rfl) (by decide) rfl rfl ?_
  refine k_iload_n C0 dX6_cancel_14 1 rfl ?_
  refine r_iald C0 K0 18 dX6_cancel_15 (by decide) hi (v := mu.1 18 a.toNatClampNeg) (rI_tr (by decide) rfl) ?_
  refine k_iconst C0 (-1) dX6_cancel_16 (by decide) ?_
  refine k_icmp_ne C0 26 dX6_cancel_17 (by decide) (fun zz => absurd he zz) (fun _ => ?_)
  refine k_aload_n C0 dX6_cancel_20 0 rfl ?_
  refine k_iconst C0 2 dX6_cancel_21 (by decide) ?_
  refine k_callV C0 K0 dX6_cancel_22 (ct_fails l D Y A o al (rI mu 25 0 0) (2 : Int32)) gkX6_122 hyX6_fails (fun H hV => r_recv K0 hV) rfl (by exact Nat.le_of_ble_eq_true rfl) ⟨Nat.le_of_ble_eq_true rfl, Nat.le_of_ble_eq_true rfl⟩ ⟨Nat.le_of_ble_eq_true rfl, Nat.le_of_ble_eq_true rfl⟩ (fun E => kX_no E) (fun u => ?_)
  exact k_iret C0 dX6_cancel_25 hr hlk (Nat.le_of_ble_eq_true rfl) (Nat.le_of_ble_eq_true rfl) () rfl (fun H h => h)
set_option maxRecDepth 100000 in
set_option maxHeartbeats 4000000 in
theorem ct_cancel_ok (l : Launch) (D : va_G) (Y : Nat → Nat) (A : Nat → Prop) (o : Nat) (al : Nat → Nat) (mu : Rm) (a : Int32) (a1 : 0 ≤ a) (a2 : a ≤ mu.1 15 0 - 1) (hi : vp_in a 40) (he : ¬ mu.1 18 a.toNatClampNeg = -1) : CT l yX6_cancel (Cond.code yX6_cancel cX6_cancel 2 (some .int)) 2 43 D Y A [.ref o, .int a] (WR D Y A o al mu) (fun _ : Unit => some (.int (mu.1 20 a.toNatClampNeg))) (fun _ : Unit => WR D Y A o al (rI (rI mu 25 0 0) 18 a.toNatClampNeg (-1))) noX 0 0 := by
  refine CT.of (by decide) (Nat.le_of_ble_eq_true rfl) ?_
  intro p_ e_ s_ m_ below_ meth_ c_ C0 K0 hr hlk htab hnm_
  refine k_aload_n C0 dX6_cancel_0 0 rfl ?_
  refine k_iload_n C0 dX6_cancel_1 1 rfl ?_
  refine k_callV C0 K0 dX6_cancel_2 (ct_isPlan1 l D Y A o al mu a a1 a2) gkX6_131 hyX6_isPlan (fun H hV => r_recv K0 hV) rfl (by exact Nat.le_of_ble_eq_true rfl) ⟨Nat.le_of_ble_eq_true rfl, Nat.le_of_ble_eq_true rfl⟩ ⟨Nat.le_of_ble_eq_true rfl, Nat.le_of_ble_eq_true rfl⟩ (fun E => kX_no E) (fun u => ?_)
  refine k_if_ne C0 10 dX6_cancel_5 (by decide) (fun _ => ?_) (fun zz => absurd zz (by decide))
  refine k_aload_n C0 dX6_cancel_10 0 rfl ?_
  refine r_get C0 K0 18 dX6_cancel_11 (tC 234 rfl rfl) (by decide) rfl rfl ?_
  refine k_iload_n C0 dX6_cancel_14 1 rfl ?_
  refine r_iald C0 K0 18 dX6_cancel_15 (by decide) hi (v := mu.1 18 a.toNatClampNeg) (rI_tr (by decide) rfl) ?_
  refine k_iconst C0 (-1) dX6_cancel_16 (by decide) ?_
  refine k_icmp_ne C0 26 dX6_cancel_17 (by decide) (fun _ => ?_) (fun zz => absurd zz he)
  refine k_aload_n C0 dX6_cancel_26 0 rfl ?_
  refine r_get C0 K0 18 dX6_cancel_27 (tC 234 rfl rfl) (by decide) rfl rfl ?_
  refine k_iload_n C0 dX6_cancel_30 1 rfl ?_
  refine k_iconst C0 (-1) dX6_cancel_31 (by decide) ?_
  refine r_iast C0 K0 18 dX6_cancel_32 (by decide) hi ?_
  refine k_aload_n C0 dX6_cancel_33 0 rfl ?_
  refine r_get C0 K0 20 dX6_cancel_34 (tC 236 rfl rfl) (by decide) rfl rfl ?_
  refine k_iload_n C0 dX6_cancel_37 1 rfl ?_
  refine r_iald C0 K0 20 dX6_cancel_38 (by decide) hi (v := mu.1 20 a.toNatClampNeg) (rI_tr (by decide) (rI_tr (by decide) rfl)) ?_
  exact k_iret C0 dX6_cancel_39 hr hlk (Nat.le_of_ble_eq_true rfl) (Nat.le_of_ble_eq_true rfl) () rfl (fun H h => h)
set_option maxRecDepth 100000 in
set_option maxHeartbeats 4000000 in
theorem ct_payout_1 (l : Launch) (D : va_G) (Y : Nat → Nat) (A : Nat → Prop) (o : Nat) (al : Nat → Nat) (mu : Rm) (a b : Int32) (a1 : ¬ (0 ≤ a ∧ a ≤ mu.1 4 0 - 1)) : CT l yX6_payout (Cond.code yX6_payout cX6_payout 3 (some .int)) 1 22 D Y A [.ref o, .int a, .int b] (WR D Y A o al mu) (fun _ : Unit => some (.int 0)) (fun _ : Unit => WR D Y A o al (rI mu 25 0 1)) noX 0 0 := by
  refine CT.of (by decide) (Nat.le_of_ble_eq_true rfl) ?_
  intro p_ e_ s_ m_ below_ meth_ c_ C0 K0 hr hlk htab hnm_
  refine k_aload_n C0 dX6_payout_0 0 rfl ?_
  refine k_iload_n C0 dX6_payout_1 1 rfl ?_
  refine k_iconst C0 0 dX6_payout_2 (by decide) ?_
  refine k_aload_n C0 dX6_payout_3 0 rfl ?_
  refine r_getI C0 K0 4 (mu.1 4 0) dX6_payout_4 (tC 220 rfl rfl) (by decide) rfl (rg_4 al _) rfl ?_
  refine k_iconst C0 1 dX6_payout_7 (by decide) ?_
  refine k_isub C0 dX6_payout_8 ?_
  refine k_callS C0 K0 dX6_payout_9 (ct_in0 l D Y A _ a (0 : Int32) ((mu.1 4 0) - 1) a1) gkX6_69 hyX6_in rfl (by exact Nat.le_of_ble_eq_true rfl) ⟨Nat.le_of_ble_eq_true rfl, Nat.le_of_ble_eq_true rfl⟩ ⟨Nat.le_of_ble_eq_true rfl, Nat.le_of_ble_eq_true rfl⟩ (fun E => kX_no E) (fun u => ?_)
  refine k_if_ne C0 19 dX6_payout_12 (by decide) (fun zz => absurd (by decide) zz) (fun _ => ?_)
  refine k_iconst C0 1 dX6_payout_15 (by decide) ?_
  refine k_goto C0 41 dX6_payout_16 (by decide) ?_
  refine r_putS C0 K0 25 dX6_payout_41 (tD 1 rfl rfl) (by decide) rfl rfl (by decide +kernel) (rs_25 al _ _) (by decide) ?_
  refine k_aload_n C0 dX6_payout_44 0 rfl ?_
  refine r_getI C0 K0 25 1 dX6_payout_45 (tD 1 rfl rfl) (by decide) rfl (rg_25 al _) rI_at ?_
  refine k_if_ne C0 65 dX6_payout_48 (by decide) (fun _ => ?_) (fun zz => absurd zz (by decide))
  refine k_iconst C0 0 dX6_payout_65 (by decide) ?_
  exact k_iret C0 dX6_payout_66 hr hlk (Nat.le_of_ble_eq_true rfl) (Nat.le_of_ble_eq_true rfl) () rfl (fun H h => h)
set_option maxRecDepth 100000 in
set_option maxHeartbeats 4000000 in
theorem ct_payout_2 (l : Launch) (D : va_G) (Y : Nat → Nat) (A : Nat → Prop) (o : Nat) (al : Nat → Nat) (mu : Rm) (a b : Int32) (a1 : 0 ≤ a) (a2 : a ≤ mu.1 4 0 - 1) (b1 : ¬ (0 ≤ b ∧ b ≤ mu.1 0 0 / 30 - 1)) : CT l yX6_payout (Cond.code yX6_payout cX6_payout 3 (some .int)) 1 22 D Y A [.ref o, .int a, .int b] (WR D Y A o al mu) (fun _ : Unit => some (.int 0)) (fun _ : Unit => WR D Y A o al (rI mu 25 0 2)) noX 0 0 := by
  refine CT.of (by decide) (Nat.le_of_ble_eq_true rfl) ?_
  intro p_ e_ s_ m_ below_ meth_ c_ C0 K0 hr hlk htab hnm_
  refine k_aload_n C0 dX6_payout_0 0 rfl ?_
  refine k_iload_n C0 dX6_payout_1 1 rfl ?_
  refine k_iconst C0 0 dX6_payout_2 (by decide) ?_
  refine k_aload_n C0 dX6_payout_3 0 rfl ?_
  refine r_getI C0 K0 4 (mu.1 4 0) dX6_payout_4 (tC 220 rfl rfl) (by decide) rfl (rg_4 al _) rfl ?_
  refine k_iconst C0 1 dX6_payout_7 (by decide) ?_
  refine k_isub C0 dX6_payout_8 ?_
  refine k_callS C0 K0 dX6_payout_9 (ct_in1 l D Y A _ a (0 : Int32) ((mu.1 4 0) - 1) a1 a2) gkX6_69 hyX6_in rfl (by exact Nat.le_of_ble_eq_true rfl) ⟨Nat.le_of_ble_eq_true rfl, Nat.le_of_ble_eq_true rfl⟩ ⟨Nat.le_of_ble_eq_true rfl, Nat.le_of_ble_eq_true rfl⟩ (fun E => kX_no E) (fun u => ?_)
  refine k_if_ne C0 19 dX6_payout_12 (by decide) (fun _ => ?_) (fun zz => absurd zz (by decide))
  refine k_iload_n C0 dX6_payout_19 2 rfl ?_
  refine k_iconst C0 0 dX6_payout_20 (by decide) ?_
  refine k_aload_n C0 dX6_payout_21 0 rfl ?_
  refine r_getI C0 K0 0 (mu.1 0 0) dX6_payout_22 (tC 216 rfl rfl) (by decide) rfl (rg_0 al _) rfl ?_
  refine k_bipush C0 30 dX6_payout_25 (by decide) ?_
  refine k_idiv C0 dX6_payout_27 (by decide) ?_
  refine k_iconst C0 1 dX6_payout_28 (by decide) ?_
  refine k_isub C0 dX6_payout_29 ?_
  refine k_callS C0 K0 dX6_payout_30 (ct_in0 l D Y A _ b (0 : Int32) (((mu.1 0 0) / 30) - 1) b1) gkX6_69 hyX6_in rfl (by exact Nat.le_of_ble_eq_true rfl) ⟨Nat.le_of_ble_eq_true rfl, Nat.le_of_ble_eq_true rfl⟩ ⟨Nat.le_of_ble_eq_true rfl, Nat.le_of_ble_eq_true rfl⟩ (fun E => kX_no E) (fun u => ?_)
  refine k_if_ne C0 40 dX6_payout_33 (by decide) (fun zz => absurd (by decide) zz) (fun _ => ?_)
  refine k_iconst C0 2 dX6_payout_36 (by decide) ?_
  refine k_goto C0 41 dX6_payout_37 (by decide) ?_
  refine r_putS C0 K0 25 dX6_payout_41 (tD 1 rfl rfl) (by decide) rfl rfl (by decide +kernel) (rs_25 al _ _) (by decide) ?_
  refine k_aload_n C0 dX6_payout_44 0 rfl ?_
  refine r_getI C0 K0 25 2 dX6_payout_45 (tD 1 rfl rfl) (by decide) rfl (rg_25 al _) rI_at ?_
  refine k_if_ne C0 65 dX6_payout_48 (by decide) (fun _ => ?_) (fun zz => absurd zz (by decide))
  refine k_iconst C0 0 dX6_payout_65 (by decide) ?_
  exact k_iret C0 dX6_payout_66 hr hlk (Nat.le_of_ble_eq_true rfl) (Nat.le_of_ble_eq_true rfl) () rfl (fun H h => h)
set_option maxRecDepth 100000 in
set_option maxHeartbeats 4000000 in
theorem ct_payout_ok (l : Launch) (D : va_G) (Y : Nat → Nat) (A : Nat → Prop) (o : Nat) (al : Nat → Nat) (mu : Rm) (a b : Int32) (a1 : 0 ≤ a) (a2 : a ≤ mu.1 4 0 - 1) (b1 : 0 ≤ b) (b2 : b ≤ mu.1 0 0 / 30 - 1) (hi : vp_in (120 * a + b) 720) : CT l yX6_payout (Cond.code yX6_payout cX6_payout 3 (some .int)) 1 22 D Y A [.ref o, .int a, .int b] (WR D Y A o al mu) (fun _ : Unit => some (.int (mu.1 9 (((120 * a) + b).toNatClampNeg)))) (fun _ : Unit => WR D Y A o al (rI mu 25 0 0)) noX 0 0 := by
  refine CT.of (by decide) (Nat.le_of_ble_eq_true rfl) ?_
  intro p_ e_ s_ m_ below_ meth_ c_ C0 K0 hr hlk htab hnm_
  refine k_aload_n C0 dX6_payout_0 0 rfl ?_
  refine k_iload_n C0 dX6_payout_1 1 rfl ?_
  refine k_iconst C0 0 dX6_payout_2 (by decide) ?_
  refine k_aload_n C0 dX6_payout_3 0 rfl ?_
  refine r_getI C0 K0 4 (mu.1 4 0) dX6_payout_4 (tC 220 rfl rfl) (by decide) rfl (rg_4 al _) rfl ?_
  refine k_iconst C0 1 dX6_payout_7 (by decide) ?_
  refine k_isub C0 dX6_payout_8 ?_
  refine k_callS C0 K0 dX6_payout_9 (ct_in1 l D Y A _ a (0 : Int32) ((mu.1 4 0) - 1) a1 a2) gkX6_69 hyX6_in rfl (by exact Nat.le_of_ble_eq_true rfl) ⟨Nat.le_of_ble_eq_true rfl, Nat.le_of_ble_eq_true rfl⟩ ⟨Nat.le_of_ble_eq_true rfl, Nat.le_of_ble_eq_true rfl⟩ (fun E => kX_no E) (fun u => ?_)
  refine k_if_ne C0 19 dX6_payout_12 (by decide) (fun _ => ?_) (fun zz => absurd zz (by decide))
  refine k_iload_n C0 dX6_payout_19 2 rfl ?_
  refine k_iconst C0 0 dX6_payout_20 (by decide) ?_
  refine k_aload_n C0 dX6_payout_21 0 rfl ?_
  refine r_getI C0 K0 0 (mu.1 0 0) dX6_payout_22 (tC 216 rfl rfl) (by decide) rfl (rg_0 al _) rfl ?_
  refine k_bipush C0 30 dX6_payout_25 (by decide) ?_
  refine k_idiv C0 dX6_payout_27 (by decide) ?_
  refine k_iconst C0 1 dX6_payout_28 (by decide) ?_
  refine k_isub C0 dX6_payout_29 ?_
  refine k_callS C0 K0 dX6_payout_30 (ct_in1 l D Y A _ b (0 : Int32) (((mu.1 0 0) / 30) - 1) b1 b2) gkX6_69 hyX6_in rfl (by exact Nat.le_of_ble_eq_true rfl) ⟨Nat.le_of_ble_eq_true rfl, Nat.le_of_ble_eq_true rfl⟩ ⟨Nat.le_of_ble_eq_true rfl, Nat.le_of_ble_eq_true rfl⟩ (fun E => kX_no E) (fun u => ?_)
  refine k_if_ne C0 40 dX6_payout_33 (by decide) (fun _ => ?_) (fun zz => absurd zz (by decide))
  refine k_iconst C0 0 dX6_payout_40 (by decide) ?_
  refine r_putS C0 K0 25 dX6_payout_41 (tD 1 rfl rfl) (by decide) rfl rfl (by decide +kernel) (rs_25 al _ _) (by decide) ?_
  refine k_aload_n C0 dX6_payout_44 0 rfl ?_
  refine r_getI C0 K0 25 0 dX6_payout_45 (tD 1 rfl rfl) (by decide) rfl (rg_25 al _) rI_at ?_
  refine k_if_ne C0 65 dX6_payout_48 (by decide) (fun zz => absurd (by decide) zz) (fun _ => ?_)
  refine k_aload_n C0 dX6_payout_51 0 rfl ?_
  refine r_get C0 K0 9 dX6_payout_52 (tC 225 rfl rfl) (by decide) rfl rfl ?_
  refine k_bipush C0 120 dX6_payout_55 (by decide) ?_
  refine k_iload_n C0 dX6_payout_57 1 rfl ?_
  refine k_imul C0 dX6_payout_58 ?_
  refine k_iload_n C0 dX6_payout_59 2 rfl ?_
  refine k_iadd C0 dX6_payout_60 ?_
  refine r_iald C0 K0 9 dX6_payout_61 (by decide) hi (v := mu.1 9 (((120 * a) + b).toNatClampNeg)) (rI_tr (by decide) rfl) ?_
  refine k_goto C0 66 dX6_payout_62 (by decide) ?_
  exact k_iret C0 dX6_payout_66 hr hlk (Nat.le_of_ble_eq_true rfl) (Nat.le_of_ble_eq_true rfl) () rfl (fun H h => h)
end
section
def r_fillP (mu : Rm) (b : Int32) (v : Int32) : Nat → Rm
  | 0 => mu
  | i + 1 => rI (r_fillP mu b v i) 12 (b + nI i).toNatClampNeg v
theorem r_fillP_ne (mu : Rm) (b v : Int32) (f : Nat) (hf : f ≠ 12) : ∀ i, (r_fillP mu b v i).1 f = mu.1 f
  | 0 => rfl
  | i + 1 => (if_neg hf).trans (r_fillP_ne mu b v f hf i)
def r_close1 (mu : Rm) (mo : Int32) (i : Nat) : Rm :=
  rI (rI (rI mu 9 (120 * nI i + mo).toNatClampNeg (if 0 < mu.1 8 (nI i).toNatClampNeg + mu.1 7 (nI i).toNatClampNeg ∧ mu.1 5 (nI i).toNatClampNeg ≤ mu.1 8 (nI i).toNatClampNeg + mu.1 7 (nI i).toNatClampNeg then mu.1 8 (nI i).toNatClampNeg + mu.1 7 (nI i).toNatClampNeg else 0)) 8 (nI i).toNatClampNeg (if 0 < mu.1 8 (nI i).toNatClampNeg + mu.1 7 (nI i).toNatClampNeg ∧ mu.1 5 (nI i).toNatClampNeg ≤ mu.1 8 (nI i).toNatClampNeg + mu.1 7 (nI i).toNatClampNeg then 0 else mu.1 8 (nI i).toNatClampNeg + mu.1 7 (nI i).toNatClampNeg)) 7 (nI i).toNatClampNeg 0
def r_closeN (mu : Rm) (mo : Int32) : Nat → Rm
  | 0 => mu
  | i + 1 => r_close1 (r_closeN mu mo i) mo i
theorem r_closeN_ne (mu : Rm) (mo : Int32) (f : Nat) (h7 : f ≠ 7) (h8 : f ≠ 8) (h9 : f ≠ 9) : ∀ i, (r_closeN mu mo i).1 f = mu.1 f
  | 0 => rfl
  | i + 1 => (if_neg h7).trans ((if_neg h8).trans ((if_neg h9).trans (r_closeN_ne mu mo f h7 h8 h9 i)))
def r_payPr (mu : Rm) (i : Int32) : Int32 := mu.1 12 (5 * mu.1 16 i.toNatClampNeg + mu.1 17 i.toNatClampNeg).toNatClampNeg
def r_payP (mu : Rm) (i : Int32) : Int32 := if mu.1 21 i.toNatClampNeg = 1 ∧ mu.1 20 i.toNatClampNeg = 0 then r_payPr mu i / 2 else r_payPr mu i
def r_payO (mu : Rm) (i : Int32) : Int32 := if mu.1 20 i.toNatClampNeg < 12 then 0 else 1
def r_payS (mu : Rm) (i : Int32) : Rm := (r_sells mu (mu.1 16 i.toNatClampNeg) (mu.1 17 i.toNatClampNeg) (r_payP mu i) (r_payO mu i)).2
def r_payT (mu : Rm) (i : Int32) : Rm := rI (rI (rI (r_payS mu i) 20 i.toNatClampNeg ((r_payS mu i).1 20 i.toNatClampNeg + 1)) 19 i.toNatClampNeg 0) 18 i.toNatClampNeg ((r_payS mu i).1 0 0 + 30)
def r_payF (mu : Rm) (i : Int32) : Rm := rI (rI mu 19 i.toNatClampNeg (mu.1 19 i.toNatClampNeg + 1)) 18 i.toNatClampNeg (if (rI mu 19 i.toNatClampNeg (mu.1 19 i.toNatClampNeg + 1)).1 19 i.toNatClampNeg = 6 then -1 else mu.1 0 0 + 1)
/-- what a try to pay asks of the numbers -/
def r_payOK (mu : Rm) (i : Int32) : Prop := vp_in i 40 ∧ (¬ mu.1 22 i.toNatClampNeg = 1 → vp_in (5 * mu.1 16 i.toNatClampNeg + mu.1 17 i.toNatClampNeg) 100 ∧ r_sellOK mu (mu.1 16 i.toNatClampNeg) (mu.1 17 i.toNatClampNeg) (r_payP mu i) (r_payO mu i))
def r_pays (mu : Rm) (i : Int32) : Int32 × Rm := if mu.1 22 i.toNatClampNeg = 1 then (0, r_payF mu i) else (1, r_payT mu i)

set_option maxRecDepth 100000 in
set_option maxHeartbeats 4000000 in
theorem lp_addProduct {p : Program} {l : Launch} {e : Env} {R : Room} {s_ : State} {m_ : MethodId} {args_ : Array Value} {below_ : List Frame} {meth_ : Method} {c_ : Code} {Q : State → Prop} {D : va_G} {Y : Nat → Nat} {A : Nat → Prop} {k n : Nat} {o : Nat} {al : Nat → Nat} (C0 : CallFix p m_ c_ cX6_addProduct 4 s_ args_ TT RX6) (K0 : PK D Y A s_) (mu : Rm) (a v : Int32) (np : Nat) (hnp : mu.1 10 0 = nI np) (h20 : np < 20) (exit : kG p l e R s_ m_ args_ below_ meth_ c_ Q A 4 (WR D Y A o al (r_fillP mu (5 * nI np) v 5)) k n 96 [(3, .int (nI 5)), (0, .ref o), (1, .int a), (2, .int v)] []) : ∀ (d i : Nat), i + d = 5 → kG p l e R s_ m_ args_ below_ meth_ c_ Q A 4 (WR D Y A o al (r_fillP mu (5 * nI np) v i)) k n 71 [(3, .int (nI i)), (0, .ref o), (1, .int a), (2, .int v)] [] := by
  intro d
  induction d with
  | zero =>
    intro i hi
    have hb : i = 5 := by omega
    subst hb
    refine k_iload_n C0 dX6_addProduct_71 0 rfl ?_
    refine k_iconst C0 5 dX6_addProduct_72 (by decide) ?_
    refine k_icmp_ge C0 96 dX6_addProduct_73 (by decide) (fun _ => ?_) (fun zz => absurd (nI_le (Nat.le_refl 5) (by decide)) zz)
    exact exit
  | succ d ih =>
    intro i hi
    refine k_iload_n C0 dX6_addProduct_71 0 rfl ?_
    refine k_iconst C0 5 dX6_addProduct_72 (by decide) ?_
    refine k_icmp_ge C0 96 dX6_addProduct_73 (by decide) (fun zz => absurd zz (nI_ge (a := i) (b := 5) (by omega) (by decide))) (fun _ => ?_)
    refine k_aload_n C0 dX6_addProduct_76 1 rfl ?_
    refine r_get C0 K0 12 dX6_addProduct_77 (tC 228 rfl rfl) (by decide) rfl rfl ?_
    refine k_iconst C0 5 dX6_addProduct_80 (by decide) ?_
    refine k_aload_n C0 dX6_addProduct_81 1 rfl ?_
    refine r_getI C0 K0 10 (nI np) dX6_addProduct_82 (tC 226 rfl rfl) (by decide) rfl (rg_10 al _) ((congrFun (r_fillP_ne mu (5 * nI np) v 10 (by decide) i) 0).trans hnp) ?_
    refine k_imul C0 dX6_addProduct_85 ?_
    refine k_iload_n C0 dX6_addProduct_86 0 rfl ?_
    refine k_iadd C0 dX6_addProduct_87 ?_
    refine k_iload_n C0 dX6_addProduct_88 3 rfl ?_
    refine r_iast C0 K0 12 dX6_addProduct_89 (by decide) (vp_m5 h20 (by omega)) ?_
    refine k_iinc C0 (nI (i + 1)) [(3, _), (0, _), (1, _), (2, _)] dX6_addProduct_90 0 rfl (nI_1 i) (by decide) rfl ?_
    refine k_goto C0 71 dX6_addProduct_93 (by decide) ?_
    exact ih (i + 1) (by omega)
set_option maxRecDepth 100000 in
set_option maxHeartbeats 4000000 in
theorem ct_addProduct_ok (l : Launch) (D : va_G) (Y : Nat → Nat) (A : Nat → Prop) (o : Nat) (al : Nat → Nat) (mu : Rm) (a v : Int32) (np : Nat) (hnp : mu.1 10 0 = nI np) (h20 : np < 20) (a1 : 0 ≤ a) (a2 : a ≤ mu.1 4 0 - 1) (b1 : 0 ≤ v) (b2 : v ≤ 100000) (hn : ¬ mu.1 10 0 = 20) : CT l yX6_addProduct (Cond.code yX6_addProduct cX6_addProduct 4 (some .int)) 1 22 D Y A [.ref o, .int a, .int v] (WR D Y A o al mu) (fun _ : Unit => some (.int (((nI np) + 1) - 1))) (fun _ : Unit => WR D Y A o al (rI (r_fillP (rI (rI mu 25 0 0) 11 (nI np).toNatClampNeg a) (5 * nI np) v 5) 10 0 ((nI np) + 1))) noX 0 0 := by
  refine CT.of (by decide) (Nat.le_of_ble_eq_true rfl) ?_
  intro p_ e_ s_ m_ below_ meth_ c_ C0 K0 hr hlk htab hnm_
  refine k_aload_n C0 dX6_addProduct_0 0 rfl ?_
  refine k_iload_n C0 dX6_addProduct_1 1 rfl ?_
  refine k_iconst C0 0 dX6_addProduct_2 (by decide) ?_
  refine k_aload_n C0 dX6_addProduct_3 0 rfl ?_
  refine r_getI C0 K0 4 (mu.1 4 0) dX6_addProduct_4 (tC 220 rfl rfl) (by decide) rfl (rg_4 al _) rfl ?_
  refine k_iconst C0 1 dX6_addProduct_7 (by decide) ?_
  refine k_isub C0 dX6_addProduct_8 ?_
  refine k_callS C0 K0 dX6_addProduct_9 (ct_in1 l D Y A _ a (0 : Int32) ((mu.1 4 0) - 1) a1 a2) gkX6_69 hyX6_in rfl (by exact Nat.le_of_ble_eq_true rfl) ⟨Nat.le_of_ble_eq_true rfl, Nat.le_of_ble_eq_true rfl⟩ ⟨Nat.le_of_ble_eq_true rfl, Nat.le_of_ble_eq_true rfl⟩ (fun E => kX_no E) (fun u => ?_)
  refine k_if_ne C0 19 dX6_addProduct_12 (by decide) (fun _ => ?_) (fun zz => absurd zz (by decide))
  refine k_iload_n C0 dX6_addProduct_19 2 rfl ?_
  refine k_iconst C0 0 dX6_addProduct_20 (by decide) ?_
  refine k_ldc C0 (v := 100000) dX6_addProduct_21 (tD 76 rfl rfl) ?_
  refine k_callS C0 K0 dX6_addProduct_23 (ct_in1 l D Y A _ v (0 : Int32) (100000 : Int32) b1 b2) gkX6_69 hyX6_in rfl (by exact Nat.le_of_ble_eq_true rfl) ⟨Nat.le_of_ble_eq_true rfl, Nat.le_of_ble_eq_true rfl⟩ ⟨Nat.le_of_ble_eq_true rfl, Nat.le_of_ble_eq_true rfl⟩ (fun E => kX_no E) (fun u => ?_)
  refine k_if_ne C0 33 dX6_addProduct_26 (by decide) (fun _ => ?_) (fun zz => absurd zz (by decide))
  refine k_aload_n C0 dX6_addProduct_33 0 rfl ?_
  refine r_getI C0 K0 10 (mu.1 10 0) dX6_addProduct_34 (tC 226 rfl rfl) (by decide) rfl (rg_10 al _) rfl ?_
  refine k_bipush C0 20 dX6_addProduct_37 (by decide) ?_
  refine k_icmp_ne C0 46 dX6_addProduct_39 (by decide) (fun _ => ?_) (fun zz => absurd zz hn)
  refine k_iconst C0 0 dX6_addProduct_46 (by decide) ?_
  refine r_putS C0 K0 25 dX6_addProduct_47 (tD 1 rfl rfl) (by decide) rfl rfl (by decide +kernel) (rs_25 al _ _) (by decide) ?_
  refine k_aload_n C0 dX6_addProduct_50 0 rfl ?_
  refine r_getI C0 K0 25 0 dX6_addProduct_51 (tD 1 rfl rfl) (by decide) rfl (rg_25 al _) rI_at ?_
  refine k_if_le C0 59 dX6_addProduct_54 (by decide) (fun _ => ?_) (fun zz => absurd (by decide) zz)
  refine k_aload_n C0 dX6_addProduct_59 0 rfl ?_
  refine r_get C0 K0 11 dX6_addProduct_60 (tC 227 rfl rfl) (by decide) rfl rfl ?_
  refine k_aload_n C0 dX6_addProduct_63 0 rfl ?_
  refine r_getI C0 K0 10 (nI np) dX6_addProduct_64 (tC 226 rfl rfl) (by decide) rfl (rg_10 al _) hnp ?_
  refine k_iload_n C0 dX6_addProduct_67 1 rfl ?_
  refine r_iast C0 K0 11 dX6_addProduct_68 (by decide) (vp_in_nI h20 (by decide)) ?_
  refine k_iconst C0 0 dX6_addProduct_69 (by decide) ?_
  refine k_istore_n C0 [(3, _), (0, _), (1, _), (2, _)] dX6_addProduct_70 (by decide) rfl ?_
  refine lp_addProduct C0 K0 (rI (rI mu 25 0 0) 11 (nI np).toNatClampNeg a) a v np hnp h20 ?_ 5 0 rfl
  refine k_aload_n C0 dX6_addProduct_96 1 rfl ?_
  refine k_dup C0 dX6_addProduct_97 rfl ?_
  refine r_getI C0 K0 10 (nI np) dX6_addProduct_98 (tC 226 rfl rfl) (by decide) rfl (rg_10 al _) ((congrFun (r_fillP_ne (rI (rI mu 25 0 0) 11 (nI np).toNatClampNeg a) (5 * nI np) v 10 (by decide) 5) 0).trans hnp) ?_
  refine k_iconst C0 1 dX6_addProduct_101 (by decide) ?_
  refine k_iadd C0 dX6_addProduct_102 ?_
  refine r_putS C0 K0 10 dX6_addProduct_103 (tC 226 rfl rfl) (by decide) rfl rfl (by decide +kernel) (rs_10 al _ _) (by decide) ?_
  refine k_aload_n C0 dX6_addProduct_106 1 rfl ?_
  refine r_getI C0 K0 10 ((nI np) + 1) dX6_addProduct_107 (tC 226 rfl rfl) (by decide) rfl (rg_10 al _) rI_at ?_
  refine k_iconst C0 1 dX6_addProduct_110 (by decide) ?_
  refine k_isub C0 dX6_addProduct_111 ?_
  exact k_iret C0 dX6_addProduct_112 hr hlk (Nat.le_of_ble_eq_true rfl) (Nat.le_of_ble_eq_true rfl) () rfl (fun H h => h)
set_option maxRecDepth 100000 in
set_option maxHeartbeats 4000000 in
theorem lp_closes {p : Program} {l : Launch} {e : Env} {R : Room} {s_ : State} {m_ : MethodId} {args_ : Array Value} {below_ : List Frame} {meth_ : Method} {c_ : Code} {Q : State → Prop} {D : va_G} {Y : Nat → Nat} {A : Nat → Prop} {k n : Nat} {o : Nat} {al : Nat → Nat} (C0 : CallFix p m_ c_ cX6_closes 5 s_ args_ TT RX6) (K0 : PK D Y A s_) (mu : Rm) (mo : Int32) (nm j : Nat) (hnm : mu.1 4 0 = nI nm) (h6 : nm ≤ 6) (hmo : mo = nI j) (h120 : j < 120) (exit : kG p l e R s_ m_ args_ below_ meth_ c_ Q A 5 (WR D Y A o al (r_closeN mu mo nm)) k n 95 [(2, .int (nI nm)), (0, .ref o), (1, .int mo)] []) : ∀ (d i : Nat), i + d = nm → kG p l e R s_ m_ args_ below_ meth_ c_ Q A 5 (WR D Y A o al (r_closeN mu mo i)) k n 2 [(2, .int (nI i)), (0, .ref o), (1, .int mo)] [] := by
  intro d
  induction d with
  | zero =>
    intro i hi
    have hb : i = nm := by omega
    subst hb
    refine k_iload_n C0 dX6_closes_2 0 rfl ?_
    refine k_aload_n C0 dX6_closes_3 1 rfl ?_
    refine r_getI C0 K0 4 (nI i) dX6_closes_4 (tC 220 rfl rfl) (by decide) rfl (rg_4 al _) ((congrFun (r_closeN_ne mu mo 4 (by decide) (by decide) (by decide) i) 0).trans hnm) ?_
    refine k_icmp_ge C0 95 dX6_closes_7 (by decide) (fun _ => ?_) (fun zz => absurd (nI_le (Nat.le_refl i) (by omega)) zz)
    exact exit
  | succ d ih =>
    intro i hi
    refine k_iload_n C0 dX6_closes_2 0 rfl ?_
    refine k_aload_n C0 dX6_closes_3 1 rfl ?_
    refine r_getI C0 K0 4 (nI nm) dX6_closes_4 (tC 220 rfl rfl) (by decide) rfl (rg_4 al _) ((congrFun (r_closeN_ne mu mo 4 (by decide) (by decide) (by decide) i) 0).trans hnm) ?_
    refine k_icmp_ge C0 95 dX6_closes_7 (by decide) (fun zz => absurd zz (nI_ge (a := i) (b := nm) (by omega) (by omega))) (fun _ => ?_)
    refine k_aload_n C0 dX6_closes_10 1 rfl ?_
    refine r_get C0 K0 8 dX6_closes_11 (tC 224 rfl rfl) (by decide) rfl rfl ?_
    refine k_iload_n C0 dX6_closes_14 0 rfl ?_
    refine r_iald C0 K0 8 dX6_closes_15 (by decide) (show vp_in (nI i) 6 from vp_in_nI (by omega) (by decide)) (v := (r_closeN mu mo i).1 8 ((nI i).toNatClampNeg)) rfl ?_
    refine k_aload_n C0 dX6_closes_16 1 rfl ?_
    refine r_get C0 K0 7 dX6_closes_17 (tC 223 rfl rfl) (by decide) rfl rfl ?_
    refine k_iload_n C0 dX6_closes_20 0 rfl ?_
    refine r_iald C0 K0 7 dX6_closes_21 (by decide) (show vp_in (nI i) 6 from vp_in_nI (by omega) (by decide)) (v := (r_closeN mu mo i).1 7 ((nI i).toNatClampNeg)) rfl ?_
    refine k_iadd C0 dX6_closes_22 ?_
    refine k_istore_n C0 [(3, _), (2, _), (0, _), (1, _)] dX6_closes_23 (by decide) rfl ?_
    refine k_iload_n C0 dX6_closes_24 0 rfl ?_
    refine k_if_le C0 42 dX6_closes_25 (by decide) (fun h25 => ?_) (fun h25 => ?_)
    ·
      refine k_iconst C0 0 dX6_closes_42 (by decide) ?_
      refine k_istore C0 [(4, _), (3, _), (2, _), (0, _), (1, _)] dX6_closes_43 (by decide) rfl ?_
      refine k_aload_n C0 dX6_closes_45 3 rfl ?_
      refine r_get C0 K0 9 dX6_closes_46 (tC 225 rfl rfl) (by decide) rfl rfl ?_
      refine k_bipush C0 120 dX6_closes_49 (by decide) ?_
      refine k_iload_n C0 dX6_closes_51 2 rfl ?_
      refine k_imul C0 dX6_closes_52 ?_
      refine k_iload_n C0 dX6_closes_53 4 rfl ?_
      refine k_iadd C0 dX6_closes_54 ?_
      refine k_iload C0 dX6_closes_55 0 rfl ?_
      refine k_if_eq C0 64 dX6_closes_57 (by decide) (fun _ => ?_) (fun zz => absurd (by decide) zz)
      refine k_iconst C0 0 dX6_closes_64 (by decide) ?_
      refine r_iast C0 K0 9 dX6_closes_65 (by decide) (by rw [hmo]; exact vp_m120 (by omega) h120) ?_
      refine k_aload_n C0 dX6_closes_66 3 rfl ?_
      refine r_get C0 K0 8 dX6_closes_67 (tC 224 rfl rfl) (by decide) rfl rfl ?_
      refine k_iload_n C0 dX6_closes_70 2 rfl ?_
      refine k_iload C0 dX6_closes_71 0 rfl ?_
      refine k_if_eq C0 80 dX6_closes_73 (by decide) (fun _ => ?_) (fun zz => absurd (by decide) zz)
      refine k_iload_n C0 dX6_closes_80 1 rfl ?_
      refine r_iast C0 K0 8 dX6_closes_81 (by decide) (show vp_in (nI i) 6 from vp_in_nI (by omega) (by decide)) ?_
      refine k_aload_n C0 dX6_closes_82 3 rfl ?_
      refine r_get C0 K0 7 dX6_closes_83 (tC 223 rfl rfl) (by decide) rfl rfl ?_
      refine k_iload_n C0 dX6_closes_86 2 rfl ?_
      refine k_iconst C0 0 dX6_closes_87 (by decide) ?_
      refine r_iast C0 K0 7 dX6_closes_88 (by decide) (show vp_in (nI i) 6 from vp_in_nI (by omega) (by decide)) ?_
      refine k_iinc C0 (nI (i + 1)) [(2, _), (4, _), (3, _), (0, _), (1, _)] dX6_closes_89 2 rfl (nI_1 i) (by decide) rfl ?_
      refine k_goto C0 2 dX6_closes_92 (by decide) ?_
      first | refine k_W (V' := WR D Y A o al (r_closeN mu mo (i + 1))) (fun H h => by rw [r_closeN]; unfold r_close1; rw [if_neg (fun z => Int32.not_lt.mpr h25 z.1), if_neg (fun z => Int32.not_lt.mpr h25 z.1)]; exact h) ?_ | refine k_W (V' := WR D Y A o al (r_closeN mu mo (i + 1))) (fun H h => by rw [r_closeN]; unfold r_close1; rw [if_neg (fun z => Int32.not_le.mpr h35 z.2), if_neg (fun z => Int32.not_le.mpr h35 z.2)]; exact h) ?_ | refine k_W (V' := WR D Y A o al (r_closeN mu mo (i + 1))) (fun H h => by rw [r_closeN]; unfold r_close1; rw [if_pos ⟨Int32.not_le.mp h25, Int32.not_lt.mp h35⟩, if_pos ⟨Int32.not_le.mp h25, Int32.not_lt.mp h35⟩]; exact h) ?_
      refine k_lv [0, 3, 4] rfl ?_
      exact ih (i + 1) (by omega)
    ·
      refine k_iload_n C0 dX6_closes_28 0 rfl ?_
      refine k_aload_n C0 dX6_closes_29 2 rfl ?_
      refine r_get C0 K0 5 dX6_closes_30 (tC 221 rfl rfl) (by decide) rfl rfl ?_
      refine k_iload_n C0 dX6_closes_33 1 rfl ?_
      refine r_iald C0 K0 5 dX6_closes_34 (by decide) (show vp_in (nI i) 6 from vp_in_nI (by omega) (by decide)) (v := (r_closeN mu mo i).1 5 ((nI i).toNatClampNeg)) rfl ?_
      refine k_icmp_lt C0 42 dX6_closes_35 (by decide) (fun h35 => ?_) (fun h35 => ?_)
      ·
        refine k_iconst C0 0 dX6_closes_42 (by decide) ?_
        refine k_istore C0 [(4, _), (3, _), (2, _), (0, _), (1, _)] dX6_closes_43 (by decide) rfl ?_
        refine k_aload_n C0 dX6_closes_45 3 rfl ?_
        refine r_get C0 K0 9 dX6_closes_46 (tC 225 rfl rfl) (by decide) rfl rfl ?_
        refine k_bipush C0 120 dX6_closes_49 (by decide) ?_
        refine k_iload_n C0 dX6_closes_51 2 rfl ?_
        refine k_imul C0 dX6_closes_52 ?_
        refine k_iload_n C0 dX6_closes_53 4 rfl ?_
        refine k_iadd C0 dX6_closes_54 ?_
        refine k_iload C0 dX6_closes_55 0 rfl ?_
        refine k_if_eq C0 64 dX6_closes_57 (by decide) (fun _ => ?_) (fun zz => absurd (by decide) zz)
        refine k_iconst C0 0 dX6_closes_64 (by decide) ?_
        refine r_iast C0 K0 9 dX6_closes_65 (by decide) (by rw [hmo]; exact vp_m120 (by omega) h120) ?_
        refine k_aload_n C0 dX6_closes_66 3 rfl ?_
        refine r_get C0 K0 8 dX6_closes_67 (tC 224 rfl rfl) (by decide) rfl rfl ?_
        refine k_iload_n C0 dX6_closes_70 2 rfl ?_
        refine k_iload C0 dX6_closes_71 0 rfl ?_
        refine k_if_eq C0 80 dX6_closes_73 (by decide) (fun _ => ?_) (fun zz => absurd (by decide) zz)
        refine k_iload_n C0 dX6_closes_80 1 rfl ?_
        refine r_iast C0 K0 8 dX6_closes_81 (by decide) (show vp_in (nI i) 6 from vp_in_nI (by omega) (by decide)) ?_
        refine k_aload_n C0 dX6_closes_82 3 rfl ?_
        refine r_get C0 K0 7 dX6_closes_83 (tC 223 rfl rfl) (by decide) rfl rfl ?_
        refine k_iload_n C0 dX6_closes_86 2 rfl ?_
        refine k_iconst C0 0 dX6_closes_87 (by decide) ?_
        refine r_iast C0 K0 7 dX6_closes_88 (by decide) (show vp_in (nI i) 6 from vp_in_nI (by omega) (by decide)) ?_
        refine k_iinc C0 (nI (i + 1)) [(2, _), (4, _), (3, _), (0, _), (1, _)] dX6_closes_89 2 rfl (nI_1 i) (by decide) rfl ?_
        refine k_goto C0 2 dX6_closes_92 (by decide) ?_
        first | refine k_W (V' := WR D Y A o al (r_closeN mu mo (i + 1))) (fun H h => by rw [r_closeN]; unfold r_close1; rw [if_neg (fun z => Int32.not_lt.mpr h25 z.1), if_neg (fun z => Int32.not_lt.mpr h25 z.1)]; exact h) ?_ | refine k_W (V' := WR D Y A o al (r_closeN mu mo (i + 1))) (fun H h => by rw [r_closeN]; unfold r_close1; rw [if_neg (fun z => Int32.not_le.mpr h35 z.2), if_neg (fun z => Int32.not_le.mpr h35 z.2)]; exact h) ?_ | refine k_W (V' := WR D Y A o al (r_closeN mu mo (i + 1))) (fun H h => by rw [r_closeN]; unfold r_close1; rw [if_pos ⟨Int32.not_le.mp h25, Int32.not_lt.mp h35⟩, if_pos ⟨Int32.not_le.mp h25, Int32.not_lt.mp h35⟩]; exact h) ?_
        refine k_lv [0, 3, 4] rfl ?_
        exact ih (i + 1) (by omega)
      ·
        refine k_iconst C0 1 dX6_closes_38 (by decide) ?_
        refine k_goto C0 43 dX6_closes_39 (by decide) ?_
        refine k_istore C0 [(4, _), (3, _), (2, _), (0, _), (1, _)] dX6_closes_43 (by decide) rfl ?_
        refine k_aload_n C0 dX6_closes_45 3 rfl ?_
        refine r_get C0 K0 9 dX6_closes_46 (tC 225 rfl rfl) (by decide) rfl rfl ?_
        refine k_bipush C0 120 dX6_closes_49 (by decide) ?_
        refine k_iload_n C0 dX6_closes_51 2 rfl ?_
        refine k_imul C0 dX6_closes_52 ?_
        refine k_iload_n C0 dX6_closes_53 4 rfl ?_
        refine k_iadd C0 dX6_closes_54 ?_
        refine k_iload C0 dX6_closes_55 0 rfl ?_
        refine k_if_eq C0 64 dX6_closes_57 (by decide) (fun zz => absurd zz (by decide)) (fun _ => ?_)
        refine k_iload_n C0 dX6_closes_60 1 rfl ?_
        refine k_goto C0 65 dX6_closes_61 (by decide) ?_
        refine r_iast C0 K0 9 dX6_closes_65 (by decide) (by rw [hmo]; exact vp_m120 (by omega) h120) ?_
        refine k_aload_n C0 dX6_closes_66 3 rfl ?_
        refine r_get C0 K0 8 dX6_closes_67 (tC 224 rfl rfl) (by decide) rfl rfl ?_
        refine k_iload_n C0 dX6_closes_70 2 rfl ?_
        refine k_iload C0 dX6_closes_71 0 rfl ?_
        refine k_if_eq C0 80 dX6_closes_73 (by decide) (fun zz => absurd zz (by decide)) (fun _ => ?_)
        refine k_iconst C0 0 dX6_closes_76 (by decide) ?_
        refine k_goto C0 81 dX6_closes_77 (by decide) ?_
        refine r_iast C0 K0 8 dX6_closes_81 (by decide) (show vp_in (nI i) 6 from vp_in_nI (by omega) (by decide)) ?_
        refine k_aload_n C0 dX6_closes_82 3 rfl ?_
        refine r_get C0 K0 7 dX6_closes_83 (tC 223 rfl rfl) (by decide) rfl rfl ?_
        refine k_iload_n C0 dX6_closes_86 2 rfl ?_
        refine k_iconst C0 0 dX6_closes_87 (by decide) ?_
        refine r_iast C0 K0 7 dX6_closes_88 (by decide) (show vp_in (nI i) 6 from vp_in_nI (by omega) (by decide)) ?_
        refine k_iinc C0 (nI (i + 1)) [(2, _), (4, _), (3, _), (0, _), (1, _)] dX6_closes_89 2 rfl (nI_1 i) (by decide) rfl ?_
        refine k_goto C0 2 dX6_closes_92 (by decide) ?_
        first | refine k_W (V' := WR D Y A o al (r_closeN mu mo (i + 1))) (fun H h => by rw [r_closeN]; unfold r_close1; rw [if_neg (fun z => Int32.not_lt.mpr h25 z.1), if_neg (fun z => Int32.not_lt.mpr h25 z.1)]; exact h) ?_ | refine k_W (V' := WR D Y A o al (r_closeN mu mo (i + 1))) (fun H h => by rw [r_closeN]; unfold r_close1; rw [if_neg (fun z => Int32.not_le.mpr h35 z.2), if_neg (fun z => Int32.not_le.mpr h35 z.2)]; exact h) ?_ | refine k_W (V' := WR D Y A o al (r_closeN mu mo (i + 1))) (fun H h => by rw [r_closeN]; unfold r_close1; rw [if_pos ⟨Int32.not_le.mp h25, Int32.not_lt.mp h35⟩, if_pos ⟨Int32.not_le.mp h25, Int32.not_lt.mp h35⟩]; exact h) ?_
        refine k_lv [0, 3, 4] rfl ?_
        exact ih (i + 1) (by omega)
set_option maxRecDepth 100000 in
set_option maxHeartbeats 4000000 in
theorem ct_closes (l : Launch) (D : va_G) (Y : Nat → Nat) (A : Nat → Prop) (o : Nat) (al : Nat → Nat) (mu : Rm) (mo : Int32) (nm j : Nat) (hnm : mu.1 4 0 = nI nm) (h6 : nm ≤ 6) (hmo : mo = nI j) (h120 : j < 120) : CT l yX6_closes (Cond.code yX6_closes cX6_closes 5 none) 0 0 D Y A [.ref o, .int mo] (WR D Y A o al mu) (fun _ : Unit => none) (fun _ : Unit => WR D Y A o al (r_closeN mu mo nm)) noX 0 0 := by
  refine CT.of (by decide) (Nat.le_of_ble_eq_true rfl) ?_
  intro p_ e_ s_ m_ below_ meth_ c_ C0 K0 hr hlk htab hnm_
  refine k_iconst C0 0 dX6_closes_0 (by decide) ?_
  refine k_istore_n C0 [(2, _), (0, _), (1, _)] dX6_closes_1 (by decide) rfl ?_
  refine lp_closes C0 K0 mu mo nm j hnm h6 hmo h120 ?_ nm 0 (by omega)
  exact k_vret C0 dX6_closes_95 hr hlk (Nat.le_of_ble_eq_true rfl) (Nat.le_of_ble_eq_true rfl) () rfl (fun H h => h)
set_option maxRecDepth 100000 in
set_option maxHeartbeats 4000000 in
theorem ct_pays_0 (l : Launch) (D : va_G) (Y : Nat → Nat) (A : Nat → Prop) (o : Nat) (al : Nat → Nat) (mu : Rm) (i : Int32) (hk : r_payOK mu i) (hf : mu.1 22 i.toNatClampNeg = 1) : CT l yX6_pays (Cond.code yX6_pays cX6_pays 4 (some .boolean)) 6 200 D Y A [.ref o, .int i] (WR D Y A o al mu) (fun _ : Unit => some (.int 0)) (fun _ : Unit => WR D Y A o al (r_payF mu i)) noX 0 0 := by
  refine CT.of (by decide) (Nat.le_of_ble_eq_true rfl) ?_
  intro p_ e_ s_ m_ below_ meth_ c_ C0 K0 hr hlk htab hnm_
  refine k_aload_n C0 dX6_pays_0 0 rfl ?_
  refine r_get C0 K0 22 dX6_pays_1 (tC 238 rfl rfl) (by decide) rfl rfl ?_
  refine k_iload_n C0 dX6_pays_4 1 rfl ?_
  refine r_iald C0 K0 22 dX6_pays_5 (by decide) hk.1 (v := mu.1 22 i.toNatClampNeg) rfl ?_
  refine k_iconst C0 1 dX6_pays_6 (by decide) ?_
  refine k_icmp_ne C0 49 dX6_pays_7 (by decide) (fun zz => absurd hf zz) (fun _ => ?_)
  refine k_aload_n C0 dX6_pays_10 0 rfl ?_
  refine r_get C0 K0 19 dX6_pays_11 (tC 235 rfl rfl) (by decide) rfl rfl ?_
  refine k_iload_n C0 dX6_pays_14 1 rfl ?_
  refine k_dup2 C0 dX6_pays_15 rfl rfl ?_
  refine r_iald C0 K0 19 dX6_pays_16 (by decide) hk.1 (v := mu.1 19 i.toNatClampNeg) rfl ?_
  refine k_iconst C0 1 dX6_pays_17 (by decide) ?_
  refine k_iadd C0 dX6_pays_18 ?_
  refine r_iast C0 K0 19 dX6_pays_19 (by decide) hk.1 ?_
  refine k_aload_n C0 dX6_pays_20 0 rfl ?_
  refine r_get C0 K0 18 dX6_pays_21 (tC 234 rfl rfl) (by decide) rfl rfl ?_
  refine k_iload_n C0 dX6_pays_24 1 rfl ?_
  refine k_aload_n C0 dX6_pays_25 0 rfl ?_
  refine r_get C0 K0 19 dX6_pays_26 (tC 235 rfl rfl) (by decide) rfl rfl ?_
  refine k_iload_n C0 dX6_pays_29 1 rfl ?_
  refine r_iald C0 K0 19 dX6_pays_30 (by decide) hk.1 (v := (rI mu 19 i.toNatClampNeg ((mu.1 19 i.toNatClampNeg) + 1)).1 19 i.toNatClampNeg) rfl ?_
  refine k_bipush C0 6 dX6_pays_31 (by decide) ?_
  refine k_icmp_ne C0 40 dX6_pays_33 (by decide) (fun h33 => ?_) (fun h33 => ?_)
  ·
    refine k_aload_n C0 dX6_pays_40 0 rfl ?_
    refine r_getI C0 K0 0 (mu.1 0 0) dX6_pays_41 (tC 216 rfl rfl) (by decide) rfl (rg_0 al _) (rI_tr (by decide) rfl) ?_
    refine k_iconst C0 1 dX6_pays_44 (by decide) ?_
    refine k_iadd C0 dX6_pays_45 ?_
    refine r_iast C0 K0 18 dX6_pays_46 (by decide) hk.1 ?_
    refine k_iconst C0 0 dX6_pays_47 (by decide) ?_
    exact k_zret C0 dX6_pays_48 hr rfl hlk (Nat.le_of_ble_eq_true rfl) (Nat.le_of_ble_eq_true rfl) () rfl (by unfold r_payF; first | (rw [if_pos h33]; exact fun H h => h) | (rw [if_neg h33]; exact fun H h => h))
  ·
    refine k_iconst C0 (-1) dX6_pays_36 (by decide) ?_
    refine k_goto C0 46 dX6_pays_37 (by decide) ?_
    refine r_iast C0 K0 18 dX6_pays_46 (by decide) hk.1 ?_
    refine k_iconst C0 0 dX6_pays_47 (by decide) ?_
    exact k_zret C0 dX6_pays_48 hr rfl hlk (Nat.le_of_ble_eq_true rfl) (Nat.le_of_ble_eq_true rfl) () rfl (by unfold r_payF; first | (rw [if_pos h33]; exact fun H h => h) | (rw [if_neg h33]; exact fun H h => h))
set_option maxRecDepth 100000 in
set_option maxHeartbeats 4000000 in
theorem ct_pays_1 (l : Launch) (D : va_G) (Y : Nat → Nat) (A : Nat → Prop) (o : Nat) (al : Nat → Nat) (mu : Rm) (i : Int32) (hk : r_payOK mu i) (hf : ¬ mu.1 22 i.toNatClampNeg = 1) : CT l yX6_pays (Cond.code yX6_pays cX6_pays 4 (some .boolean)) 6 200 D Y A [.ref o, .int i] (WR D Y A o al mu) (fun _ : Unit => some (.int 1)) (fun _ : Unit => WR D Y A o al (r_payT mu i)) noX 0 0 := by
  refine CT.of (by decide) (Nat.le_of_ble_eq_true rfl) ?_
  intro p_ e_ s_ m_ below_ meth_ c_ C0 K0 hr hlk htab hnm_
  refine k_aload_n C0 dX6_pays_0 0 rfl ?_
  refine r_get C0 K0 22 dX6_pays_1 (tC 238 rfl rfl) (by decide) rfl rfl ?_
  refine k_iload_n C0 dX6_pays_4 1 rfl ?_
  refine r_iald C0 K0 22 dX6_pays_5 (by decide) hk.1 (v := mu.1 22 i.toNatClampNeg) rfl ?_
  refine k_iconst C0 1 dX6_pays_6 (by decide) ?_
  refine k_icmp_ne C0 49 dX6_pays_7 (by decide) (fun _ => ?_) (fun zz => absurd zz hf)
  refine k_aload_n C0 dX6_pays_49 0 rfl ?_
  refine r_get C0 K0 12 dX6_pays_50 (tC 228 rfl rfl) (by decide) rfl rfl ?_
  refine k_iconst C0 5 dX6_pays_53 (by decide) ?_
  refine k_aload_n C0 dX6_pays_54 0 rfl ?_
  refine r_get C0 K0 16 dX6_pays_55 (tC 232 rfl rfl) (by decide) rfl rfl ?_
  refine k_iload_n C0 dX6_pays_58 1 rfl ?_
  refine r_iald C0 K0 16 dX6_pays_59 (by decide) hk.1 (v := mu.1 16 i.toNatClampNeg) rfl ?_
  refine k_imul C0 dX6_pays_60 ?_
  refine k_aload_n C0 dX6_pays_61 0 rfl ?_
  refine r_get C0 K0 17 dX6_pays_62 (tC 233 rfl rfl) (by decide) rfl rfl ?_
  refine k_iload_n C0 dX6_pays_65 1 rfl ?_
  refine r_iald C0 K0 17 dX6_pays_66 (by decide) hk.1 (v := mu.1 17 i.toNatClampNeg) rfl ?_
  refine k_iadd C0 dX6_pays_67 ?_
  refine r_iald C0 K0 12 dX6_pays_68 (by decide) (hk.2 hf).1 (v := mu.1 12 (((5 * (mu.1 16 i.toNatClampNeg)) + (mu.1 17 i.toNatClampNeg)).toNatClampNeg)) rfl ?_
  refine k_istore_n C0 [(2, _), (0, _), (1, _)] dX6_pays_69 (by decide) rfl ?_
  refine k_join (fun x => x = (if (mu.1 21 i.toNatClampNeg = 1 ∧ mu.1 20 i.toNatClampNeg = 0) then 1 else 0)) 94 0 (fun J1 => ?_) (fun x1 ex1 => ?_)
  ·
    refine k_aload_n C0 dX6_pays_70 1 rfl ?_
    refine r_get C0 K0 21 dX6_pays_71 (tC 237 rfl rfl) (by decide) rfl rfl ?_
    refine k_iload_n C0 dX6_pays_74 2 rfl ?_
    refine r_iald C0 K0 21 dX6_pays_75 (by decide) hk.1 (v := mu.1 21 i.toNatClampNeg) rfl ?_
    refine k_iconst C0 1 dX6_pays_76 (by decide) ?_
    refine k_icmp_ne C0 93 dX6_pays_77 (by decide) (fun h77 => ?_) (fun h77 => ?_)
    ·
      refine k_iconst C0 0 dX6_pays_93 (by decide) ?_
      exact J1 _ (by first | exact (if_neg (fun z => h77 z.1)).symm | exact (if_neg (fun z => h86 z.2)).symm | exact (if_pos ⟨h77, h86⟩).symm)
    ·
      refine k_aload_n C0 dX6_pays_80 1 rfl ?_
      refine r_get C0 K0 20 dX6_pays_81 (tC 236 rfl rfl) (by decide) rfl rfl ?_
      refine k_iload_n C0 dX6_pays_84 2 rfl ?_
      refine r_iald C0 K0 20 dX6_pays_85 (by decide) hk.1 (v := mu.1 20 i.toNatClampNeg) rfl ?_
      refine k_if_ne C0 93 dX6_pays_86 (by decide) (fun h86 => ?_) (fun h86 => ?_)
      ·
        refine k_iconst C0 0 dX6_pays_93 (by decide) ?_
        exact J1 _ (by first | exact (if_neg (fun z => h77 z.1)).symm | exact (if_neg (fun z => h86 z.2)).symm | exact (if_pos ⟨h77, h86⟩).symm)
      ·
        refine k_iconst C0 1 dX6_pays_89 (by decide) ?_
        refine k_goto C0 94 dX6_pays_90 (by decide) ?_
        exact J1 _ (by first | exact (if_neg (fun z => h77 z.1)).symm | exact (if_neg (fun z => h86 z.2)).symm | exact (if_pos ⟨h77, h86⟩).symm)
  ·
    subst ex1
    refine k_istore_n C0 [(3, _), (2, _), (0, _), (1, _)] dX6_pays_94 (by decide) rfl ?_
    refine k_aload_n C0 dX6_pays_95 2 rfl ?_
    refine k_aload_n C0 dX6_pays_96 2 rfl ?_
    refine r_get C0 K0 16 dX6_pays_97 (tC 232 rfl rfl) (by decide) rfl rfl ?_
    refine k_iload_n C0 dX6_pays_100 3 rfl ?_
    refine r_iald C0 K0 16 dX6_pays_101 (by decide) hk.1 (v := mu.1 16 i.toNatClampNeg) rfl ?_
    refine k_aload_n C0 dX6_pays_102 2 rfl ?_
    refine r_get C0 K0 17 dX6_pays_103 (tC 233 rfl rfl) (by decide) rfl rfl ?_
    refine k_iload_n C0 dX6_pays_106 3 rfl ?_
    refine r_iald C0 K0 17 dX6_pays_107 (by decide) hk.1 (v := mu.1 17 i.toNatClampNeg) rfl ?_
    refine k_join (fun x => x = (if (mu.1 21 i.toNatClampNeg = 1 ∧ mu.1 20 i.toNatClampNeg = 0) then mu.1 12 (5 * mu.1 16 i.toNatClampNeg + mu.1 17 i.toNatClampNeg).toNatClampNeg / 2 else mu.1 12 (5 * mu.1 16 i.toNatClampNeg + mu.1 17 i.toNatClampNeg).toNatClampNeg)) 119 0 (fun J2 => ?_) (fun x2 ex2 => ?_)
    ·
      refine k_iload_n C0 dX6_pays_108 0 rfl ?_
      refine k_if_eq C0 118 dX6_pays_109 (by decide) (fun h109 => ?_) (fun h109 => ?_)
      ·
        refine k_iload_n C0 dX6_pays_118 1 rfl ?_
        exact J2 _ (by first | exact sel0 h109 | exact sel1 h109)
      ·
        refine k_iload_n C0 dX6_pays_112 1 rfl ?_
        refine k_iconst C0 2 dX6_pays_113 (by decide) ?_
        refine k_idiv C0 dX6_pays_114 (by decide) ?_
        refine k_goto C0 119 dX6_pays_115 (by decide) ?_
        exact J2 _ (by first | exact sel0 h109 | exact sel1 h109)
    ·
      subst ex2
      refine k_join (fun x => x = (if mu.1 20 i.toNatClampNeg < 12 then 0 else 1)) 135 0 (fun J3 => ?_) (fun x3 ex3 => ?_)
      ·
        refine k_aload_n C0 dX6_pays_119 2 rfl ?_
        refine r_get C0 K0 20 dX6_pays_120 (tC 236 rfl rfl) (by decide) rfl rfl ?_
        refine k_iload_n C0 dX6_pays_123 3 rfl ?_
        refine r_iald C0 K0 20 dX6_pays_124 (by decide) hk.1 (v := mu.1 20 i.toNatClampNeg) rfl ?_
        refine k_bipush C0 12 dX6_pays_125 (by decide) ?_
        refine k_icmp_lt C0 134 dX6_pays_127 (by decide) (fun h127 => ?_) (fun h127 => ?_)
        ·
          refine k_iconst C0 0 dX6_pays_134 (by decide) ?_
          exact J3 _ (by first | exact (if_pos h127).symm | exact (if_neg h127).symm)
        ·
          refine k_iconst C0 1 dX6_pays_130 (by decide) ?_
          refine k_goto C0 135 dX6_pays_131 (by decide) ?_
          exact J3 _ (by first | exact (if_pos h127).symm | exact (if_neg h127).symm)
      ·
        subst ex3
        refine k_callV C0 K0 dX6_pays_135 (ct_sells l D Y A o al mu (mu.1 16 i.toNatClampNeg) (mu.1 17 i.toNatClampNeg) (if (mu.1 21 i.toNatClampNeg = 1 ∧ mu.1 20 i.toNatClampNeg = 0) then mu.1 12 (5 * mu.1 16 i.toNatClampNeg + mu.1 17 i.toNatClampNeg).toNatClampNeg / 2 else mu.1 12 (5 * mu.1 16 i.toNatClampNeg + mu.1 17 i.toNatClampNeg).toNatClampNeg) (if mu.1 20 i.toNatClampNeg < 12 then (0 : Int32) else 1) (hk.2 hf).2) gkX6_114 hyX6_sells (fun H hV => r_recv K0 hV) rfl (by exact Nat.le_of_ble_eq_true rfl) ⟨Nat.le_of_ble_eq_true rfl, Nat.le_of_ble_eq_true rfl⟩ ⟨Nat.le_of_ble_eq_true rfl, Nat.le_of_ble_eq_true rfl⟩ (fun E => kX_no E) (fun _ => k_W (V' := WR D Y A o al (r_payS mu i)) (by unfold r_payS r_payP r_payO r_payPr; exact fun H h => h) ?_)
        refine k_pop C0 dX6_pays_138 rfl ?_
        refine k_aload_n C0 dX6_pays_139 2 rfl ?_
        refine r_get C0 K0 20 dX6_pays_140 (tC 236 rfl rfl) (by decide) rfl rfl ?_
        refine k_iload_n C0 dX6_pays_143 3 rfl ?_
        refine k_dup2 C0 dX6_pays_144 rfl rfl ?_
        refine r_iald C0 K0 20 dX6_pays_145 (by decide) hk.1 (v := (r_payS mu i).1 20 i.toNatClampNeg) rfl ?_
        refine k_iconst C0 1 dX6_pays_146 (by decide) ?_
        refine k_iadd C0 dX6_pays_147 ?_
        refine r_iast C0 K0 20 dX6_pays_148 (by decide) hk.1 ?_
        refine k_aload_n C0 dX6_pays_149 2 rfl ?_
        refine r_get C0 K0 19 dX6_pays_150 (tC 235 rfl rfl) (by decide) rfl rfl ?_
        refine k_iload_n C0 dX6_pays_153 3 rfl ?_
        refine k_iconst C0 0 dX6_pays_154 (by decide) ?_
        refine r_iast C0 K0 19 dX6_pays_155 (by decide) hk.1 ?_
        refine k_aload_n C0 dX6_pays_156 2 rfl ?_
        refine r_get C0 K0 18 dX6_pays_157 (tC 234 rfl rfl) (by decide) rfl rfl ?_
        refine k_iload_n C0 dX6_pays_160 3 rfl ?_
        refine k_aload_n C0 dX6_pays_161 2 rfl ?_
        refine r_getI C0 K0 0 ((r_payS mu i).1 0 0) dX6_pays_162 (tC 216 rfl rfl) (by decide) rfl (rg_0 al _) (rI_tr (by decide) (rI_tr (by decide) rfl)) ?_
        refine k_bipush C0 30 dX6_pays_165 (by decide) ?_
        refine k_iadd C0 dX6_pays_167 ?_
        refine r_iast C0 K0 18 dX6_pays_168 (by decide) hk.1 ?_
        refine k_iconst C0 1 dX6_pays_169 (by decide) ?_
        exact k_zret C0 dX6_pays_170 hr rfl hlk (Nat.le_of_ble_eq_true rfl) (Nat.le_of_ble_eq_true rfl) () rfl (by unfold r_payT; exact fun H h => h)
theorem ct_pays (l : Launch) (D : va_G) (Y : Nat → Nat) (A : Nat → Prop) (o : Nat) (al : Nat → Nat) (mu : Rm) (i : Int32) (hk : r_payOK mu i) : CT l yX6_pays (Cond.code yX6_pays cX6_pays 4 (some .boolean)) 6 200 D Y A [.ref o, .int i] (WR D Y A o al mu) (fun _ : Unit => some (.int (r_pays mu i).1)) (fun _ : Unit => WR D Y A o al (r_pays mu i).2) noX 0 0 := by
  by_cases hf : mu.1 22 i.toNatClampNeg = 1
  · unfold r_pays
    rw [if_pos hf]
    exact ct_pays_0 l D Y A o al mu i hk hf
  · unfold r_pays
    rw [if_neg hf]
    exact ct_pays_1 l D Y A o al mu i hk hf
end
section
def r_plan1 (q : Int32 × Rm) (i : Nat) : Int32 × Rm := if q.2.1 18 (nI i).toNatClampNeg = q.2.1 0 0 then (q.1 + (if (r_pays q.2 (nI i)).1 = 0 then 0 else 1), (r_pays q.2 (nI i)).2) else (q.1 + 0, q.2)
def r_plansN (q : Int32 × Rm) : Nat → Int32 × Rm
  | 0 => q
  | i + 1 => r_plan1 (r_plansN q i) i
def r_yearN (mu : Rm) : Nat → Rm
  | 0 => mu
  | i + 1 => rI (r_yearN mu i) 6 (nI i).toNatClampNeg 0
def r_dayA (mu : Rm) : Rm := rI mu 0 0 (mu.1 0 0 + 1)
def r_dayB (nm : Nat) (mu : Rm) : Rm := if mu.1 0 0 - mu.1 0 0 / 30 * 30 = 0 then r_closeN mu (mu.1 0 0 / 30 - 1) nm else mu
def r_dayC (nm : Nat) (mu : Rm) : Rm := if mu.1 0 0 - mu.1 0 0 / 360 * 360 = 0 then r_yearN mu nm else mu
def r_day0 (nm : Nat) (mu : Rm) : Rm := r_dayC nm (r_dayB nm (r_dayA mu))
def r_day (nm nu : Nat) (q : Int32 × Rm) : Int32 × Rm := r_plansN (q.1, r_day0 nm q.2) nu
def r_passN (nm nu : Nat) (mu : Rm) : Nat → Int32 × Rm
  | 0 => (0, mu)
  | k + 1 => r_day nm nu (r_passN nm nu mu k)
abbrev rKeep (f : Nat) : Prop := f ∉ [0, 3, 6, 7, 8, 9, 13, 18, 19, 20, 23, 24]
theorem rK {f g : Nat} (h : rKeep f) (hg : g ∈ [0, 3, 6, 7, 8, 9, 13, 18, 19, 20, 23, 24]) : f ≠ g := fun z => h (z ▸ hg)
theorem r_counts_ne (mu : Rm) (s : Int64) (g : Int32) (f : Nat) (h3 : f ≠ 3) (h7 : f ≠ 7) (h23 : f ≠ 23) (h24 : f ≠ 24) : (r_counts mu s g).1 f = mu.1 f := (if_neg h3).trans ((if_neg h24).trans ((if_neg h23).trans (if_neg h7)))
theorem r_sells_ne (mu : Rm) (p ld pr old : Int32) (f : Nat) (h3 : f ≠ 3) (h6 : f ≠ 6) (h7 : f ≠ 7) (h13 : f ≠ 13) (h23 : f ≠ 23) (h24 : f ≠ 24) : (r_sells mu p ld pr old).2.1 f = mu.1 f := (if_neg h13).trans ((r_counts_ne _ _ _ f h3 h7 h23 h24).trans (if_neg h6))
theorem r_pays_ne (mu : Rm) (i : Int32) (f : Nat) (h3 : f ≠ 3) (h6 : f ≠ 6) (h7 : f ≠ 7) (h13 : f ≠ 13) (h23 : f ≠ 23) (h24 : f ≠ 24) (h18 : f ≠ 18) (h19 : f ≠ 19) (h20 : f ≠ 20) : (r_pays mu i).2.1 f = mu.1 f := by
  unfold r_pays
  split
  · exact (if_neg h18).trans (if_neg h19)
  · exact (if_neg h18).trans ((if_neg h19).trans ((if_neg h20).trans (r_sells_ne _ _ _ _ _ f h3 h6 h7 h13 h23 h24)))
theorem r_plan1_ne (q : Int32 × Rm) (i f : Nat) (h3 : f ≠ 3) (h6 : f ≠ 6) (h7 : f ≠ 7) (h13 : f ≠ 13) (h23 : f ≠ 23) (h24 : f ≠ 24) (h18 : f ≠ 18) (h19 : f ≠ 19) (h20 : f ≠ 20) : (r_plan1 q i).2.1 f = q.2.1 f := by
  unfold r_plan1
  split
  · exact r_pays_ne _ _ f h3 h6 h7 h13 h23 h24 h18 h19 h20
  · rfl
theorem r_plansN_ne (q : Int32 × Rm) (f : Nat) (h3 : f ≠ 3) (h6 : f ≠ 6) (h7 : f ≠ 7) (h13 : f ≠ 13) (h23 : f ≠ 23) (h24 : f ≠ 24) (h18 : f ≠ 18) (h19 : f ≠ 19) (h20 : f ≠ 20) : ∀ i, (r_plansN q i).2.1 f = q.2.1 f
  | 0 => rfl
  | i + 1 => (r_plan1_ne _ i f h3 h6 h7 h13 h23 h24 h18 h19 h20).trans (r_plansN_ne q f h3 h6 h7 h13 h23 h24 h18 h19 h20 i)
theorem r_yearN_ne (mu : Rm) (f : Nat) (h6 : f ≠ 6) : ∀ i, (r_yearN mu i).1 f = mu.1 f
  | 0 => rfl
  | i + 1 => (if_neg h6).trans (r_yearN_ne mu f h6 i)
theorem r_dayB_ne (nm : Nat) (mu : Rm) (f : Nat) (h7 : f ≠ 7) (h8 : f ≠ 8) (h9 : f ≠ 9) : (r_dayB nm mu).1 f = mu.1 f := by
  unfold r_dayB
  split
  · exact r_closeN_ne mu _ f h7 h8 h9 nm
  · rfl
theorem r_dayC_ne (nm : Nat) (mu : Rm) (f : Nat) (h6 : f ≠ 6) : (r_dayC nm mu).1 f = mu.1 f := by
  unfold r_dayC
  split
  · exact r_yearN_ne mu f h6 nm
  · rfl
theorem r_day0_ne (nm : Nat) (mu : Rm) (f : Nat) (h0 : f ≠ 0) (h6 : f ≠ 6) (h7 : f ≠ 7) (h8 : f ≠ 8) (h9 : f ≠ 9) : (r_day0 nm mu).1 f = mu.1 f := (r_dayC_ne nm _ f h6).trans ((r_dayB_ne nm _ f h7 h8 h9).trans (if_neg h0))
theorem r_day0_0 (nm : Nat) (mu : Rm) : (r_day0 nm mu).1 0 0 = mu.1 0 0 + 1 := (congrFun ((r_dayC_ne nm _ 0 (by decide)).trans (r_dayB_ne nm _ 0 (by decide) (by decide) (by decide))) 0).trans rI_at
theorem r_passN_ne (nm nu : Nat) (mu : Rm) (f : Nat) (h : rKeep f) : ∀ k, (r_passN nm nu mu k).2.1 f = mu.1 f
  | 0 => rfl
  | k + 1 => (r_plansN_ne _ f (rK h (by decide)) (rK h (by decide)) (rK h (by decide)) (rK h (by decide)) (rK h (by decide)) (rK h (by decide)) (rK h (by decide)) (rK h (by decide)) (rK h (by decide)) nu).trans ((r_day0_ne nm _ f (rK h (by decide)) (rK h (by decide)) (rK h (by decide)) (rK h (by decide)) (rK h (by decide))).trans (r_passN_ne nm nu mu f h k))
theorem r_plansN_0 (q : Int32 × Rm) (i : Nat) : (r_plansN q i).2.1 0 = q.2.1 0 := r_plansN_ne q 0 (by decide) (by decide) (by decide) (by decide) (by decide) (by decide) (by decide) (by decide) (by decide) i
theorem r_passN_0 (nm nu : Nat) (mu : Rm) (d : Nat) (h : mu.1 0 0 = nI d) : ∀ k, (r_passN nm nu mu k).2.1 0 0 = nI (d + k)
  | 0 => h
  | k + 1 => by
    show (r_plansN _ nu).2.1 0 0 = _
    rw [congrFun (r_plansN_0 _ nu) 0, r_day0_0, r_passN_0 nm nu mu d h k, nI_1]
    rfl
theorem r_div {d c : Nat} {x : Int32} (h : x = nI d) (hd : d < 2 ^ 31) (hc0 : 0 < c) (hc : c < 2 ^ 31) : x / nI c = nI (d / c) := by rw [h]; exact pk_div hd hc0 hc
theorem r_rem {d c : Nat} {x : Int32} (h : x = nI d) (hd : d < 2 ^ 31) (hc0 : 0 < c) (hc : c < 2 ^ 31) : x - x / nI c * nI c = nI (d % c) := by rw [h]; exact pk_rem hd hc0 hc
theorem r_mon {d : Nat} {x : Int32} (h : x = nI d) (hd : d ≤ 3600) (hz : x - x / 30 * 30 = 0) (h1 : 1 ≤ d) : ∃ j, x / 30 - 1 = nI j ∧ j < 120 := by
  have e1 : x - x / 30 * 30 = nI (d % 30) := r_rem (c := 30) h (by omega) (by decide) (by decide)
  rw [e1] at hz
  have hm : d % 30 = 0 := (nI_eq (b := 0) (by omega) (by decide)).mp hz
  have e2 : x / 30 = nI (d / 30) := r_div (c := 30) h (by omega) (by decide) (by decide)
  refine ⟨d / 30 - 1, ?_, by omega⟩
  rw [e2]
  exact pk_sub (b := 1) (by omega)
theorem gkX6_141 : GoodIn TT (wsV RX6 141 yX6_pays.cls yX6_pays (Cond.code yX6_pays cX6_pays 4 (some .boolean) :: TT)) := goodTV (tD 205 rfl rfl) (tD 207 rfl rfl) (tP 24 rfl) (tA 6 rfl rfl) (tD 208 rfl rfl)
theorem hyX6_pays : yX6_pays.cls ≠ "java/lang/invoke/MethodHandle" ∧ yX6_pays.cls ≠ "java/lang/invoke/VarHandle" ∧ (parseMethodDescriptor yX6_pays.desc).map (fun d => d.parameters.length) = some 1 := by decide +kernel
theorem gkX6_137 : GoodIn TT (wsV RX6 137 yX6_closes.cls yX6_closes (Cond.code yX6_closes cX6_closes 5 none :: TT)) := goodTV (tD 201 rfl rfl) (tD 203 rfl rfl) (tP 23 rfl) (tA 6 rfl rfl) (tD 204 rfl rfl)
theorem hyX6_closes : yX6_closes.cls ≠ "java/lang/invoke/MethodHandle" ∧ yX6_closes.cls ≠ "java/lang/invoke/VarHandle" ∧ (parseMethodDescriptor yX6_closes.desc).map (fun d => d.parameters.length) = some 1 := by decide +kernel
set_option maxRecDepth 100000 in
set_option maxHeartbeats 4000000 in
theorem lp_plans {p : Program} {l : Launch} {e : Env} {R : Room} {s_ : State} {m_ : MethodId} {args_ : Array Value} {below_ : List Frame} {meth_ : Method} {c_ : Code} {Q : State → Prop} {D : va_G} {Y : Nat → Nat} {A : Nat → Prop} {k n : Nat} {o : Nat} {al : Nat → Nat} (C0 : CallFix p m_ c_ cX6_pass 5 s_ args_ TT RX6) (K0 : PK D Y A s_) (q : Int32 × Rm) (dv kv : Int32) (nu : Nat) (hnu : q.2.1 15 0 = nI nu) (h40 : nu ≤ 40) (safe : ∀ i, i < nu → (r_plansN q i).2.1 18 (nI i).toNatClampNeg = (r_plansN q i).2.1 0 0 → r_payOK (r_plansN q i).2 (nI i)) (hR : 7 ≤ R.frames ∧ 223 ≤ R.locals) (hRc : k ≤ R.cells ∧ n ≤ R.slots) (exit : kG p l e R s_ m_ args_ below_ meth_ c_ Q A 5 (WR D Y A o al ((r_plansN q nu).2)) k n 171 [(4, .int (nI nu)), (2, .int ((r_plansN q nu).1)), (0, .ref o), (1, .int dv), (3, .int kv)] []) : ∀ (d i : Nat), i + d = nu → kG p l e R s_ m_ args_ below_ meth_ c_ Q A 5 (WR D Y A o al ((r_plansN q i).2)) k n 125 [(4, .int (nI i)), (2, .int ((r_plansN q i).1)), (0, .ref o), (1, .int dv), (3, .int kv)] [] := by
  intro d
  induction d with
  | zero =>
    intro i hi
    have hb : i = nu := by omega
    subst hb
    refine k_iload C0 dX6_pass_125 0 rfl ?_
    refine k_aload_n C0 dX6_pass_127 2 rfl ?_
    refine r_getI C0 K0 15 (nI i) dX6_pass_128 (tC 231 rfl rfl) (by decide) rfl (rg_15 al _) ((congrFun (r_plansN_ne q 15 (by decide) (by decide) (by decide) (by decide) (by decide) (by decide) (by decide) (by decide) (by decide) i) 0).trans hnu) ?_
    refine k_icmp_ge C0 171 dX6_pass_131 (by decide) (fun _ => ?_) (fun zz => absurd (nI_le (Nat.le_refl i) (by omega)) zz)
    exact exit
  | succ d ih =>
    intro i hi
    refine k_iload C0 dX6_pass_125 0 rfl ?_
    refine k_aload_n C0 dX6_pass_127 2 rfl ?_
    refine r_getI C0 K0 15 (nI nu) dX6_pass_128 (tC 231 rfl rfl) (by decide) rfl (rg_15 al _) ((congrFun (r_plansN_ne q 15 (by decide) (by decide) (by decide) (by decide) (by decide) (by decide) (by decide) (by decide) (by decide) i) 0).trans hnu) ?_
    refine k_icmp_ge C0 171 dX6_pass_131 (by decide) (fun zz => absurd zz (nI_ge (a := i) (b := nu) (by omega) (by omega))) (fun _ => ?_)
    refine k_iload_n C0 dX6_pass_134 1 rfl ?_
    refine k_aload_n C0 dX6_pass_135 2 rfl ?_
    refine r_get C0 K0 18 dX6_pass_136 (tC 234 rfl rfl) (by decide) rfl rfl ?_
    refine k_iload C0 dX6_pass_139 0 rfl ?_
    refine r_iald C0 K0 18 dX6_pass_141 (by decide) (show vp_in (nI i) 40 from vp_in_nI (by omega) (by decide)) (v := ((r_plansN q i).2).1 18 ((nI i).toNatClampNeg)) rfl ?_
    refine k_aload_n C0 dX6_pass_142 2 rfl ?_
    refine r_getI C0 K0 0 (((r_plansN q i).2).1 0 0) dX6_pass_143 (tC 216 rfl rfl) (by decide) rfl (rg_0 al _) rfl ?_
    refine k_icmp_ne C0 162 dX6_pass_146 (by decide) (fun h146 => ?_) (fun h146 => ?_)
    ·
      refine k_iconst C0 0 dX6_pass_162 (by decide) ?_
      refine k_iadd C0 dX6_pass_163 ?_
      refine k_istore_n C0 [(2, _), (4, _), (0, _), (1, _), (3, _)] dX6_pass_164 (by decide) rfl ?_
      refine k_iinc C0 (nI (i + 1)) [(4, _), (2, _), (0, _), (1, _), (3, _)] dX6_pass_165 1 rfl (nI_1 i) (by decide) rfl ?_
      refine k_goto C0 125 dX6_pass_168 (by decide) ?_
      first | refine k_W (V' := WR D Y A o al (r_plansN q (i + 1)).2) (fun H h => by rw [r_plansN]; unfold r_plan1; rw [if_neg h146]; exact h) ?_ | refine k_W (V' := WR D Y A o al (r_plansN q (i + 1)).2) (fun H h => by rw [r_plansN]; unfold r_plan1; rw [if_pos h146]; exact h) ?_
      first | (have en : (r_plansN q i).1 + 0 = (r_plansN q (i + 1)).1 := by rw [r_plansN]; unfold r_plan1; rw [if_neg h146]) | (have en : (r_plansN q i).1 + 0 = (r_plansN q (i + 1)).1 := by rw [r_plansN]; unfold r_plan1; rw [if_pos h146]; show _ = _ + ite _ _ _; rw [if_pos h155]) | (have en : (r_plansN q i).1 + 1 = (r_plansN q (i + 1)).1 := by rw [r_plansN]; unfold r_plan1; rw [if_pos h146]; show _ = _ + ite _ _ _; rw [if_neg h155])
      rw [en]
      exact ih (i + 1) (by omega)
    ·
      refine k_aload_n C0 dX6_pass_149 2 rfl ?_
      refine k_iload C0 dX6_pass_150 0 rfl ?_
      refine k_callV C0 K0 dX6_pass_152 (ct_pays l D Y A o al ((r_plansN q i).2) (nI i) (safe i (by omega) h146)) gkX6_141 hyX6_pays (fun H hV => r_recv K0 hV) rfl (by exact Nat.le_of_ble_eq_true rfl) ⟨Nat.le_trans (Nat.le_of_ble_eq_true rfl) hR.1, Nat.le_trans (Nat.le_of_ble_eq_true rfl) hR.2⟩ hRc (fun E => kX_no E) (fun u => ?_)
      refine k_if_eq C0 162 dX6_pass_155 (by decide) (fun h155 => ?_) (fun h155 => ?_)
      ·
        refine k_iconst C0 0 dX6_pass_162 (by decide) ?_
        refine k_iadd C0 dX6_pass_163 ?_
        refine k_istore_n C0 [(2, _), (4, _), (0, _), (1, _), (3, _)] dX6_pass_164 (by decide) rfl ?_
        refine k_iinc C0 (nI (i + 1)) [(4, _), (2, _), (0, _), (1, _), (3, _)] dX6_pass_165 1 rfl (nI_1 i) (by decide) rfl ?_
        refine k_goto C0 125 dX6_pass_168 (by decide) ?_
        first | refine k_W (V' := WR D Y A o al (r_plansN q (i + 1)).2) (fun H h => by rw [r_plansN]; unfold r_plan1; rw [if_neg h146]; exact h) ?_ | refine k_W (V' := WR D Y A o al (r_plansN q (i + 1)).2) (fun H h => by rw [r_plansN]; unfold r_plan1; rw [if_pos h146]; exact h) ?_
        first | (have en : (r_plansN q i).1 + 0 = (r_plansN q (i + 1)).1 := by rw [r_plansN]; unfold r_plan1; rw [if_neg h146]) | (have en : (r_plansN q i).1 + 0 = (r_plansN q (i + 1)).1 := by rw [r_plansN]; unfold r_plan1; rw [if_pos h146]; show _ = _ + ite _ _ _; rw [if_pos h155]) | (have en : (r_plansN q i).1 + 1 = (r_plansN q (i + 1)).1 := by rw [r_plansN]; unfold r_plan1; rw [if_pos h146]; show _ = _ + ite _ _ _; rw [if_neg h155])
        rw [en]
        exact ih (i + 1) (by omega)
      ·
        refine k_iconst C0 1 dX6_pass_158 (by decide) ?_
        refine k_goto C0 163 dX6_pass_159 (by decide) ?_
        refine k_iadd C0 dX6_pass_163 ?_
        refine k_istore_n C0 [(2, _), (4, _), (0, _), (1, _), (3, _)] dX6_pass_164 (by decide) rfl ?_
        refine k_iinc C0 (nI (i + 1)) [(4, _), (2, _), (0, _), (1, _), (3, _)] dX6_pass_165 1 rfl (nI_1 i) (by decide) rfl ?_
        refine k_goto C0 125 dX6_pass_168 (by decide) ?_
        first | refine k_W (V' := WR D Y A o al (r_plansN q (i + 1)).2) (fun H h => by rw [r_plansN]; unfold r_plan1; rw [if_neg h146]; exact h) ?_ | refine k_W (V' := WR D Y A o al (r_plansN q (i + 1)).2) (fun H h => by rw [r_plansN]; unfold r_plan1; rw [if_pos h146]; exact h) ?_
        first | (have en : (r_plansN q i).1 + 0 = (r_plansN q (i + 1)).1 := by rw [r_plansN]; unfold r_plan1; rw [if_neg h146]) | (have en : (r_plansN q i).1 + 0 = (r_plansN q (i + 1)).1 := by rw [r_plansN]; unfold r_plan1; rw [if_pos h146]; show _ = _ + ite _ _ _; rw [if_pos h155]) | (have en : (r_plansN q i).1 + 1 = (r_plansN q (i + 1)).1 := by rw [r_plansN]; unfold r_plan1; rw [if_pos h146]; show _ = _ + ite _ _ _; rw [if_neg h155])
        rw [en]
        exact ih (i + 1) (by omega)
set_option maxRecDepth 100000 in
set_option maxHeartbeats 4000000 in
theorem lp_year {p : Program} {l : Launch} {e : Env} {R : Room} {s_ : State} {m_ : MethodId} {args_ : Array Value} {below_ : List Frame} {meth_ : Method} {c_ : Code} {Q : State → Prop} {D : va_G} {Y : Nat → Nat} {A : Nat → Prop} {k n : Nat} {o : Nat} {al : Nat → Nat} (C0 : CallFix p m_ c_ cX6_pass 5 s_ args_ TT RX6) (K0 : PK D Y A s_) (mu : Rm) (nv dv kv : Int32) (nm : Nat) (hnm : mu.1 4 0 = nI nm) (h6 : nm ≤ 6) (hz : mu.1 0 0 - mu.1 0 0 / 360 * 360 = 0) (exit : kG p l e R s_ m_ args_ below_ meth_ c_ Q A 5 (WR D Y A o al (r_yearN mu nm)) k n 122 [(4, .int (nI nm)), (2, .int nv), (0, .ref o), (1, .int dv), (3, .int kv)] []) : ∀ (d i : Nat), i + d = nm → kG p l e R s_ m_ args_ below_ meth_ c_ Q A 5 (WR D Y A o al (r_yearN mu i)) k n 88 [(4, .int (nI i)), (2, .int nv), (0, .ref o), (1, .int dv), (3, .int kv)] [] := by
  intro d
  induction d with
  | zero =>
    intro i hi
    have hb : i = nm := by omega
    subst hb
    refine k_iload C0 dX6_pass_88 0 rfl ?_
    refine k_aload_n C0 dX6_pass_90 2 rfl ?_
    refine r_getI C0 K0 4 (nI i) dX6_pass_91 (tC 220 rfl rfl) (by decide) rfl (rg_4 al _) ((congrFun (r_yearN_ne mu 4 (by decide) i) 0).trans hnm) ?_
    refine k_icmp_ge C0 122 dX6_pass_94 (by decide) (fun _ => ?_) (fun zz => absurd (nI_le (Nat.le_refl i) (by omega)) zz)
    exact exit
  | succ d ih =>
    intro i hi
    refine k_iload C0 dX6_pass_88 0 rfl ?_
    refine k_aload_n C0 dX6_pass_90 2 rfl ?_
    refine r_getI C0 K0 4 (nI nm) dX6_pass_91 (tC 220 rfl rfl) (by decide) rfl (rg_4 al _) ((congrFun (r_yearN_ne mu 4 (by decide) i) 0).trans hnm) ?_
    refine k_icmp_ge C0 122 dX6_pass_94 (by decide) (fun zz => absurd zz (nI_ge (a := i) (b := nm) (by omega) (by omega))) (fun _ => ?_)
    refine k_aload_n C0 dX6_pass_97 2 rfl ?_
    refine r_getI C0 K0 0 (mu.1 0 0) dX6_pass_98 (tC 216 rfl rfl) (by decide) rfl (rg_0 al _) (congrFun (r_yearN_ne mu 0 (by decide) i) 0) ?_
    refine k_sipush C0 360 dX6_pass_101 (by decide) ?_
    refine k_irem C0 dX6_pass_104 (by decide) ?_
    refine k_if_ne C0 122 dX6_pass_105 (by decide) (fun zz => absurd hz zz) (fun _ => ?_)
    refine k_aload_n C0 dX6_pass_108 2 rfl ?_
    refine r_get C0 K0 6 dX6_pass_109 (tC 222 rfl rfl) (by decide) rfl rfl ?_
    refine k_iload C0 dX6_pass_112 0 rfl ?_
    refine k_iconst C0 0 dX6_pass_114 (by decide) ?_
    refine r_iast C0 K0 6 dX6_pass_115 (by decide) (show vp_in (nI i) 6 from vp_in_nI (by omega) (by decide)) ?_
    refine k_iinc C0 (nI (i + 1)) [(4, _), (2, _), (0, _), (1, _), (3, _)] dX6_pass_116 0 rfl (nI_1 i) (by decide) rfl ?_
    refine k_goto C0 88 dX6_pass_119 (by decide) ?_
    exact ih (i + 1) (by omega)
set_option maxRecDepth 100000 in
set_option maxHeartbeats 4000000 in
theorem lp_yearZ {p : Program} {l : Launch} {e : Env} {R : Room} {s_ : State} {m_ : MethodId} {args_ : Array Value} {below_ : List Frame} {meth_ : Method} {c_ : Code} {Q : State → Prop} {D : va_G} {Y : Nat → Nat} {A : Nat → Prop} {k n : Nat} {o : Nat} {al : Nat → Nat} (C0 : CallFix p m_ c_ cX6_pass 5 s_ args_ TT RX6) (K0 : PK D Y A s_) (mu : Rm) (nv dv kv : Int32) (nm : Nat) (hnm : mu.1 4 0 = nI nm) (h6 : nm ≤ 6) (exit : ∀ z : Int32, kG p l e R s_ m_ args_ below_ meth_ c_ Q A 5 (WR D Y A o al (r_dayC nm mu)) k n 122 [(4, .int z), (2, .int nv), (0, .ref o), (1, .int dv), (3, .int kv)] []) : kG p l e R s_ m_ args_ below_ meth_ c_ Q A 5 (WR D Y A o al mu) k n 88 [(4, .int (nI 0)), (2, .int nv), (0, .ref o), (1, .int dv), (3, .int kv)] [] := by
  by_cases hz : mu.1 0 0 - mu.1 0 0 / 360 * 360 = 0
  · have ex := exit (nI nm)
    unfold r_dayC at ex
    rw [if_pos hz] at ex
    exact lp_year C0 K0 mu nv dv kv nm hnm h6 hz ex nm 0 (by omega)
  · unfold r_dayC at exit
    rw [if_neg hz] at exit
    refine k_iload C0 dX6_pass_88 0 rfl ?_
    refine k_aload_n C0 dX6_pass_90 2 rfl ?_
    refine r_getI C0 K0 4 (nI nm) dX6_pass_91 (tC 220 rfl rfl) (by decide) rfl (rg_4 al _) hnm ?_
    refine k_icmp_ge C0 122 dX6_pass_94 (by decide) (fun h94 => ?_) (fun h94 => ?_)
    ·
      exact exit _
    ·
      refine k_aload_n C0 dX6_pass_97 2 rfl ?_
      refine r_getI C0 K0 0 (mu.1 0 0) dX6_pass_98 (tC 216 rfl rfl) (by decide) rfl (rg_0 al _) rfl ?_
      refine k_sipush C0 360 dX6_pass_101 (by decide) ?_
      refine k_irem C0 dX6_pass_104 (by decide) ?_
      refine k_if_ne C0 122 dX6_pass_105 (by decide) (fun _ => ?_) (fun zz => absurd zz hz)
      exact exit _
set_option maxRecDepth 100000 in
set_option maxHeartbeats 4000000 in
theorem lp_days {p : Program} {l : Launch} {e : Env} {R : Room} {s_ : State} {m_ : MethodId} {args_ : Array Value} {below_ : List Frame} {meth_ : Method} {c_ : Code} {Q : State → Prop} {D : va_G} {Y : Nat → Nat} {A : Nat → Prop} {k n : Nat} {o : Nat} {al : Nat → Nat} (C0 : CallFix p m_ c_ cX6_pass 5 s_ args_ TT RX6) (K0 : PK D Y A s_) (mu : Rm) (nm nu nd dd : Nat) (hnm : mu.1 4 0 = nI nm) (h6 : nm ≤ 6) (hnu : mu.1 15 0 = nI nu) (h40 : nu ≤ 40) (hth : mu.1 25 0 = 0) (hdd : mu.1 0 0 = nI dd) (h36 : dd + nd ≤ 3600) (safe : ∀ k, k < nd → ∀ i, i < nu → (r_plansN ((r_passN nm nu mu k).1, r_day0 nm (r_passN nm nu mu k).2) i).2.1 18 (nI i).toNatClampNeg = (r_plansN ((r_passN nm nu mu k).1, r_day0 nm (r_passN nm nu mu k).2) i).2.1 0 0 → r_payOK (r_plansN ((r_passN nm nu mu k).1, r_day0 nm (r_passN nm nu mu k).2) i).2 (nI i)) (hR : 7 ≤ R.frames ∧ 223 ≤ R.locals) (hRc : k ≤ R.cells ∧ n ≤ R.slots) (exit : kG p l e R s_ m_ args_ below_ meth_ c_ Q A 5 (WR D Y A o al ((r_passN nm nu mu nd).2)) k n 177 [(3, .int (nI nd)), (2, .int ((r_passN nm nu mu nd).1)), (0, .ref o), (1, .int (nI nd))] []) : ∀ (d i : Nat), i + d = nd → kG p l e R s_ m_ args_ below_ meth_ c_ Q A 5 (WR D Y A o al ((r_passN nm nu mu i).2)) k n 40 [(3, .int (nI i)), (2, .int ((r_passN nm nu mu i).1)), (0, .ref o), (1, .int (nI nd))] [] := by
  intro d
  induction d with
  | zero =>
    intro i hi
    have hb : i = nd := by omega
    subst hb
    refine k_iload_n C0 dX6_pass_40 0 rfl ?_
    refine k_iload_n C0 dX6_pass_41 3 rfl ?_
    refine k_icmp_ge C0 177 dX6_pass_42 (by decide) (fun _ => ?_) (fun zz => absurd (nI_le (Nat.le_refl i) (by omega)) zz)
    exact exit
  | succ d ih =>
    intro i hi
    refine k_iload_n C0 dX6_pass_40 0 rfl ?_
    refine k_iload_n C0 dX6_pass_41 3 rfl ?_
    refine k_icmp_ge C0 177 dX6_pass_42 (by decide) (fun zz => absurd zz (nI_ge (a := i) (b := nd) (by omega) (by omega))) (fun _ => ?_)
    refine k_aload_n C0 dX6_pass_45 2 rfl ?_
    refine r_getI C0 K0 25 0 dX6_pass_46 (tD 1 rfl rfl) (by decide) rfl (rg_25 al _) ((congrFun (r_passN_ne nm nu mu 25 (by decide) i) 0).trans hth) ?_
    refine k_if_ne C0 177 dX6_pass_49 (by decide) (fun zz => absurd (by decide) zz) (fun _ => ?_)
    refine k_aload_n C0 dX6_pass_52 2 rfl ?_
    refine k_dup C0 dX6_pass_53 rfl ?_
    refine r_getI C0 K0 0 (((r_passN nm nu mu i).2).1 0 0) dX6_pass_54 (tC 216 rfl rfl) (by decide) rfl (rg_0 al _) rfl ?_
    refine k_iconst C0 1 dX6_pass_57 (by decide) ?_
    refine k_iadd C0 dX6_pass_58 ?_
    refine r_putS C0 K0 0 dX6_pass_59 (tC 216 rfl rfl) (by decide) rfl rfl (by decide +kernel) (rs_0 al _ _) (by decide) ?_
    refine k_W (V' := WR D Y A o al (r_dayA (r_passN nm nu mu i).2)) (fun H h => h) ?_
    refine k_aload_n C0 dX6_pass_62 2 rfl ?_
    refine r_getI C0 K0 0 ((r_dayA (r_passN nm nu mu i).2).1 0 0) dX6_pass_63 (tC 216 rfl rfl) (by decide) rfl (rg_0 al _) rfl ?_
    refine k_bipush C0 30 dX6_pass_66 (by decide) ?_
    refine k_irem C0 dX6_pass_68 (by decide) ?_
    refine k_if_ne C0 85 dX6_pass_69 (by decide) (fun h69 => ?_) (fun h69 => ?_)
    ·
      first | refine k_W (V' := WR D Y A o al (r_dayB nm (r_dayA (r_passN nm nu mu i).2))) (fun H h => by unfold r_dayB; rw [if_pos h69]; exact h) ?_ | refine k_W (V' := WR D Y A o al (r_dayB nm (r_dayA (r_passN nm nu mu i).2))) (fun H h => by unfold r_dayB; rw [if_neg h69]; exact h) ?_
      refine k_iconst C0 0 dX6_pass_85 (by decide) ?_
      refine k_istore C0 [(4, _), (3, _), (2, _), (0, _), (1, _)] dX6_pass_86 (by decide) rfl ?_
      refine k_lv [0, 2, 3, 4, 1] rfl ?_
      refine lp_yearZ C0 K0 (r_dayB nm (r_dayA (r_passN nm nu mu i).2)) _ _ _ nm ((congrFun (r_dayB_ne nm _ 4 (by decide) (by decide) (by decide)) 0).trans ((congrFun (r_passN_ne nm nu mu 4 (by decide) i) 0).trans hnm)) h6 (fun z => ?_)
      refine k_iconst C0 0 dX6_pass_122 (by decide) ?_
      refine k_istore C0 [(4, _), (2, _), (0, _), (1, _), (3, _)] dX6_pass_123 (by decide) rfl ?_
      refine lp_plans C0 K0 ((r_passN nm nu mu i).1, r_day0 nm (r_passN nm nu mu i).2) _ _ nu ((congrFun (r_day0_ne nm (r_passN nm nu mu i).2 15 (by decide) (by decide) (by decide) (by decide) (by decide)) 0).trans ((congrFun (r_passN_ne nm nu mu 15 (by decide) i) 0).trans hnu)) h40 (safe i (by omega)) ⟨Nat.le_trans (Nat.le_of_ble_eq_true rfl) hR.1, Nat.le_trans (Nat.le_of_ble_eq_true rfl) hR.2⟩ hRc ?_ nu 0 (by omega)
      refine k_iinc C0 (nI (i + 1)) [(3, _), (4, _), (2, _), (0, _), (1, _)] dX6_pass_171 4 rfl (nI_1 i) (by decide) rfl ?_
      refine k_goto C0 40 dX6_pass_174 (by decide) ?_
      refine k_lv [0, 2, 3, 4] rfl ?_
      exact ih (i + 1) (by omega)
    ·
      obtain ⟨j, ej, hj⟩ := r_mon (d := dd + i + 1) (rI_at.trans ((congrArg (fun z : Int32 => z + 1) (r_passN_0 nm nu mu dd hdd i)).trans (nI_1 _))) (by omega) h69 (by omega)
      refine k_aload_n C0 dX6_pass_72 2 rfl ?_
      refine k_aload_n C0 dX6_pass_73 2 rfl ?_
      refine r_getI C0 K0 0 ((r_dayA (r_passN nm nu mu i).2).1 0 0) dX6_pass_74 (tC 216 rfl rfl) (by decide) rfl (rg_0 al _) rfl ?_
      refine k_bipush C0 30 dX6_pass_77 (by decide) ?_
      refine k_idiv C0 dX6_pass_79 (by decide) ?_
      refine k_iconst C0 1 dX6_pass_80 (by decide) ?_
      refine k_isub C0 dX6_pass_81 ?_
      refine k_callV C0 K0 dX6_pass_82 (ct_closes l D Y A o al (r_dayA (r_passN nm nu mu i).2) ((((r_dayA (r_passN nm nu mu i).2).1 0 0) / 30) - 1) nm j ((congrFun (r_passN_ne nm nu mu 4 (by decide) i) 0).trans hnm) h6 ej hj) gkX6_137 hyX6_closes (fun H hV => r_recv K0 hV) rfl (by exact Nat.le_of_ble_eq_true rfl) ⟨Nat.le_trans (Nat.le_of_ble_eq_true rfl) hR.1, Nat.le_trans (Nat.le_of_ble_eq_true rfl) hR.2⟩ hRc (fun E => kX_no E) (fun u => ?_)
      first | refine k_W (V' := WR D Y A o al (r_dayB nm (r_dayA (r_passN nm nu mu i).2))) (fun H h => by unfold r_dayB; rw [if_pos h69]; exact h) ?_ | refine k_W (V' := WR D Y A o al (r_dayB nm (r_dayA (r_passN nm nu mu i).2))) (fun H h => by unfold r_dayB; rw [if_neg h69]; exact h) ?_
      refine k_iconst C0 0 dX6_pass_85 (by decide) ?_
      refine k_istore C0 [(4, _), (3, _), (2, _), (0, _), (1, _)] dX6_pass_86 (by decide) rfl ?_
      refine k_lv [0, 2, 3, 4, 1] rfl ?_
      refine lp_yearZ C0 K0 (r_dayB nm (r_dayA (r_passN nm nu mu i).2)) _ _ _ nm ((congrFun (r_dayB_ne nm _ 4 (by decide) (by decide) (by decide)) 0).trans ((congrFun (r_passN_ne nm nu mu 4 (by decide) i) 0).trans hnm)) h6 (fun z => ?_)
      refine k_iconst C0 0 dX6_pass_122 (by decide) ?_
      refine k_istore C0 [(4, _), (2, _), (0, _), (1, _), (3, _)] dX6_pass_123 (by decide) rfl ?_
      refine lp_plans C0 K0 ((r_passN nm nu mu i).1, r_day0 nm (r_passN nm nu mu i).2) _ _ nu ((congrFun (r_day0_ne nm (r_passN nm nu mu i).2 15 (by decide) (by decide) (by decide) (by decide) (by decide)) 0).trans ((congrFun (r_passN_ne nm nu mu 15 (by decide) i) 0).trans hnu)) h40 (safe i (by omega)) ⟨Nat.le_trans (Nat.le_of_ble_eq_true rfl) hR.1, Nat.le_trans (Nat.le_of_ble_eq_true rfl) hR.2⟩ hRc ?_ nu 0 (by omega)
      refine k_iinc C0 (nI (i + 1)) [(3, _), (4, _), (2, _), (0, _), (1, _)] dX6_pass_171 4 rfl (nI_1 i) (by decide) rfl ?_
      refine k_goto C0 40 dX6_pass_174 (by decide) ?_
      refine k_lv [0, 2, 3, 4] rfl ?_
      exact ih (i + 1) (by omega)
set_option maxRecDepth 100000 in
set_option maxHeartbeats 4000000 in
theorem ct_pass_ok (l : Launch) (D : va_G) (Y : Nat → Nat) (A : Nat → Prop) (o : Nat) (al : Nat → Nat) (mu : Rm) (nm nu nd dd : Nat) (hnm : mu.1 4 0 = nI nm) (h6 : nm ≤ 6) (hnu : mu.1 15 0 = nI nu) (h40 : nu ≤ 40) (hdd : mu.1 0 0 = nI dd) (h1 : 1 ≤ nd) (h400 : nd ≤ 400) (h36 : dd + nd ≤ 3600) (safe : ∀ k, k < nd → ∀ i, i < nu → (r_plansN ((r_passN nm nu (rI mu 25 0 0) k).1, r_day0 nm (r_passN nm nu (rI mu 25 0 0) k).2) i).2.1 18 (nI i).toNatClampNeg = (r_plansN ((r_passN nm nu (rI mu 25 0 0) k).1, r_day0 nm (r_passN nm nu (rI mu 25 0 0) k).2) i).2.1 0 0 → r_payOK (r_plansN ((r_passN nm nu (rI mu 25 0 0) k).1, r_day0 nm (r_passN nm nu (rI mu 25 0 0) k).2) i).2 (nI i)) : CT l yX6_pass (Cond.code yX6_pass cX6_pass 5 (some .int)) 7 223 D Y A [.ref o, .int (nI nd)] (WR D Y A o al mu) (fun _ : Unit => some (.int ((r_passN nm nu (rI mu 25 0 0) nd).1))) (fun _ : Unit => WR D Y A o al ((r_passN nm nu (rI mu 25 0 0) nd).2)) noX 0 0 := by
  refine CT.of (by decide) (Nat.le_of_ble_eq_true rfl) ?_
  intro p_ e_ s_ m_ below_ meth_ c_ C0 K0 hr hlk htab hnm_
  refine k_aload_n C0 dX6_pass_0 0 rfl ?_
  refine k_iload_n C0 dX6_pass_1 1 rfl ?_
  refine k_iconst C0 1 dX6_pass_2 (by decide) ?_
  refine k_sipush C0 400 dX6_pass_3 (by decide) ?_
  refine k_callS C0 K0 dX6_pass_6 (ct_in1 l D Y A _ (nI nd) (1 : Int32) (400 : Int32) (nI_le (a := 1) (by omega) (by omega)) (nI_le (b := 400) (by omega) (by decide))) gkX6_69 hyX6_in rfl (by exact Nat.le_of_ble_eq_true rfl) ⟨Nat.le_of_ble_eq_true rfl, Nat.le_of_ble_eq_true rfl⟩ ⟨Nat.le_of_ble_eq_true rfl, Nat.le_of_ble_eq_true rfl⟩ (fun E => kX_no E) (fun u => ?_)
  refine k_if_ne C0 16 dX6_pass_9 (by decide) (fun _ => ?_) (fun zz => absurd zz (by decide))
  refine k_aload_n C0 dX6_pass_16 0 rfl ?_
  refine r_getI C0 K0 0 (mu.1 0 0) dX6_pass_17 (tC 216 rfl rfl) (by decide) rfl (rg_0 al _) rfl ?_
  refine k_iload_n C0 dX6_pass_20 1 rfl ?_
  refine k_iadd C0 dX6_pass_21 ?_
  refine k_sipush C0 3600 dX6_pass_22 (by decide) ?_
  refine k_icmp_le C0 32 dX6_pass_25 (by decide) (fun _ => ?_) (fun zz => absurd (by rw [hdd, nI_add]; exact nI_le (b := 3600) (by omega) (by decide)) zz)
  refine k_iconst C0 0 dX6_pass_32 (by decide) ?_
  refine r_putS C0 K0 25 dX6_pass_33 (tD 1 rfl rfl) (by decide) rfl rfl (by decide +kernel) (rs_25 al _ _) (by decide) ?_
  refine k_iconst C0 0 dX6_pass_36 (by decide) ?_
  refine k_istore_n C0 [(2, _), (0, _), (1, _)] dX6_pass_37 (by decide) rfl ?_
  refine k_iconst C0 0 dX6_pass_38 (by decide) ?_
  refine k_istore_n C0 [(3, _), (2, _), (0, _), (1, _)] dX6_pass_39 (by decide) rfl ?_
  refine lp_days C0 K0 (rI mu 25 0 0) nm nu nd dd hnm h6 hnu h40 rI_at hdd h36 safe ⟨Nat.le_of_ble_eq_true rfl, Nat.le_of_ble_eq_true rfl⟩ ⟨Nat.le_refl _, Nat.le_refl _⟩ ?_ nd 0 (by omega)
  refine k_iload_n C0 dX6_pass_177 1 rfl ?_
  exact k_iret C0 dX6_pass_178 hr hlk (Nat.le_of_ble_eq_true rfl) (Nat.le_of_ble_eq_true rfl) () rfl (fun H h => h)
set_option maxRecDepth 100000 in
set_option maxHeartbeats 4000000 in
theorem ct_pass_1 (l : Launch) (D : va_G) (Y : Nat → Nat) (A : Nat → Prop) (o : Nat) (al : Nat → Nat) (mu : Rm) (a : Int32) (a1 : ¬ (1 ≤ a ∧ a ≤ 400)) : CT l yX6_pass (Cond.code yX6_pass cX6_pass 5 (some .int)) 7 223 D Y A [.ref o, .int a] (WR D Y A o al mu) (fun _ : Unit => some (.int 0)) (fun _ : Unit => WR D Y A o al (rI mu 25 0 1)) noX 0 0 := by
  refine CT.of (by decide) (Nat.le_of_ble_eq_true rfl) ?_
  intro p_ e_ s_ m_ below_ meth_ c_ C0 K0 hr hlk htab hnm_
  refine k_aload_n C0 dX6_pass_0 0 rfl ?_
  refine k_iload_n C0 dX6_pass_1 1 rfl ?_
  refine k_iconst C0 1 dX6_pass_2 (by decide) ?_
  refine k_sipush C0 400 dX6_pass_3 (by decide) ?_
  refine k_callS C0 K0 dX6_pass_6 (ct_in0 l D Y A _ a (1 : Int32) (400 : Int32) a1) gkX6_69 hyX6_in rfl (by exact Nat.le_of_ble_eq_true rfl) ⟨Nat.le_of_ble_eq_true rfl, Nat.le_of_ble_eq_true rfl⟩ ⟨Nat.le_of_ble_eq_true rfl, Nat.le_of_ble_eq_true rfl⟩ (fun E => kX_no E) (fun u => ?_)
  refine k_if_ne C0 16 dX6_pass_9 (by decide) (fun zz => absurd (by decide) zz) (fun _ => ?_)
  refine k_iconst C0 1 dX6_pass_12 (by decide) ?_
  refine k_goto C0 33 dX6_pass_13 (by decide) ?_
  refine r_putS C0 K0 25 dX6_pass_33 (tD 1 rfl rfl) (by decide) rfl rfl (by decide +kernel) (rs_25 al _ _) (by decide) ?_
  refine k_iconst C0 0 dX6_pass_36 (by decide) ?_
  refine k_istore_n C0 [(2, _), (0, _), (1, _)] dX6_pass_37 (by decide) rfl ?_
  refine k_iconst C0 0 dX6_pass_38 (by decide) ?_
  refine k_istore_n C0 [(3, _), (2, _), (0, _), (1, _)] dX6_pass_39 (by decide) rfl ?_
  refine k_iload_n C0 dX6_pass_40 0 rfl ?_
  refine k_iload_n C0 dX6_pass_41 3 rfl ?_
  refine k_icmp_ge C0 177 dX6_pass_42 (by decide) (fun h42 => ?_) (fun h42 => ?_)
  ·
    refine k_iload_n C0 dX6_pass_177 1 rfl ?_
    exact k_iret C0 dX6_pass_178 hr hlk (Nat.le_of_ble_eq_true rfl) (Nat.le_of_ble_eq_true rfl) () rfl (fun H h => h)
  ·
    refine k_aload_n C0 dX6_pass_45 2 rfl ?_
    refine r_getI C0 K0 25 1 dX6_pass_46 (tD 1 rfl rfl) (by decide) rfl (rg_25 al _) rI_at ?_
    refine k_if_ne C0 177 dX6_pass_49 (by decide) (fun _ => ?_) (fun zz => absurd zz (by decide))
    refine k_iload_n C0 dX6_pass_177 1 rfl ?_
    exact k_iret C0 dX6_pass_178 hr hlk (Nat.le_of_ble_eq_true rfl) (Nat.le_of_ble_eq_true rfl) () rfl (fun H h => h)
set_option maxRecDepth 100000 in
set_option maxHeartbeats 4000000 in
theorem ct_pass_2 (l : Launch) (D : va_G) (Y : Nat → Nat) (A : Nat → Prop) (o : Nat) (al : Nat → Nat) (mu : Rm) (nd : Nat) (h1 : 1 ≤ nd) (h400 : nd ≤ 400) (hb : ¬ mu.1 0 0 + nI nd ≤ 3600) : CT l yX6_pass (Cond.code yX6_pass cX6_pass 5 (some .int)) 7 223 D Y A [.ref o, .int (nI nd)] (WR D Y A o al mu) (fun _ : Unit => some (.int 0)) (fun _ : Unit => WR D Y A o al (rI mu 25 0 2)) noX 0 0 := by
  refine CT.of (by decide) (Nat.le_of_ble_eq_true rfl) ?_
  intro p_ e_ s_ m_ below_ meth_ c_ C0 K0 hr hlk htab hnm_
  refine k_aload_n C0 dX6_pass_0 0 rfl ?_
  refine k_iload_n C0 dX6_pass_1 1 rfl ?_
  refine k_iconst C0 1 dX6_pass_2 (by decide) ?_
  refine k_sipush C0 400 dX6_pass_3 (by decide) ?_
  refine k_callS C0 K0 dX6_pass_6 (ct_in1 l D Y A _ (nI nd) (1 : Int32) (400 : Int32) (nI_le (a := 1) (by omega) (by omega)) (nI_le (b := 400) (by omega) (by decide))) gkX6_69 hyX6_in rfl (by exact Nat.le_of_ble_eq_true rfl) ⟨Nat.le_of_ble_eq_true rfl, Nat.le_of_ble_eq_true rfl⟩ ⟨Nat.le_of_ble_eq_true rfl, Nat.le_of_ble_eq_true rfl⟩ (fun E => kX_no E) (fun u => ?_)
  refine k_if_ne C0 16 dX6_pass_9 (by decide) (fun _ => ?_) (fun zz => absurd zz (by decide))
  refine k_aload_n C0 dX6_pass_16 0 rfl ?_
  refine r_getI C0 K0 0 (mu.1 0 0) dX6_pass_17 (tC 216 rfl rfl) (by decide) rfl (rg_0 al _) rfl ?_
  refine k_iload_n C0 dX6_pass_20 1 rfl ?_
  refine k_iadd C0 dX6_pass_21 ?_
  refine k_sipush C0 3600 dX6_pass_22 (by decide) ?_
  refine k_icmp_le C0 32 dX6_pass_25 (by decide) (fun zz => absurd zz hb) (fun _ => ?_)
  refine k_iconst C0 2 dX6_pass_28 (by decide) ?_
  refine k_goto C0 33 dX6_pass_29 (by decide) ?_
  refine r_putS C0 K0 25 dX6_pass_33 (tD 1 rfl rfl) (by decide) rfl rfl (by decide +kernel) (rs_25 al _ _) (by decide) ?_
  refine k_iconst C0 0 dX6_pass_36 (by decide) ?_
  refine k_istore_n C0 [(2, _), (0, _), (1, _)] dX6_pass_37 (by decide) rfl ?_
  refine k_iconst C0 0 dX6_pass_38 (by decide) ?_
  refine k_istore_n C0 [(3, _), (2, _), (0, _), (1, _)] dX6_pass_39 (by decide) rfl ?_
  refine k_iload_n C0 dX6_pass_40 0 rfl ?_
  refine k_iload_n C0 dX6_pass_41 3 rfl ?_
  refine k_icmp_ge C0 177 dX6_pass_42 (by decide) (fun h42 => ?_) (fun h42 => ?_)
  ·
    refine k_iload_n C0 dX6_pass_177 1 rfl ?_
    exact k_iret C0 dX6_pass_178 hr hlk (Nat.le_of_ble_eq_true rfl) (Nat.le_of_ble_eq_true rfl) () rfl (fun H h => h)
  ·
    refine k_aload_n C0 dX6_pass_45 2 rfl ?_
    refine r_getI C0 K0 25 2 dX6_pass_46 (tD 1 rfl rfl) (by decide) rfl (rg_25 al _) rI_at ?_
    refine k_if_ne C0 177 dX6_pass_49 (by decide) (fun _ => ?_) (fun zz => absurd zz (by decide))
    refine k_iload_n C0 dX6_pass_177 1 rfl ?_
    exact k_iret C0 dX6_pass_178 hr hlk (Nat.le_of_ble_eq_true rfl) (Nat.le_of_ble_eq_true rfl) () rfl (fun H h => h)
end
section
/-! the class's world: kinds and indices. Kinds: 0 the shop, 1 lands, 2 makers, 3 products, 4 sales, 5 subscriptions, 6 payouts, 7 prices, 8 the lands' array, 9 the lists (0 makers, 1 products, 2 sales, 3 subscriptions), 10 the lists' arrays. sg.1: ints by kind, index, field; sg.2: numbers: references by index; 20 k: how many of kind k; 21 L: a list's size; 22 L: its capacity; 23 L: how many places are filled. al: addresses -/
abbrev Sg : Type := (Nat → Nat → Nat → Int32) × (Nat → Nat → Nat → Nat)
def up3 {α : Type} (f : Nat → Nat → Nat → α) (k i j : Nat) (v : α) : Nat → Nat → Nat → α := fun k' i' j' => if k' = k ∧ i' = i ∧ j' = j then v else f k' i' j'
def sI (sg : Sg) (k i j : Nat) (v : Int32) : Sg := (up3 sg.1 k i j v, sg.2)
def sP (sg : Sg) (k i j : Nat) (v : Nat) : Sg := (sg.1, up3 sg.2 k i j v)
def aU (al : Nat → Nat → Nat) (k i q : Nat) : Nat → Nat → Nat := fun k' i' => if k' = k then (if i' = i then q else al k' i') else al k' i'
theorem up3_at {α : Type} {f : Nat → Nat → Nat → α} {k i j : Nat} {v : α} : up3 f k i j v k i j = v := if_pos ⟨rfl, rfl, rfl⟩
theorem up3_k {α : Type} {f : Nat → Nat → Nat → α} {k i j k' i' j' : Nat} {v w : α} (h : k' ≠ k) (e : f k' i' j' = w) : up3 f k i j v k' i' j' = w := (if_neg (fun z => h z.1)).trans e
theorem up3_i {α : Type} {f : Nat → Nat → Nat → α} {k i j k' i' j' : Nat} {v w : α} (h : i' ≠ i) (e : f k' i' j' = w) : up3 f k i j v k' i' j' = w := (if_neg (fun z => h z.2.1)).trans e
theorem up3_j {α : Type} {f : Nat → Nat → Nat → α} {k i j k' i' j' : Nat} {v w : α} (h : j' ≠ j) (e : f k' i' j' = w) : up3 f k i j v k' i' j' = w := (if_neg (fun z => h z.2.2)).trans e
theorem up3_row {f : Nat → Nat → Nat → Int32} {k i j : Nat} {v : Int32} : up3 f k i j v k i = upd (f k i) j v := by
  funext j'
  by_cases h : j' = j
  · subst h; simp [up3, upd]
  · simp [up3, upd, h]
theorem up3_row_ne {α : Type} {f : Nat → Nat → Nat → α} {k i j k' i' : Nat} {v : α} (h : ¬ (k' = k ∧ i' = i)) : up3 f k i j v k' i' = f k' i' := by
  funext j'
  exact if_neg (fun z => h ⟨z.1, z.2.1⟩)
abbrev sN (sg : Sg) (k : Nat) : Nat := sg.2 20 k 0
abbrev sZ (sg : Sg) (L : Nat) : Nat := sg.2 21 L 0
abbrev sC (sg : Sg) (L : Nat) : Nat := sg.2 22 L 0
abbrev sF (sg : Sg) (L : Nat) : Nat := sg.2 23 L 0
def live (sg : Sg) (k i : Nat) : Prop := match k with
  | 0 => i = 0
  | 1 => i < 5
  | 2 => i < sN sg 2
  | 3 => i < sN sg 3
  | 4 => i < sN sg 4
  | 5 => i < sN sg 5
  | 6 => i < sN sg 2
  | 7 => i < sN sg 3
  | 8 => i = 0
  | 9 => i < 4
  | 10 => i < 4 ∧ 0 < sC sg i
  | _ => False
def lEl (fz : Nat) (ad : Nat → Nat) : Nat → Option Nat := fun j => if j < fz then some (ad j) else none
/-- what a cell holds: f its ints, P the numbers -/
def celF (Y : Nat → Nat) (f : Nat → Int32) (P : Nat → Nat → Nat → Nat) (al : Nat → Nat → Nat) (k i : Nat) : va_E := match k with
  | 0 => .inr (6, [.ref (al 8 0), .ref (al 9 0), .ref (al 9 1), .ref (al 9 2), .ref (al 9 3), .int (f 5), .int (f 6), .int (f 7)])
  | 1 => .inr (1, [.int (nI i), .int (f 1), .int (f 2), .int (f 3)])
  | 2 => .inr (2, [.int (f 0), .ref (al 6 i), .int (f 2), .int (f 3), .int (f 4)])
  | 3 => .inr (3, [.int (nI i), .ref (al 2 (P 3 i 1)), .ref (al 7 i)])
  | 4 => .inr (4, [.ref (al 2 (P 4 i 0)), .ref (al 1 (P 4 i 1)), .int (f 2), .int (f 3), .int (f 4), .int (f 5), .int (f 6), .int (f 7), .int (f 8)])
  | 5 => .inr (5, [.ref (al 1 (P 5 i 0)), .int (f 1), .ref (al 3 (P 5 i 2)), .int (f 3), .int (f 4), .int (f 5), .int (f 6)])
  | 6 => .inl (Y 0, 120, .inl f)
  | 7 => .inl (Y 0, 5, .inl f)
  | 8 => .inl (Y 2, 5, .inr (.inr (.inr (.inr (fun j => some (al 1 j))))))
  | 9 => .inr (0, [.int (f 0), .ref (al 10 i), .int (nI (P 21 i 0))])
  | _ => .inl (Y 3, P 22 i 0, .inr (.inr (.inr (.inr (lEl (P 23 i 0) (al (2 + i)))))))
abbrev cel (Y : Nat → Nat) (sg : Sg) (al : Nat → Nat → Nat) (k i : Nat) : va_E := celF Y (sg.1 k i) sg.2 al k i
def WX (D : va_G) (Y : Nat → Nat) (A : Nat → Prop) (sg : Sg) (al : Nat → Nat → Nat) (X : va_W) (H : Heap) : Prop :=
  (∀ k i, live sg k i → va_at D vwCl (al k i, cel Y sg al k i) H ∧ A (al k i)) ∧ (∀ k i k' i', live sg k i → live sg k' i' → al k i = al k' i' → k = k' ∧ i = i') ∧ (∀ L, L < 4 → sC sg L = 0 → al 10 L = Y 4) ∧ (∀ (j : Nat) (x : Nat × va_E), X[j]? = some x → va_at D vwCl x H ∧ A x.1 ∧ ∀ k i, live sg k i → al k i ≠ x.1) ∧ (∀ (i j : Nat) (x y : Nat × va_E), X[i]? = some x → X[j]? = some y → x.1 = y.1 → i = j)
section KW
variable {D : va_G} {Y : Nat → Nat} {A : Nat → Prop} {sg sg' : Sg} {al al' : Nat → Nat → Nat} {X : va_W} {H H' : Heap}
/-- one cell of a kind changes -/
theorem WX.put (h : WX D Y A sg al X H) (k i : Nat) (hl : live sg k i) (hlv : ∀ k' i', live sg' k' i' ↔ live sg k' i') (hC : ∀ L, L < 4 → sC sg' L = sC sg L) (hs : ∀ k' i', live sg k' i' → ¬ (k' = k ∧ i' = i) → cel Y sg' al k' i' = cel Y sg al k' i') (h1 : va_at D vwCl (al k i, cel Y sg' al k i) H') (oq : ∀ q, q ≠ al k i → H'[q]? = H[q]?) : WX D Y A sg' al X H' := by
  refine ⟨fun k' i' hl' => ?_, fun a b c d ha hb => h.2.1 a b c d ((hlv a b).mp ha) ((hlv c d).mp hb), fun L hL hz => h.2.2.1 L hL ((hC L hL).symm.trans hz), fun j x hx => ?_, h.2.2.2.2⟩
  · have hl2 := (hlv k' i').mp hl'
    refine ⟨?_, (h.1 k' i' hl2).2⟩
    by_cases e : k' = k ∧ i' = i
    · obtain ⟨rfl, rfl⟩ := e
      exact h1
    · rw [hs k' i' hl2 e]
      exact (h.1 k' i' hl2).1.kept (oq _ (fun z => e (h.2.1 _ _ _ _ hl2 hl z)))
  · obtain ⟨g1, g2, g3⟩ := h.2.2.2.1 j x hx
    exact ⟨g1.kept (oq _ (fun z => g3 k i hl z.symm)), g2, fun a b hab => g3 a b ((hlv a b).mp hab)⟩
theorem live_I {k i j : Nat} {v : Int32} (k' i' : Nat) : live (sI sg k i j v) k' i' ↔ live sg k' i' := Iff.rfl
theorem WX.putI (h : WX D Y A sg al X H) (k i j : Nat) (v : Int32) (hl : live sg k i) (h1 : va_at D vwCl (al k i, celF Y (upd (sg.1 k i) j v) sg.2 al k i) H') (oq : ∀ q, q ≠ al k i → H'[q]? = H[q]?) : WX D Y A (sI sg k i j v) al X H' :=
  h.put k i hl live_I (fun _ _ => rfl) (fun k' i' _ hne => congrArg (fun f => celF Y f sg.2 al k' i') (up3_row_ne hne)) ((congrArg (fun f => va_at D vwCl (al k i, celF Y f sg.2 al k i) H') (up3_row (f := sg.1))).mpr h1) oq
/-- a cell beside the kinds changes -/
theorem WX.putX (h : WX D Y A sg al X H) (j : Nat) {q : Nat} {e0 e : va_E} (hj : X[j]? = some (q, e0)) (h1 : va_at D vwCl (q, e) H') (oq : ∀ x, x ≠ q → H'[x]? = H[x]?) : WX D Y A sg al (X.set j (q, e)) H' := by
  have hjl := (List.getElem?_eq_some_iff.mp hj).1
  have key : ∀ (k : Nat) (x : Nat × va_E), (X.set j (q, e))[k]? = some x → (k = j ∧ x = (q, e)) ∨ (k ≠ j ∧ X[k]? = some x) := by
    intro k x hx
    by_cases hk : k = j
    · subst hk
      rw [List.getElem?_set_self hjl] at hx
      cases hx
      exact Or.inl ⟨rfl, rfl⟩
    · rw [List.getElem?_set_ne (Ne.symm hk)] at hx
      exact Or.inr ⟨hk, hx⟩
  have hX := h.2.2.2.1 j _ hj
  refine ⟨fun k i hl => ⟨(h.1 k i hl).1.kept (oq _ (hX.2.2 k i hl)), (h.1 k i hl).2⟩, h.2.1, h.2.2.1, fun k x hx => ?_, fun a b x y hx hy hxy => ?_⟩
  · rcases key k x hx with ⟨rfl, rfl⟩ | ⟨hk, hx⟩
    · exact ⟨h1, hX.2⟩
    · obtain ⟨g1, g2, g3⟩ := h.2.2.2.1 k x hx
      exact ⟨g1.kept (oq _ (fun z => hk (h.2.2.2.2 k j x _ hx hj z))), g2, g3⟩
  · have f : ∀ (k : Nat) (x : Nat × va_E), (X.set j (q, e))[k]? = some x → ∃ x0, X[k]? = some x0 ∧ x0.1 = x.1 := by
      intro k x hx
      rcases key k x hx with ⟨rfl, rfl⟩ | ⟨hk, hx⟩
      · exact ⟨_, hj, rfl⟩
      · exact ⟨_, hx, rfl⟩
    obtain ⟨x0, p1, p2⟩ := f a x hx
    obtain ⟨y0, p3, p4⟩ := f b y hy
    exact h.2.2.2.2 a b x0 y0 p1 p3 (p2.trans (hxy.trans p4.symm))
theorem va_at.ltH {q : Nat × va_E} (h : va_at D vwCl q H) : q.1 < H.size := va_at.lt h
/-- a new cell beside the kinds -/
theorem WX.push (h : WX D Y A sg al X H) {e : va_E} (h1 : va_at D vwCl (H.size, e) H') (oq : ∀ x, x < H.size → H'[x]? = H[x]?) (hA : A H.size) : WX D Y A sg al (X ++ [(H.size, e)]) H' := by
  have key : ∀ (k : Nat) (x : Nat × va_E), (X ++ [(H.size, e)])[k]? = some x → (X[k]? = some x ∧ x.1 < H.size) ∨ (k = X.length ∧ x = (H.size, e)) := by
    intro k x hx
    by_cases hl : k < X.length
    · rw [List.getElem?_append_left hl] at hx
      exact Or.inl ⟨hx, (h.2.2.2.1 k x hx).1.ltH⟩
    · rw [List.getElem?_append_right (by omega)] at hx
      have hz : k - X.length < 1 := (List.getElem?_eq_some_iff.mp hx).1
      have hk0 : k = X.length := by omega
      subst hk0
      rw [Nat.sub_self] at hx
      cases hx
      exact Or.inr ⟨rfl, rfl⟩
  refine ⟨fun k i hl => ⟨(h.1 k i hl).1.kept (oq _ (h.1 k i hl).1.ltH), (h.1 k i hl).2⟩, h.2.1, h.2.2.1, fun k x hx => ?_, fun a b x y hx hy hxy => ?_⟩
  · rcases key k x hx with ⟨hx, hlt⟩ | ⟨rfl, rfl⟩
    · obtain ⟨g1, g2, g3⟩ := h.2.2.2.1 k x hx
      exact ⟨g1.kept (oq _ hlt), g2, g3⟩
    · exact ⟨h1, hA, fun k i hl z => absurd (h.1 k i hl).1.ltH (by show ¬ al k i < H.size; rw [z]; exact Nat.lt_irrefl _)⟩
  · rcases key a x hx with ⟨hx, l1⟩ | ⟨rfl, rfl⟩ <;> rcases key b y hy with ⟨hy, l2⟩ | ⟨rfl, rfl⟩
    · exact h.2.2.2.2 a b x y hx hy hxy
    · exact absurd l1 (by rw [hxy]; exact Nat.lt_irrefl _)
    · exact absurd l2 (by rw [← hxy]; exact Nat.lt_irrefl _)
    · rfl
/-- cells beside the kinds come to be of a kind -/
theorem WX.absorb (X0 : va_W) (nu : Nat → Nat × Nat) (h : WX D Y A sg al X H) (h0 : ∀ (j : Nat) (x : Nat × va_E), X0[j]? = some x → ∃ j' : Nat, X[j']? = some x ∧ ∀ k i, nu j' = (k, i) → ¬ live sg' k i) (hX0 : ∀ (i j : Nat) (x y : Nat × va_E), X0[i]? = some x → X0[j]? = some y → x.1 = y.1 → i = j) (hC : ∀ L, L < 4 → sC sg' L = 0 → sC sg L = 0 ∧ al' 10 L = al 10 L)
    (h1 : ∀ k i, live sg' k i → (live sg k i ∧ al' k i = al k i ∧ cel Y sg' al' k i = cel Y sg al k i) ∨ (∃ j : Nat, X[j]? = some (al' k i, cel Y sg' al' k i) ∧ nu j = (k, i))) : WX D Y A sg' al' X0 H := by
  refine ⟨fun k i hl => ?_, fun k i k' i' hl hl' he => ?_, fun L hL hz => ?_, fun j x hx => ?_, hX0⟩
  · rcases h1 k i hl with ⟨a, b, c⟩ | ⟨j, a, b⟩
    · rw [b, c]; exact h.1 k i a
    · obtain ⟨g1, g2, -⟩ := h.2.2.2.1 j _ a
      exact ⟨g1, g2⟩
  · rcases h1 k i hl with ⟨a, b, c⟩ | ⟨j, a, b⟩ <;> rcases h1 k' i' hl' with ⟨a', b', c'⟩ | ⟨j', a', b'⟩
    · exact h.2.1 k i k' i' a a' (by rw [← b, ← b']; exact he)
    · exact absurd ((b.symm.trans he)) ((h.2.2.2.1 j' _ a').2.2 k i a)
    · exact absurd ((b'.symm.trans he.symm)) ((h.2.2.2.1 j _ a).2.2 k' i' a')
    · have hj := h.2.2.2.2 j j' _ _ a a' he
      subst hj
      have := b.symm.trans b'
      exact ⟨congrArg Prod.fst this, congrArg Prod.snd this⟩
  · obtain ⟨a, b⟩ := hC L hL hz
    rw [b]; exact h.2.2.1 L hL a
  · obtain ⟨j', hj', hnu⟩ := h0 j x hx
    obtain ⟨g1, g2, g3⟩ := h.2.2.2.1 j' x hj'
    refine ⟨g1, g2, fun k i hl he => ?_⟩
    rcases h1 k i hl with ⟨a, b, c⟩ | ⟨j2, a, b⟩
    · exact g3 k i a (b.symm.trans he)
    · have hjj := h.2.2.2.2 j2 j' _ _ a hj' he
      subst hjj
      exact hnu k i b hl
end KW
section KWR
variable {p : Program} {l : Launch} {e : Env} {R : Room} {s : State} {m : MethodId} {args : Array Value} {below : List Frame} {meth : Method} {c : Code} {Q : State → Prop}
variable {A : Nat → Prop} {n nL pc kk0 : Nat} {lv : List (Nat × Value)} {st rest : List Value} {cc : ByteArray} {own : String} {D : va_G} {Y : Nat → Nat} {sg : Sg} {al : Nat → Nat → Nat} {X : va_W}
theorem c_get (C0 : CallFix p m c cc nL s args TT own) (K0 : PK D Y A s) (k i : Nat) (hl : live sg k i) {ref C : String} {T : u_T} {N ci index : Nat} {fs : List Value} (he : cel Y sg al k i = .inr (ci, fs)) (hin : ∀ w ∈ u_ws C T N, w ∈ TT) (hc : vwCl[ci]? = some (C, T, N)) (j : Nat) (v : Value) (hj : j < N) (d : decode cc pc = .ok (.getfield index, 3)) (hlink : Cond.fieldLink own index ref (T j).2.1 (T j).2.2.1 ∈ TT) (hsame : ∀ x, s.fieldFound? (T j).1 (T j).2.1 (T j).2.2.1 = some x → s.fieldFound? ref (T j).2.1 (T j).2.2.1 = some x) (hv : fs[j]? = some v)
    (g : kG p l e R s m args below meth c Q A nL (WX D Y A sg al X) kk0 n (pc + 3) lv (v :: st)) : kG p l e R s m args below meth c Q A nL (WX D Y A sg al X) kk0 n pc lv (.ref (al k i) :: st) :=
  k_get C0 K0 hin hc j hj d hlink hsame (fun H hV => he ▸ (hV.1 k i hl).1) hv g
/-- an int field: its value as you name it -/
theorem c_getI (C0 : CallFix p m c cc nL s args TT own) (K0 : PK D Y A s) (k i : Nat) (hl : live sg k i) {ref C : String} {T : u_T} {N ci index : Nat} {fs : List Value} (he : cel Y sg al k i = .inr (ci, fs)) (hin : ∀ w ∈ u_ws C T N, w ∈ TT) (hc : vwCl[ci]? = some (C, T, N)) (j : Nat) (v : Int32) (hj : j < N) (d : decode cc pc = .ok (.getfield index, 3)) (hlink : Cond.fieldLink own index ref (T j).2.1 (T j).2.2.1 ∈ TT) (hsame : ∀ x, s.fieldFound? (T j).1 (T j).2.1 (T j).2.2.1 = some x → s.fieldFound? ref (T j).2.1 (T j).2.2.1 = some x) (hg : fs[j]? = some (.int (sg.1 k i j))) (hv : sg.1 k i j = v)
    (g : kG p l e R s m args below meth c Q A nL (WX D Y A sg al X) kk0 n (pc + 3) lv (.int v :: st)) : kG p l e R s m args below meth c Q A nL (WX D Y A sg al X) kk0 n pc lv (.ref (al k i) :: st) :=
  c_get C0 K0 k i hl he hin hc j _ hj d hlink hsame hg (by rw [hv]; exact g)
theorem c_putI (C0 : CallFix p m c cc nL s args TT own) (K0 : PK D Y A s) (k i : Nat) (hl : live sg k i) {ref C : String} {T : u_T} {N ci index : Nat} {fs : List Value} {v : Int32} {ty : FieldType} (he : cel Y sg al k i = .inr (ci, fs)) (hin : ∀ w ∈ u_ws C T N, w ∈ TT) (hc : vwCl[ci]? = some (C, T, N)) (ty0 : Nat → FieldType) (hty : ∀ k, k < N → parseFieldDescriptor (T k).2.2.1 = some (ty0 k)) (hnm : ∀ a, a < N → ∀ b, b < N → a ≠ b → (T a).2.1 ≠ (T b).2.1) (j : Nat) (hj : j < N) (d : decode cc pc = .ok (.putfield index, 3)) (hlink : Cond.fieldLink own index ref (T j).2.1 (T j).2.2.1 ∈ TT) (hsame : ∀ x, s.fieldFound? (T j).1 (T j).2.1 (T j).2.2.1 = some x → s.fieldFound? ref (T j).2.1 (T j).2.2.1 = some x) (hfin : (T j).2.2.2 = false) (hd : parseFieldDescriptor (T j).2.2.1 = some ty) (hn : narrow ty (.int v) = .int v) (hfit : fits ty (.int v) = true) (hl2 : j < fs.length) (he2 : celF Y (upd (sg.1 k i) j v) sg.2 al k i = .inr (ci, fs.set j (.int v)))
    (g : kG p l e R s m args below meth c Q A nL (WX D Y A (sI sg k i j v) al X) kk0 n (pc + 3) lv st) : kG p l e R s m args below meth c Q A nL (WX D Y A sg al X) kk0 n pc lv (.int v :: .ref (al k i) :: st) :=
  k_put C0 K0 hin hc ty0 hty hnm j hj d hlink hsame hfin hd hn hfit hl2 (fun H hV => ⟨he ▸ (hV.1 k i hl).1, (hV.1 k i hl).2⟩) (fun H H' hV _ h1 oq => hV.putI k i j v hl (he2.symm ▸ h1) oq) g
theorem c_iald (C0 : CallFix p m c cc nL s args TT own) (K0 : PK D Y A s) (k i : Nat) (hl : live sg k i) {N : Nat} {x v : Int32} (he : cel Y sg al k i = .inl (Y 0, N, .inl (sg.1 k i))) (hx : vp_in x N) (d : decode cc pc = .ok (.iaload, 1)) (hv : sg.1 k i x.toNatClampNeg = v)
    (g : kG p l e R s m args below meth c Q A nL (WX D Y A sg al X) kk0 n (pc + 1) lv (.int v :: st)) : kG p l e R s m args below meth c Q A nL (WX D Y A sg al X) kk0 n pc lv (.int x :: .ref (al k i) :: st) :=
  k_iald C0 K0 hx d (fun H hV => he ▸ (hV.1 k i hl).1) (by rw [hv]; exact g)
theorem c_iast (C0 : CallFix p m c cc nL s args TT own) (K0 : PK D Y A s) (k i : Nat) (hl : live sg k i) {N : Nat} {x v : Int32} (he : cel Y sg al k i = .inl (Y 0, N, .inl (sg.1 k i))) (hx : vp_in x N) (d : decode cc pc = .ok (.iastore, 1)) (he2 : celF Y (upd (sg.1 k i) x.toNatClampNeg v) sg.2 al k i = .inl (Y 0, N, .inl (upd (sg.1 k i) x.toNatClampNeg v)))
    (g : kG p l e R s m args below meth c Q A nL (WX D Y A (sI sg k i x.toNatClampNeg v) al X) kk0 n (pc + 1) lv st) : kG p l e R s m args below meth c Q A nL (WX D Y A sg al X) kk0 n pc lv (.int v :: .int x :: .ref (al k i) :: st) :=
  k_iast C0 K0 hx d (fun H hV => ⟨he ▸ (hV.1 k i hl).1, (hV.1 k i hl).2⟩) (fun H H' hV _ h1 oq => hV.putI k i _ v hl (he2.symm ▸ h1) oq) g
theorem c_alen (C0 : CallFix p m c cc nL s args TT own) (K0 : PK D Y A s) (k i : Nat) (hl : live sg k i) {cA : ClassId} {x : vp_A} (he : cel Y sg al k i = .inl (cA, x)) (t0 : Nat) {ty : FieldType} (ht : (kTy Y)[t0]? = some (cA, ty)) (v : Int32) (hv : Int32.ofNat x.1 = v) (d : decode cc pc = .ok (.arraylength, 1))
    (g : kG p l e R s m args below meth c Q A nL (WX D Y A sg al X) kk0 n (pc + 1) lv (.int v :: st)) : kG p l e R s m args below meth c Q A nL (WX D Y A sg al X) kk0 n pc lv (.ref (al k i) :: st) :=
  k_alen C0 K0 t0 ht v hv d (fun H hV => he ▸ (hV.1 k i hl).1) g
theorem c_aald (C0 : CallFix p m c cc nL s args TT own) (K0 : PK D Y A s) (k i : Nat) (hl : live sg k i) {cA : ClassId} {N v : Nat} {C : String} {f : Nat → Option Nat} {x : Int32} (he : cel Y sg al k i = .inl (cA, N, .inr (.inr (.inr (.inr f))))) (t0 : Nat) (ht : (kTy Y)[t0]? = some (cA, .object C)) (hx : vp_in x N) (d : decode cc pc = .ok (.aaload, 1)) (hv : f x.toNatClampNeg = some v)
    (g : kG p l e R s m args below meth c Q A nL (WX D Y A sg al X) kk0 n (pc + 1) lv (.ref v :: st)) : kG p l e R s m args below meth c Q A nL (WX D Y A sg al X) kk0 n pc lv (.int x :: .ref (al k i) :: st) :=
  k_aald C0 K0 ht hx d (fun H hV => he ▸ (hV.1 k i hl).1) hv g
theorem c_recv (K0 : PK D Y A s) (k i : Nat) (hl : live sg k i) {ci : Nat} {q : vw_C} {fs : List Value} (he : cel Y sg al k i = .inr (ci, fs)) (hc : vwCl[ci]? = some q) : ∀ H, WX D Y A sg al X H → ∃ cell : Cell, H[al k i]? = some cell ∧ cell.vm.isStatics = false ∧ s.vm.findClass q.1 = some cell.cls := fun H hV => k_recv K0 hc (he ▸ (hV.1 k i hl).1)
theorem c_cast (C0 : CallFix p m c cc nL s args TT own) (K0 : PK D Y A s) (k i : Nat) (hl : live sg k i) {ci index : Nat} {q : vw_C} {fs : List Value} (he : cel Y sg al k i = .inr (ci, fs)) (hc : vwCl[ci]? = some q) (hlink : Cond.classLink own index q.1 ∈ TT) (d : decode cc pc = .ok (.checkcast index, 3))
    (g : kG p l e R s m args below meth c Q A nL (WX D Y A sg al X) kk0 n (pc + 3) lv (.ref (al k i) :: st)) : kG p l e R s m args below meth c Q A nL (WX D Y A sg al X) kk0 n pc lv (.ref (al k i) :: st) :=
  k_castS C0 K0 hc hlink d (fun H hV => he ▸ (hV.1 k i hl).1) g
theorem x_get (C0 : CallFix p m c cc nL s args TT own) (K0 : PK D Y A s) (jx : Nat) {q : Nat} {ref C : String} {T : u_T} {N ci index : Nat} {fs : List Value} (he : X[jx]? = some (q, .inr (ci, fs))) (hin : ∀ w ∈ u_ws C T N, w ∈ TT) (hc : vwCl[ci]? = some (C, T, N)) (j : Nat) (v : Value) (hj : j < N) (d : decode cc pc = .ok (.getfield index, 3)) (hlink : Cond.fieldLink own index ref (T j).2.1 (T j).2.2.1 ∈ TT) (hsame : ∀ x, s.fieldFound? (T j).1 (T j).2.1 (T j).2.2.1 = some x → s.fieldFound? ref (T j).2.1 (T j).2.2.1 = some x) (hv : fs[j]? = some v)
    (g : kG p l e R s m args below meth c Q A nL (WX D Y A sg al X) kk0 n (pc + 3) lv (v :: st)) : kG p l e R s m args below meth c Q A nL (WX D Y A sg al X) kk0 n pc lv (.ref q :: st) :=
  k_get C0 K0 hin hc j hj d hlink hsame (fun H hV => (hV.2.2.2.1 jx _ he).1) hv g
theorem x_put (C0 : CallFix p m c cc nL s args TT own) (K0 : PK D Y A s) (jx : Nat) {q : Nat} {ref C : String} {T : u_T} {N ci index : Nat} {fs : List Value} {v : Value} {ty : FieldType} (he : X[jx]? = some (q, .inr (ci, fs))) (hin : ∀ w ∈ u_ws C T N, w ∈ TT) (hc : vwCl[ci]? = some (C, T, N)) (ty0 : Nat → FieldType) (hty : ∀ k, k < N → parseFieldDescriptor (T k).2.2.1 = some (ty0 k)) (hnm : ∀ a, a < N → ∀ b, b < N → a ≠ b → (T a).2.1 ≠ (T b).2.1) (j : Nat) (hj : j < N) (d : decode cc pc = .ok (.putfield index, 3)) (hlink : Cond.fieldLink own index ref (T j).2.1 (T j).2.2.1 ∈ TT) (hsame : ∀ x, s.fieldFound? (T j).1 (T j).2.1 (T j).2.2.1 = some x → s.fieldFound? ref (T j).2.1 (T j).2.2.1 = some x) (hfin : (T j).2.2.2 = false) (hd : parseFieldDescriptor (T j).2.2.1 = some ty) (hn : narrow ty v = v) (hfit : fits ty v = true) (hl2 : j < fs.length) (X2 : va_W) (hX : X.set jx (q, .inr (ci, fs.set j v)) = X2)
    (g : kG p l e R s m args below meth c Q A nL (WX D Y A sg al X2) kk0 n (pc + 3) lv st) : kG p l e R s m args below meth c Q A nL (WX D Y A sg al X) kk0 n pc lv (v :: .ref q :: st) :=
  k_put C0 K0 hin hc ty0 hty hnm j hj d hlink hsame hfin hd hn hfit hl2 (fun H hV => ⟨(hV.2.2.2.1 jx _ he).1, (hV.2.2.2.1 jx _ he).2.1⟩) (fun H H' hV _ h1 oq => hX ▸ hV.putX jx he h1 oq) g
theorem x_putF (C0 : CallFix p m c cc nL s args TT own) (K0 : PK D Y A s) (hin2 : meth.name = "<init>") (jx : Nat) {q : Nat} {ref C : String} {T : u_T} {N ci index : Nat} {fs : List Value} {v : Value} {ty : FieldType} (he : X[jx]? = some (q, .inr (ci, fs))) (hin : ∀ w ∈ u_ws C T N, w ∈ TT) (hc : vwCl[ci]? = some (C, T, N)) (ty0 : Nat → FieldType) (hty : ∀ k, k < N → parseFieldDescriptor (T k).2.2.1 = some (ty0 k)) (hnm : ∀ a, a < N → ∀ b, b < N → a ≠ b → (T a).2.1 ≠ (T b).2.1) (j : Nat) (hj : j < N) (d : decode cc pc = .ok (.putfield index, 3)) (hlink : Cond.fieldLink own index ref (T j).2.1 (T j).2.2.1 ∈ TT) (hsame : ∀ x, s.fieldFound? (T j).1 (T j).2.1 (T j).2.2.1 = some x → s.fieldFound? ref (T j).2.1 (T j).2.2.1 = some x) (hfin : (T j).2.2.2 = true) (hdecl : (T j).1 = own) (hd : parseFieldDescriptor (T j).2.2.1 = some ty) (hn : narrow ty v = v) (hfit : fits ty v = true) (hl2 : j < fs.length) (X2 : va_W) (hX : X.set jx (q, .inr (ci, fs.set j v)) = X2)
    (g : kG p l e R s m args below meth c Q A nL (WX D Y A sg al X2) kk0 n (pc + 3) lv st) : kG p l e R s m args below meth c Q A nL (WX D Y A sg al X) kk0 n pc lv (v :: .ref q :: st) :=
  k_putF C0 K0 hin hc ty0 hty hnm j hj d hlink hsame hfin hin2 hdecl hd hn hfit hl2 (fun H hV => ⟨(hV.2.2.2.1 jx _ he).1, (hV.2.2.2.1 jx _ he).2.1⟩) (fun H H' hV _ h1 oq => hX ▸ hV.putX jx he h1 oq) g
theorem x_new (C0 : CallFix p m c cc nL s args TT own) (K0 : PK D Y A s) {C : String} {T : u_T} {N ci index : Nat} (fs : List Value) (hin : ∀ w ∈ u_ws C T N, w ∈ TT) (hc : vwCl[ci]? = some (C, T, N)) (ty : Nat → FieldType) (hty : ∀ k, k < N → parseFieldDescriptor (T k).2.2.1 = some (ty k)) (hcl : Cond.classLink own index C ∈ TT) (hinst : Cond.instantiable C N ∈ TT) (hini : Cond.initialized C ∈ TT) (hfs : ∀ j, j < N → defaultValue (ty j) = vp_V fs j) (hcells : kk0 + 1 ≤ R.cells) (hslots : n + N ≤ R.slots) (d : decode cc pc = .ok (.new index, 3))
    (g : ∀ q, kG p l e R s m args below meth c Q A nL (WX D Y A sg al (X ++ [(q, .inr (ci, fs))])) (kk0 + 1) (n + N) (pc + 3) lv (.ref q :: st)) : kG p l e R s m args below meth c Q A nL (WX D Y A sg al X) kk0 n pc lv st :=
  k_new C0 K0 hin hc ty hty hcl hinst hini hfs hcells hslots d (fun H H' hV _ h1 oq hA => hV.push h1 oq hA) g
theorem x_newai (C0 : CallFix p m c cc nL s args TT own) (K0 : PK D Y A s) {x : Int32} (N : Nat) (harr : Cond.arrayClass .int ∈ TT) (hx : ¬ x < 0) (hN : x.toNatClampNeg = N) (hb : N ≤ 100000) (hcells : kk0 + 1 ≤ R.cells) (hslots : n + N ≤ R.slots) (d : decode cc pc = .ok (.newarray .int, 2))
    (g : ∀ q, kG p l e R s m args below meth c Q A nL (WX D Y A sg al (X ++ [(q, .inl (Y 0, N, .inl (fun _ => 0)))])) (kk0 + 1) (n + N) (pc + 2) lv (.ref q :: st)) : kG p l e R s m args below meth c Q A nL (WX D Y A sg al X) kk0 n pc lv (.int x :: st) :=
  k_newai C0 K0 N harr hx hN hb hcells hslots d (fun H H' hV _ h1 oq hA => hV.push h1 oq hA) g
theorem x_newq (C0 : CallFix p m c cc nL s args TT own) (K0 : PK D Y A s) {C : String} {cA : ClassId} {index t0 : Nat} {x : Int32} (N : Nat) (hclink : Cond.classLink own index C ∈ TT) (hover : va_AO C s) (ht : (kTy Y)[t0]? = some (cA, .object C)) (hx : ¬ x < 0) (hN : x.toNatClampNeg = N) (hb : N ≤ 100000) (hcells : kk0 + 1 ≤ R.cells) (hslots : n + N ≤ R.slots) (d : decode cc pc = .ok (.anewarray index, 3))
    (g : ∀ q, kG p l e R s m args below meth c Q A nL (WX D Y A sg al (X ++ [(q, .inl (cA, N, .inr (.inr (.inr (.inr (fun _ => none))))))])) (kk0 + 1) (n + N) (pc + 3) lv (.ref q :: st)) : kG p l e R s m args below meth c Q A nL (WX D Y A sg al X) kk0 n pc lv (.int x :: st) :=
  k_newq C0 K0 N hclink hover ht hx hN hb hcells hslots d (fun H H' hV _ h1 oq hA => hV.push h1 oq hA) g
theorem x_iast (C0 : CallFix p m c cc nL s args TT own) (K0 : PK D Y A s) (jx : Nat) {q N : Nat} {f : Nat → Int32} {x v : Int32} (he : X[jx]? = some (q, .inl (Y 0, N, .inl f))) (hx : vp_in x N) (d : decode cc pc = .ok (.iastore, 1)) (X2 : va_W) (hX : X.set jx (q, .inl (Y 0, N, .inl (upd f x.toNatClampNeg v))) = X2)
    (g : kG p l e R s m args below meth c Q A nL (WX D Y A sg al X2) kk0 n (pc + 1) lv st) : kG p l e R s m args below meth c Q A nL (WX D Y A sg al X) kk0 n pc lv (.int v :: .int x :: .ref q :: st) :=
  k_iast C0 K0 hx d (fun H hV => ⟨(hV.2.2.2.1 jx _ he).1, (hV.2.2.2.1 jx _ he).2.1⟩) (fun H H' hV _ h1 oq => hX ▸ hV.putX jx he h1 oq) g
theorem x_alen (C0 : CallFix p m c cc nL s args TT own) (K0 : PK D Y A s) (jx : Nat) {q : Nat} {cA : ClassId} {x : vp_A} (he : X[jx]? = some (q, .inl (cA, x))) (t0 : Nat) {ty : FieldType} (ht : (kTy Y)[t0]? = some (cA, ty)) (v : Int32) (hv : Int32.ofNat x.1 = v) (d : decode cc pc = .ok (.arraylength, 1))
    (g : kG p l e R s m args below meth c Q A nL (WX D Y A sg al X) kk0 n (pc + 1) lv (.int v :: st)) : kG p l e R s m args below meth c Q A nL (WX D Y A sg al X) kk0 n pc lv (.ref q :: st) :=
  k_alen C0 K0 t0 ht v hv d (fun H hV => (hV.2.2.2.1 jx _ he).1) g
end KWR
end
section
def xE (E0 : String) (W : Heap → Prop) : String → Heap → Prop := fun E H => E = E0 ∧ W H
theorem WX.keep {D : va_G} {Y : Nat → Nat} {A : Nat → Prop} {sg : Sg} {al : Nat → Nat → Nat} {X : va_W} {H H' : Heap} (h : WX D Y A sg al X H) (oq : ∀ q : Nat, q < H.size → H'[q]? = H[q]?) : WX D Y A sg al X H' :=
  ⟨fun k i hl => ⟨(h.1 k i hl).1.kept (oq _ (h.1 k i hl).1.ltH), (h.1 k i hl).2⟩, h.2.1, h.2.2.1, fun j x hx => ⟨(h.2.2.2.1 j x hx).1.kept (oq _ (h.2.2.2.1 j x hx).1.ltH), (h.2.2.2.1 j x hx).2⟩, h.2.2.2.2⟩
theorem kG_no {p : Program} {l : Launch} {e : Env} {R : Room} {s : State} {m : MethodId} {args : Array Value} {below : List Frame} {meth : Method} {c : Code} {Q : State → Prop} {A : Nat → Prop} {nL k n pc : Nat} {lv : List (Nat × Value)} {st : List Value} : kG p l e R s m args below meth c Q A nL (fun _ => False) k n pc lv st := fun _ _ _ h => h.elim
theorem nz01 {h : Int32} (hb : h = 0 ∨ h = 1) : narrow .boolean (.int h) = .int h := by rcases hb with rfl | rfl <;> rfl
def c_book (sg : Sg) (i : Nat) (g : Int32) : Sg :=
  if sg.1 4 i 7 = 0 then sI (sI (sI sg 0 0 7 (sg.1 0 0 7 + g * sg.1 4 i 3)) 0 0 6 (sg.1 0 0 6 + g * sg.1 4 i 5)) 2 (sg.2 4 i 0) 3 (sg.1 2 (sg.2 4 i 0) 3 + g * sg.1 4 i 6)
  else sI (sI (sI (sI sg 0 0 7 (sg.1 0 0 7 + g * sg.1 4 i 3)) 0 0 6 (sg.1 0 0 6 + g * sg.1 4 i 5)) 2 (sg.2 4 i 0) 3 (sg.1 2 (sg.2 4 i 0) 3 + g * sg.1 4 i 6)) 1 (sg.2 4 i 1) 3 (sg.1 1 (sg.2 4 i 1) 3 + g * sg.1 4 i 4)
def c_settle (sg : Sg) (i : Nat) (mo : Int32) : Sg :=
  sI (sI (sI sg 6 i mo.toNatClampNeg (if 0 < sg.1 2 i 2 + sg.1 2 i 3 ∧ sg.1 2 i 0 ≤ sg.1 2 i 2 + sg.1 2 i 3 then sg.1 2 i 2 + sg.1 2 i 3 else 0)) 2 i 2 (if 0 < sg.1 2 i 2 + sg.1 2 i 3 ∧ sg.1 2 i 0 ≤ sg.1 2 i 2 + sg.1 2 i 3 then 0 else sg.1 2 i 2 + sg.1 2 i 3)) 2 i 3 0
def c_price (sg : Sg) (i j : Nat) : Int32 := sg.1 7 i (nI j).toNatClampNeg
def c_priceN (sg : Sg) (u : Nat) : Int32 := if ¬ sg.1 5 u 1 = 0 ∧ sg.1 5 u 5 = 0 then c_price sg (sg.2 5 u 2) (sg.2 5 u 0) / 2 else c_price sg (sg.2 5 u 2) (sg.2 5 u 0)
def c_count (sg : Sg) (u : Nat) (d : Int32) : Sg := sI (sI (sI sg 5 u 5 (sg.1 5 u 5 + 1)) 5 u 4 0) 5 u 6 (d + 30)
def c_fail (sg : Sg) (u : Nat) : Sg := sI (sI sg 5 u 4 (sg.1 5 u 4 + 1)) 5 u 6 (if sg.1 5 u 4 + 1 < 6 then sg.1 5 u 6 + 1 else -1)
theorem vp_ix {x : Int32} {N : Nat} {B : Int32} (h1 : ¬ x < 0) (h2 : x < B) (hB : B = nI N) (hN : N < 2 ^ 31) : vp_in x N := by
  obtain ⟨j, hj, rfl⟩ := nI_of h1
  rw [hB] at h2
  exact vp_in_nI ((nI_ltI hj hN).mp h2) hN
theorem ix_lt {x : Int32} {N : Nat} (h : vp_in x N) : x.toNatClampNeg < N := Nat.not_le.mp fun q => h (Or.inr q)
theorem fa_lt_ (a b : Int32) : a < b ↔ a.toInt < b.toInt := Int32.lt_iff_toInt_lt
theorem fa_le_ (a b : Int32) : a ≤ b ↔ a.toInt ≤ b.toInt := Int32.le_iff_toInt_le
theorem gkX1_28 : GoodIn TT (wsV RX1 28 yX1_currentBalance.cls yX1_currentBalance (Cond.code yX1_currentBalance cX1_currentBalance 1 (some .int) :: TT)) := goodTV (tC 183 rfl rfl) (tC 153 rfl rfl) (tC 154 rfl rfl) (tA 12 rfl rfl) (tC 155 rfl rfl)
theorem hyX1_currentBalance : yX1_currentBalance.cls ≠ "java/lang/invoke/MethodHandle" ∧ yX1_currentBalance.cls ≠ "java/lang/invoke/VarHandle" ∧ (parseMethodDescriptor yX1_currentBalance.desc).map (fun d => d.parameters.length) = some 0 := by decide +kernel
theorem gkX2_26 : GoodIn TT (wsV RX2 26 yX2_priceIn.cls yX2_priceIn (Cond.code yX2_priceIn cX2_priceIn 3 (some .int) :: TT)) := goodTV (tB 160 rfl rfl) (tB 161 rfl rfl) (tB 162 rfl rfl) (tA 20 rfl rfl) (tB 163 rfl rfl)
theorem hyX2_priceIn : yX2_priceIn.cls ≠ "java/lang/invoke/MethodHandle" ∧ yX2_priceIn.cls ≠ "java/lang/invoke/VarHandle" ∧ (parseMethodDescriptor yX2_priceIn.desc).map (fun d => d.parameters.length) = some 1 := by decide +kernel
theorem gkX4_36 : GoodIn TT (wsV RX4 36 yX2_priceIn.cls yX2_priceIn (Cond.code yX2_priceIn cX2_priceIn 3 (some .int) :: TT)) := goodTV (tC 205 rfl rfl) (tB 161 rfl rfl) (tB 162 rfl rfl) (tA 20 rfl rfl) (tB 163 rfl rfl)
theorem gkX4_42 : GoodIn TT (wsV RX4 42 yX4_end.cls yX4_end (Cond.code yX4_end cX4_end 1 none :: TT)) := goodTV (tC 200 rfl rfl) (tC 110 rfl rfl) (tC 111 rfl rfl) (tA 22 rfl rfl) (tC 112 rfl rfl)
theorem hyX4_end : yX4_end.cls ≠ "java/lang/invoke/MethodHandle" ∧ yX4_end.cls ≠ "java/lang/invoke/VarHandle" ∧ (parseMethodDescriptor yX4_end.desc).map (fun d => d.parameters.length) = some 0 := by decide +kernel
theorem gkX5_223 : GoodIn TT (wsV RX5 223 yX4_isEnded.cls yX4_isEnded (Cond.code yX4_isEnded cX4_isEnded 1 (some .boolean) :: TT)) := goodTV (tC 90 rfl rfl) (tC 91 rfl rfl) (tC 92 rfl rfl) (tA 22 rfl rfl) (tC 93 rfl rfl)
theorem hyX4_isEnded : yX4_isEnded.cls ≠ "java/lang/invoke/MethodHandle" ∧ yX4_isEnded.cls ≠ "java/lang/invoke/VarHandle" ∧ (parseMethodDescriptor yX4_isEnded.desc).map (fun d => d.parameters.length) = some 0 := by decide +kernel
set_option maxRecDepth 100000 in
set_option maxHeartbeats 4000000 in
theorem cc_taxIn (l : Launch) (D : va_G) (Y : Nat → Nat) (A : Nat → Prop) (sg : Sg) (al : Nat → Nat → Nat) (X : va_W) (i : Nat) (hi : i < 5) (v : Int32) (hd : ¬ 100 + sg.1 1 i 1 = 0) : CT l yX0_taxIn (Cond.code yX0_taxIn cX0_taxIn 2 (some .int)) 0 0 D Y A [.ref (al 1 i), .int v] (WX D Y A sg al X) (fun _ : Unit => some (.int ((v * (sg.1 1 i 1)) / (100 + (sg.1 1 i 1))))) (fun _ : Unit => WX D Y A sg al X) noX 0 0 := by
  refine CT.of (by decide) (Nat.le_of_ble_eq_true rfl) ?_
  intro p_ e_ s_ m_ below_ meth_ c_ C0 K0 hr hlk htab hnm_
  refine k_iload_n C0 dX0_taxIn_0 1 rfl ?_
  refine k_aload_n C0 dX0_taxIn_1 0 rfl ?_
  refine c_getI C0 K0 1 i hi rfl inX0 rfl 1 (sg.1 1 i 1) (by decide) dX0_taxIn_2 (tA 66 rfl rfl) (fun _ h => h) rfl rfl ?_
  refine k_imul C0 dX0_taxIn_5 ?_
  refine k_bipush C0 100 dX0_taxIn_6 (by decide) ?_
  refine k_aload_n C0 dX0_taxIn_8 0 rfl ?_
  refine c_getI C0 K0 1 i hi rfl inX0 rfl 1 (sg.1 1 i 1) (by decide) dX0_taxIn_9 (tA 66 rfl rfl) (fun _ h => h) rfl rfl ?_
  refine k_iadd C0 dX0_taxIn_12 ?_
  refine k_idiv C0 dX0_taxIn_13 hd ?_
  exact k_iret C0 dX0_taxIn_14 hr hlk (Nat.le_of_ble_eq_true rfl) (Nat.le_of_ble_eq_true rfl) () rfl (fun H h => h)
set_option maxRecDepth 100000 in
set_option maxHeartbeats 4000000 in
theorem cc_currentBalance (l : Launch) (D : va_G) (Y : Nat → Nat) (A : Nat → Prop) (sg : Sg) (al : Nat → Nat → Nat) (X : va_W) (i : Nat) (hi : i < sN sg 2) : CT l yX1_currentBalance (Cond.code yX1_currentBalance cX1_currentBalance 1 (some .int)) 0 0 D Y A [.ref (al 2 i)] (WX D Y A sg al X) (fun _ : Unit => some (.int ((sg.1 2 i 2) + (sg.1 2 i 3)))) (fun _ : Unit => WX D Y A sg al X) noX 0 0 := by
  refine CT.of (by decide) (Nat.le_of_ble_eq_true rfl) ?_
  intro p_ e_ s_ m_ below_ meth_ c_ C0 K0 hr hlk htab hnm_
  refine k_aload_n C0 dX1_currentBalance_0 0 rfl ?_
  refine c_getI C0 K0 2 i hi rfl inX1 rfl 2 (sg.1 2 i 2) (by decide) dX1_currentBalance_1 (tB 7 rfl rfl) (fun _ h => h) rfl rfl ?_
  refine k_aload_n C0 dX1_currentBalance_4 0 rfl ?_
  refine c_getI C0 K0 2 i hi rfl inX1 rfl 3 (sg.1 2 i 3) (by decide) dX1_currentBalance_5 (tB 9 rfl rfl) (fun _ h => h) rfl rfl ?_
  refine k_iadd C0 dX1_currentBalance_8 ?_
  exact k_iret C0 dX1_currentBalance_9 hr hlk (Nat.le_of_ble_eq_true rfl) (Nat.le_of_ble_eq_true rfl) () rfl (fun H h => h)
set_option maxRecDepth 100000 in
set_option maxHeartbeats 4000000 in
theorem cc_settle (l : Launch) (D : va_G) (Y : Nat → Nat) (A : Nat → Prop) (sg : Sg) (al : Nat → Nat → Nat) (X : va_W) (i : Nat) (hi : i < sN sg 2) (j : Nat) (hj : j < 120) : CT l yX1_settle (Cond.code yX1_settle cX1_settle 4 none) 1 20 D Y A [.ref (al 2 i), .int (nI j)] (WX D Y A sg al X) (fun _ : Unit => none) (fun _ : Unit => WX D Y A (c_settle sg i (nI j)) al X) noX 0 0 := by
  refine CT.of (by decide) (Nat.le_of_ble_eq_true rfl) ?_
  intro p_ e_ s_ m_ below_ meth_ c_ C0 K0 hr hlk htab hnm_
  refine k_aload_n C0 dX1_settle_0 0 rfl ?_
  refine k_callV C0 K0 dX1_settle_1 (cc_currentBalance l D Y A sg al X i hi) gkX1_28 hyX1_currentBalance (c_recv (sg := sg) K0 2 i hi rfl rfl) rfl (by exact Nat.le_of_ble_eq_true rfl) ⟨Nat.le_of_ble_eq_true rfl, Nat.le_of_ble_eq_true rfl⟩ ⟨Nat.le_of_ble_eq_true rfl, Nat.le_of_ble_eq_true rfl⟩ (fun E => kX_no E) (fun _ => ?_)
  refine k_istore_n C0 [(2, _), (0, _), (1, _)] dX1_settle_4 (by decide) rfl ?_
  refine k_iload_n C0 dX1_settle_5 0 rfl ?_
  refine k_if_le C0 21 dX1_settle_6 (by decide) (fun h6 => ?_) (fun h6 => ?_)
  ·
    refine k_iconst C0 0 dX1_settle_21 (by decide) ?_
    refine k_istore_n C0 [(3, _), (2, _), (0, _), (1, _)] dX1_settle_22 (by decide) rfl ?_
    refine k_iload_n C0 dX1_settle_23 3 rfl ?_
    refine k_if_lt C0 51 dX1_settle_24 (by decide) (fun zz => absurd zz (nI_pos (by omega))) (fun _ => ?_)
    refine k_iload_n C0 dX1_settle_27 3 rfl ?_
    refine k_aload_n C0 dX1_settle_28 2 rfl ?_
    refine c_get C0 K0 2 i hi rfl inX1 rfl 1 (.ref (al 6 i)) (by decide) dX1_settle_29 (tB 6 rfl rfl) (fun _ h => h) rfl ?_
    refine c_alen C0 K0 6 i hi rfl 0 rfl 120 rfl dX1_settle_32 ?_
    refine k_icmp_ge C0 51 dX1_settle_33 (by decide) (fun zz => absurd zz (nI_ge (a := j) (b := 120) hj (by decide))) (fun _ => ?_)
    refine k_aload_n C0 dX1_settle_36 2 rfl ?_
    refine c_get C0 K0 2 i hi rfl inX1 rfl 1 (.ref (al 6 i)) (by decide) dX1_settle_37 (tB 6 rfl rfl) (fun _ h => h) rfl ?_
    refine k_iload_n C0 dX1_settle_40 3 rfl ?_
    refine k_iload_n C0 dX1_settle_41 0 rfl ?_
    refine k_if_eq C0 49 dX1_settle_42 (by decide) (fun _ => ?_) (fun zz => absurd (by decide) zz)
    refine k_iconst C0 0 dX1_settle_49 (by decide) ?_
    refine c_iast C0 K0 6 i hi rfl (vp_in_nI hj (by decide)) dX1_settle_50 rfl ?_
    refine k_aload_n C0 dX1_settle_51 2 rfl ?_
    refine k_iload_n C0 dX1_settle_52 0 rfl ?_
    refine k_if_eq C0 60 dX1_settle_53 (by decide) (fun _ => ?_) (fun zz => absurd (by decide) zz)
    refine k_iload_n C0 dX1_settle_60 1 rfl ?_
    refine c_putI (sg := sI sg 6 i ((nI j).toNatClampNeg) 0) C0 K0 2 i hi (ty := .int) rfl inX1 rfl tyX1 tyX1_ok nmX1 2 (by decide) dX1_settle_61 (tB 7 rfl rfl) (fun _ h => h) rfl (by decide +kernel) rfl rfl (Nat.le_of_ble_eq_true rfl) rfl ?_
    refine k_aload_n C0 dX1_settle_64 2 rfl ?_
    refine k_iconst C0 0 dX1_settle_65 (by decide) ?_
    refine c_putI (sg := sI (sI sg 6 i ((nI j).toNatClampNeg) 0) 2 i 2 (sg.1 2 i 2 + sg.1 2 i 3)) C0 K0 2 i hi (ty := .int) rfl inX1 rfl tyX1 tyX1_ok nmX1 3 (by decide) dX1_settle_66 (tB 9 rfl rfl) (fun _ h => h) rfl (by decide +kernel) rfl rfl (Nat.le_of_ble_eq_true rfl) rfl ?_
    exact k_vret C0 dX1_settle_69 hr hlk (Nat.le_of_ble_eq_true rfl) (Nat.le_of_ble_eq_true rfl) () rfl (by unfold c_settle; first | (rw [if_neg (fun z => Int32.not_lt.mpr h6 z.1), if_neg (fun z => Int32.not_lt.mpr h6 z.1)]; exact fun H h => h) | (rw [if_neg (fun z => Int32.not_le.mpr h14 z.2), if_neg (fun z => Int32.not_le.mpr h14 z.2)]; exact fun H h => h) | (rw [if_pos ⟨Int32.not_le.mp h6, Int32.not_lt.mp h14⟩, if_pos ⟨Int32.not_le.mp h6, Int32.not_lt.mp h14⟩]; exact fun H h => h))
  ·
    refine k_iload_n C0 dX1_settle_9 0 rfl ?_
    refine k_aload_n C0 dX1_settle_10 1 rfl ?_
    refine c_getI C0 K0 2 i hi rfl inX1 rfl 0 (sg.1 2 i 0) (by decide) dX1_settle_11 (tB 5 rfl rfl) (fun _ h => h) rfl rfl ?_
    refine k_icmp_lt C0 21 dX1_settle_14 (by decide) (fun h14 => ?_) (fun h14 => ?_)
    ·
      refine k_iconst C0 0 dX1_settle_21 (by decide) ?_
      refine k_istore_n C0 [(3, _), (2, _), (0, _), (1, _)] dX1_settle_22 (by decide) rfl ?_
      refine k_iload_n C0 dX1_settle_23 3 rfl ?_
      refine k_if_lt C0 51 dX1_settle_24 (by decide) (fun zz => absurd zz (nI_pos (by omega))) (fun _ => ?_)
      refine k_iload_n C0 dX1_settle_27 3 rfl ?_
      refine k_aload_n C0 dX1_settle_28 2 rfl ?_
      refine c_get C0 K0 2 i hi rfl inX1 rfl 1 (.ref (al 6 i)) (by decide) dX1_settle_29 (tB 6 rfl rfl) (fun _ h => h) rfl ?_
      refine c_alen C0 K0 6 i hi rfl 0 rfl 120 rfl dX1_settle_32 ?_
      refine k_icmp_ge C0 51 dX1_settle_33 (by decide) (fun zz => absurd zz (nI_ge (a := j) (b := 120) hj (by decide))) (fun _ => ?_)
      refine k_aload_n C0 dX1_settle_36 2 rfl ?_
      refine c_get C0 K0 2 i hi rfl inX1 rfl 1 (.ref (al 6 i)) (by decide) dX1_settle_37 (tB 6 rfl rfl) (fun _ h => h) rfl ?_
      refine k_iload_n C0 dX1_settle_40 3 rfl ?_
      refine k_iload_n C0 dX1_settle_41 0 rfl ?_
      refine k_if_eq C0 49 dX1_settle_42 (by decide) (fun _ => ?_) (fun zz => absurd (by decide) zz)
      refine k_iconst C0 0 dX1_settle_49 (by decide) ?_
      refine c_iast C0 K0 6 i hi rfl (vp_in_nI hj (by decide)) dX1_settle_50 rfl ?_
      refine k_aload_n C0 dX1_settle_51 2 rfl ?_
      refine k_iload_n C0 dX1_settle_52 0 rfl ?_
      refine k_if_eq C0 60 dX1_settle_53 (by decide) (fun _ => ?_) (fun zz => absurd (by decide) zz)
      refine k_iload_n C0 dX1_settle_60 1 rfl ?_
      refine c_putI (sg := sI sg 6 i ((nI j).toNatClampNeg) 0) C0 K0 2 i hi (ty := .int) rfl inX1 rfl tyX1 tyX1_ok nmX1 2 (by decide) dX1_settle_61 (tB 7 rfl rfl) (fun _ h => h) rfl (by decide +kernel) rfl rfl (Nat.le_of_ble_eq_true rfl) rfl ?_
      refine k_aload_n C0 dX1_settle_64 2 rfl ?_
      refine k_iconst C0 0 dX1_settle_65 (by decide) ?_
      refine c_putI (sg := sI (sI sg 6 i ((nI j).toNatClampNeg) 0) 2 i 2 (sg.1 2 i 2 + sg.1 2 i 3)) C0 K0 2 i hi (ty := .int) rfl inX1 rfl tyX1 tyX1_ok nmX1 3 (by decide) dX1_settle_66 (tB 9 rfl rfl) (fun _ h => h) rfl (by decide +kernel) rfl rfl (Nat.le_of_ble_eq_true rfl) rfl ?_
      exact k_vret C0 dX1_settle_69 hr hlk (Nat.le_of_ble_eq_true rfl) (Nat.le_of_ble_eq_true rfl) () rfl (by unfold c_settle; first | (rw [if_neg (fun z => Int32.not_lt.mpr h6 z.1), if_neg (fun z => Int32.not_lt.mpr h6 z.1)]; exact fun H h => h) | (rw [if_neg (fun z => Int32.not_le.mpr h14 z.2), if_neg (fun z => Int32.not_le.mpr h14 z.2)]; exact fun H h => h) | (rw [if_pos ⟨Int32.not_le.mp h6, Int32.not_lt.mp h14⟩, if_pos ⟨Int32.not_le.mp h6, Int32.not_lt.mp h14⟩]; exact fun H h => h))
    ·
      refine k_iconst C0 1 dX1_settle_17 (by decide) ?_
      refine k_goto C0 22 dX1_settle_18 (by decide) ?_
      refine k_istore_n C0 [(3, _), (2, _), (0, _), (1, _)] dX1_settle_22 (by decide) rfl ?_
      refine k_iload_n C0 dX1_settle_23 3 rfl ?_
      refine k_if_lt C0 51 dX1_settle_24 (by decide) (fun zz => absurd zz (nI_pos (by omega))) (fun _ => ?_)
      refine k_iload_n C0 dX1_settle_27 3 rfl ?_
      refine k_aload_n C0 dX1_settle_28 2 rfl ?_
      refine c_get C0 K0 2 i hi rfl inX1 rfl 1 (.ref (al 6 i)) (by decide) dX1_settle_29 (tB 6 rfl rfl) (fun _ h => h) rfl ?_
      refine c_alen C0 K0 6 i hi rfl 0 rfl 120 rfl dX1_settle_32 ?_
      refine k_icmp_ge C0 51 dX1_settle_33 (by decide) (fun zz => absurd zz (nI_ge (a := j) (b := 120) hj (by decide))) (fun _ => ?_)
      refine k_aload_n C0 dX1_settle_36 2 rfl ?_
      refine c_get C0 K0 2 i hi rfl inX1 rfl 1 (.ref (al 6 i)) (by decide) dX1_settle_37 (tB 6 rfl rfl) (fun _ h => h) rfl ?_
      refine k_iload_n C0 dX1_settle_40 3 rfl ?_
      refine k_iload_n C0 dX1_settle_41 0 rfl ?_
      refine k_if_eq C0 49 dX1_settle_42 (by decide) (fun zz => absurd zz (by decide)) (fun _ => ?_)
      refine k_iload_n C0 dX1_settle_45 1 rfl ?_
      refine k_goto C0 50 dX1_settle_46 (by decide) ?_
      refine c_iast C0 K0 6 i hi rfl (vp_in_nI hj (by decide)) dX1_settle_50 rfl ?_
      refine k_aload_n C0 dX1_settle_51 2 rfl ?_
      refine k_iload_n C0 dX1_settle_52 0 rfl ?_
      refine k_if_eq C0 60 dX1_settle_53 (by decide) (fun zz => absurd zz (by decide)) (fun _ => ?_)
      refine k_iconst C0 0 dX1_settle_56 (by decide) ?_
      refine k_goto C0 61 dX1_settle_57 (by decide) ?_
      refine c_putI (sg := sI sg 6 i ((nI j).toNatClampNeg) (sg.1 2 i 2 + sg.1 2 i 3)) C0 K0 2 i hi (ty := .int) rfl inX1 rfl tyX1 tyX1_ok nmX1 2 (by decide) dX1_settle_61 (tB 7 rfl rfl) (fun _ h => h) rfl (by decide +kernel) rfl rfl (Nat.le_of_ble_eq_true rfl) rfl ?_
      refine k_aload_n C0 dX1_settle_64 2 rfl ?_
      refine k_iconst C0 0 dX1_settle_65 (by decide) ?_
      refine c_putI (sg := sI (sI sg 6 i ((nI j).toNatClampNeg) (sg.1 2 i 2 + sg.1 2 i 3)) 2 i 2 0) C0 K0 2 i hi (ty := .int) rfl inX1 rfl tyX1 tyX1_ok nmX1 3 (by decide) dX1_settle_66 (tB 9 rfl rfl) (fun _ h => h) rfl (by decide +kernel) rfl rfl (Nat.le_of_ble_eq_true rfl) rfl ?_
      exact k_vret C0 dX1_settle_69 hr hlk (Nat.le_of_ble_eq_true rfl) (Nat.le_of_ble_eq_true rfl) () rfl (by unfold c_settle; first | (rw [if_neg (fun z => Int32.not_lt.mpr h6 z.1), if_neg (fun z => Int32.not_lt.mpr h6 z.1)]; exact fun H h => h) | (rw [if_neg (fun z => Int32.not_le.mpr h14 z.2), if_neg (fun z => Int32.not_le.mpr h14 z.2)]; exact fun H h => h) | (rw [if_pos ⟨Int32.not_le.mp h6, Int32.not_lt.mp h14⟩, if_pos ⟨Int32.not_le.mp h6, Int32.not_lt.mp h14⟩]; exact fun H h => h))
set_option maxRecDepth 100000 in
set_option maxHeartbeats 4000000 in
theorem cc_payoutOf (l : Launch) (D : va_G) (Y : Nat → Nat) (A : Nat → Prop) (sg : Sg) (al : Nat → Nat → Nat) (X : va_W) (i : Nat) (hi : i < sN sg 2) (j : Nat) (hj : j < 120) : CT l yX1_payoutOf (Cond.code yX1_payoutOf cX1_payoutOf 2 (some .int)) 0 0 D Y A [.ref (al 2 i), .int (nI j)] (WX D Y A sg al X) (fun _ : Unit => some (.int (sg.1 6 i ((nI j).toNatClampNeg)))) (fun _ : Unit => WX D Y A sg al X) noX 0 0 := by
  refine CT.of (by decide) (Nat.le_of_ble_eq_true rfl) ?_
  intro p_ e_ s_ m_ below_ meth_ c_ C0 K0 hr hlk htab hnm_
  refine k_iload_n C0 dX1_payoutOf_0 1 rfl ?_
  refine k_if_lt C0 22 dX1_payoutOf_1 (by decide) (fun zz => absurd zz (nI_pos (by omega))) (fun _ => ?_)
  refine k_iload_n C0 dX1_payoutOf_4 1 rfl ?_
  refine k_aload_n C0 dX1_payoutOf_5 0 rfl ?_
  refine c_get C0 K0 2 i hi rfl inX1 rfl 1 (.ref (al 6 i)) (by decide) dX1_payoutOf_6 (tB 6 rfl rfl) (fun _ h => h) rfl ?_
  refine c_alen C0 K0 6 i hi rfl 0 rfl 120 rfl dX1_payoutOf_9 ?_
  refine k_icmp_ge C0 22 dX1_payoutOf_10 (by decide) (fun zz => absurd zz (nI_ge (a := j) (b := 120) hj (by decide))) (fun _ => ?_)
  refine k_aload_n C0 dX1_payoutOf_13 0 rfl ?_
  refine c_get C0 K0 2 i hi rfl inX1 rfl 1 (.ref (al 6 i)) (by decide) dX1_payoutOf_14 (tB 6 rfl rfl) (fun _ h => h) rfl ?_
  refine k_iload_n C0 dX1_payoutOf_17 1 rfl ?_
  refine c_iald C0 K0 6 i hi (v := sg.1 6 i ((nI j).toNatClampNeg)) rfl (vp_in_nI hj (by decide)) dX1_payoutOf_18 rfl ?_
  refine k_goto C0 23 dX1_payoutOf_19 (by decide) ?_
  exact k_iret C0 dX1_payoutOf_23 hr hlk (Nat.le_of_ble_eq_true rfl) (Nat.le_of_ble_eq_true rfl) () rfl (fun H h => h)
set_option maxRecDepth 100000 in
set_option maxHeartbeats 4000000 in
theorem cc_priceIn (l : Launch) (D : va_G) (Y : Nat → Nat) (A : Nat → Prop) (sg : Sg) (al : Nat → Nat → Nat) (X : va_W) (i : Nat) (hi : i < sN sg 3) (j : Nat) (hj : j < 5) : CT l yX2_priceIn (Cond.code yX2_priceIn cX2_priceIn 3 (some .int)) 0 0 D Y A [.ref (al 3 i), .ref (al 1 j)] (WX D Y A sg al X) (fun _ : Unit => some (.int (c_price sg i j))) (fun _ : Unit => WX D Y A sg al X) noX 0 0 := by
  refine CT.of (by decide) (Nat.le_of_ble_eq_true rfl) ?_
  intro p_ e_ s_ m_ below_ meth_ c_ C0 K0 hr hlk htab hnm_
  refine k_aload_n C0 dX2_priceIn_0 1 rfl ?_
  refine c_get C0 K0 1 j hj rfl inX0 rfl 0 (.int (nI j)) (by decide) dX2_priceIn_1 (tA 65 rfl rfl) (fun _ h => h) rfl ?_
  refine k_istore_n C0 [(2, _), (0, _), (1, _)] dX2_priceIn_4 (by decide) rfl ?_
  refine k_iload_n C0 dX2_priceIn_5 0 rfl ?_
  refine k_if_lt C0 27 dX2_priceIn_6 (by decide) (fun zz => absurd zz (nI_pos (by omega))) (fun _ => ?_)
  refine k_iload_n C0 dX2_priceIn_9 0 rfl ?_
  refine k_aload_n C0 dX2_priceIn_10 1 rfl ?_
  refine c_get C0 K0 3 i hi rfl inX2 rfl 2 (.ref (al 7 i)) (by decide) dX2_priceIn_11 (tB 136 rfl rfl) (fun _ h => h) rfl ?_
  refine c_alen C0 K0 7 i hi rfl 0 rfl 5 rfl dX2_priceIn_14 ?_
  refine k_icmp_ge C0 27 dX2_priceIn_15 (by decide) (fun zz => absurd zz (nI_ge (a := j) (b := 5) hj (by decide))) (fun _ => ?_)
  refine k_aload_n C0 dX2_priceIn_18 1 rfl ?_
  refine c_get C0 K0 3 i hi rfl inX2 rfl 2 (.ref (al 7 i)) (by decide) dX2_priceIn_19 (tB 136 rfl rfl) (fun _ h => h) rfl ?_
  refine k_iload_n C0 dX2_priceIn_22 0 rfl ?_
  refine c_iald C0 K0 7 i hi (v := sg.1 7 i ((nI j).toNatClampNeg)) rfl (vp_in_nI hj (by decide)) dX2_priceIn_23 rfl ?_
  refine k_goto C0 28 dX2_priceIn_24 (by decide) ?_
  exact k_iret C0 dX2_priceIn_28 hr hlk (Nat.le_of_ble_eq_true rfl) (Nat.le_of_ble_eq_true rfl) () rfl (fun H h => h)
set_option maxRecDepth 100000 in
set_option maxHeartbeats 4000000 in
theorem cc_changePrice (l : Launch) (D : va_G) (Y : Nat → Nat) (A : Nat → Prop) (sg : Sg) (al : Nat → Nat → Nat) (X : va_W) (i : Nat) (hi : i < sN sg 3) (j : Nat) (hj : j < 5) (v : Int32) : CT l yX2_changePrice (Cond.code yX2_changePrice cX2_changePrice 5 (some .int)) 1 22 D Y A [.ref (al 3 i), .ref (al 1 j), .int v] (WX D Y A sg al X) (fun _ : Unit => some (.int (c_price sg i j))) (fun _ : Unit => WX D Y A (sI sg 7 i ((nI j).toNatClampNeg) v) al X) noX 0 0 := by
  refine CT.of (by decide) (Nat.le_of_ble_eq_true rfl) ?_
  intro p_ e_ s_ m_ below_ meth_ c_ C0 K0 hr hlk htab hnm_
  refine k_aload_n C0 dX2_changePrice_0 0 rfl ?_
  refine k_aload_n C0 dX2_changePrice_1 1 rfl ?_
  refine k_callV C0 K0 dX2_changePrice_2 (cc_priceIn l D Y A sg al X i hi j hj) gkX2_26 hyX2_priceIn (c_recv (sg := sg) K0 3 i hi rfl rfl) rfl (by exact Nat.le_of_ble_eq_true rfl) ⟨Nat.le_of_ble_eq_true rfl, Nat.le_of_ble_eq_true rfl⟩ ⟨Nat.le_of_ble_eq_true rfl, Nat.le_of_ble_eq_true rfl⟩ (fun E => kX_no E) (fun _ => ?_)
  refine k_istore_n C0 [(3, _), (0, _), (1, _), (2, _)] dX2_changePrice_5 (by decide) rfl ?_
  refine k_aload_n C0 dX2_changePrice_6 2 rfl ?_
  refine c_get C0 K0 1 j hj rfl inX0 rfl 0 (.int (nI j)) (by decide) dX2_changePrice_7 (tA 65 rfl rfl) (fun _ h => h) rfl ?_
  refine k_istore C0 [(4, _), (3, _), (0, _), (1, _), (2, _)] dX2_changePrice_10 (by decide) rfl ?_
  refine k_iload C0 dX2_changePrice_12 0 rfl ?_
  refine k_if_lt C0 35 dX2_changePrice_14 (by decide) (fun zz => absurd zz (nI_pos (by omega))) (fun _ => ?_)
  refine k_iload C0 dX2_changePrice_17 0 rfl ?_
  refine k_aload_n C0 dX2_changePrice_19 2 rfl ?_
  refine c_get C0 K0 3 i hi rfl inX2 rfl 2 (.ref (al 7 i)) (by decide) dX2_changePrice_20 (tB 136 rfl rfl) (fun _ h => h) rfl ?_
  refine c_alen C0 K0 7 i hi rfl 0 rfl 5 rfl dX2_changePrice_23 ?_
  refine k_icmp_ge C0 35 dX2_changePrice_24 (by decide) (fun zz => absurd zz (nI_ge (a := j) (b := 5) hj (by decide))) (fun _ => ?_)
  refine k_aload_n C0 dX2_changePrice_27 2 rfl ?_
  refine c_get C0 K0 3 i hi rfl inX2 rfl 2 (.ref (al 7 i)) (by decide) dX2_changePrice_28 (tB 136 rfl rfl) (fun _ h => h) rfl ?_
  refine k_iload C0 dX2_changePrice_31 0 rfl ?_
  refine k_iload_n C0 dX2_changePrice_33 4 rfl ?_
  refine c_iast C0 K0 7 i hi rfl (vp_in_nI hj (by decide)) dX2_changePrice_34 rfl ?_
  refine k_iload_n C0 dX2_changePrice_35 1 rfl ?_
  exact k_iret C0 dX2_changePrice_36 hr hlk (Nat.le_of_ble_eq_true rfl) (Nat.le_of_ble_eq_true rfl) () rfl (fun H h => h)
set_option maxRecDepth 100000 in
set_option maxHeartbeats 4000000 in
theorem cc_isEnded1 (l : Launch) (D : va_G) (Y : Nat → Nat) (A : Nat → Prop) (sg : Sg) (al : Nat → Nat → Nat) (X : va_W) (u : Nat) (hu : u < sN sg 5) (he : sg.1 5 u 6 = -1) : CT l yX4_isEnded (Cond.code yX4_isEnded cX4_isEnded 1 (some .boolean)) 0 0 D Y A [.ref (al 5 u)] (WX D Y A sg al X) (fun _ : Unit => some (.int 1)) (fun _ : Unit => WX D Y A sg al X) noX 0 0 := by
  refine CT.of (by decide) (Nat.le_of_ble_eq_true rfl) ?_
  intro p_ e_ s_ m_ below_ meth_ c_ C0 K0 hr hlk htab hnm_
  refine k_aload_n C0 dX4_isEnded_0 0 rfl ?_
  refine c_getI C0 K0 5 u hu rfl inX4 rfl 6 (sg.1 5 u 6) (by decide) dX4_isEnded_1 (tC 56 rfl rfl) (fun _ h => h) rfl rfl ?_
  refine k_iconst C0 (-1) dX4_isEnded_4 (by decide) ?_
  refine k_icmp_ne C0 12 dX4_isEnded_5 (by decide) (fun zz => absurd he zz) (fun _ => ?_)
  refine k_iconst C0 1 dX4_isEnded_8 (by decide) ?_
  refine k_goto C0 13 dX4_isEnded_9 (by decide) ?_
  exact k_zret C0 dX4_isEnded_13 hr rfl hlk (Nat.le_of_ble_eq_true rfl) (Nat.le_of_ble_eq_true rfl) () rfl (fun H h => h)
set_option maxRecDepth 100000 in
set_option maxHeartbeats 4000000 in
theorem cc_isEnded0 (l : Launch) (D : va_G) (Y : Nat → Nat) (A : Nat → Prop) (sg : Sg) (al : Nat → Nat → Nat) (X : va_W) (u : Nat) (hu : u < sN sg 5) (he : ¬ sg.1 5 u 6 = -1) : CT l yX4_isEnded (Cond.code yX4_isEnded cX4_isEnded 1 (some .boolean)) 0 0 D Y A [.ref (al 5 u)] (WX D Y A sg al X) (fun _ : Unit => some (.int 0)) (fun _ : Unit => WX D Y A sg al X) noX 0 0 := by
  refine CT.of (by decide) (Nat.le_of_ble_eq_true rfl) ?_
  intro p_ e_ s_ m_ below_ meth_ c_ C0 K0 hr hlk htab hnm_
  refine k_aload_n C0 dX4_isEnded_0 0 rfl ?_
  refine c_getI C0 K0 5 u hu rfl inX4 rfl 6 (sg.1 5 u 6) (by decide) dX4_isEnded_1 (tC 56 rfl rfl) (fun _ h => h) rfl rfl ?_
  refine k_iconst C0 (-1) dX4_isEnded_4 (by decide) ?_
  refine k_icmp_ne C0 12 dX4_isEnded_5 (by decide) (fun _ => ?_) (fun zz => absurd zz he)
  refine k_iconst C0 0 dX4_isEnded_12 (by decide) ?_
  exact k_zret C0 dX4_isEnded_13 hr rfl hlk (Nat.le_of_ble_eq_true rfl) (Nat.le_of_ble_eq_true rfl) () rfl (fun H h => h)
set_option maxRecDepth 100000 in
set_option maxHeartbeats 4000000 in
theorem cc_end (l : Launch) (D : va_G) (Y : Nat → Nat) (A : Nat → Prop) (sg : Sg) (al : Nat → Nat → Nat) (X : va_W) (u : Nat) (hu : u < sN sg 5)  : CT l yX4_end (Cond.code yX4_end cX4_end 1 none) 0 0 D Y A [.ref (al 5 u)] (WX D Y A sg al X) (fun _ : Unit => none) (fun _ : Unit => WX D Y A (sI sg 5 u 6 (-1)) al X) noX 0 0 := by
  refine CT.of (by decide) (Nat.le_of_ble_eq_true rfl) ?_
  intro p_ e_ s_ m_ below_ meth_ c_ C0 K0 hr hlk htab hnm_
  refine k_aload_n C0 dX4_end_0 0 rfl ?_
  refine k_iconst C0 (-1) dX4_end_1 (by decide) ?_
  refine c_putI C0 K0 5 u hu (ty := .int) rfl inX4 rfl tyX4 tyX4_ok nmX4 6 (by decide) dX4_end_2 (tC 56 rfl rfl) (fun _ h => h) rfl (by decide +kernel) rfl rfl (Nat.le_of_ble_eq_true rfl) rfl ?_
  exact k_vret C0 dX4_end_5 hr hlk (Nat.le_of_ble_eq_true rfl) (Nat.le_of_ble_eq_true rfl) () rfl (fun H h => h)
set_option maxRecDepth 100000 in
set_option maxHeartbeats 4000000 in
theorem cc_priceOfNext (l : Launch) (D : va_G) (Y : Nat → Nat) (A : Nat → Prop) (sg : Sg) (al : Nat → Nat → Nat) (X : va_W) (u : Nat) (hu : u < sN sg 5) (hp : sg.2 5 u 2 < sN sg 3) (hl_ : sg.2 5 u 0 < 5) : CT l yX4_priceOfNext (Cond.code yX4_priceOfNext cX4_priceOfNext 2 (some .int)) 1 22 D Y A [.ref (al 5 u)] (WX D Y A sg al X) (fun _ : Unit => some (.int (c_priceN sg u))) (fun _ : Unit => WX D Y A sg al X) noX 0 0 := by
  refine CT.of (by decide) (Nat.le_of_ble_eq_true rfl) ?_
  intro p_ e_ s_ m_ below_ meth_ c_ C0 K0 hr hlk htab hnm_
  refine k_aload_n C0 dX4_priceOfNext_0 0 rfl ?_
  refine c_get C0 K0 5 u hu rfl inX4 rfl 2 (.ref (al 3 (sg.2 5 u 2))) (by decide) dX4_priceOfNext_1 (tC 49 rfl rfl) (fun _ h => h) rfl ?_
  refine k_aload_n C0 dX4_priceOfNext_4 0 rfl ?_
  refine c_get C0 K0 5 u hu rfl inX4 rfl 0 (.ref (al 1 (sg.2 5 u 0))) (by decide) dX4_priceOfNext_5 (tC 46 rfl rfl) (fun _ h => h) rfl ?_
  refine k_callV C0 K0 dX4_priceOfNext_8 (cc_priceIn l D Y A sg al X (sg.2 5 u 2) hp (sg.2 5 u 0) hl_) gkX4_36 hyX2_priceIn (c_recv (sg := sg) K0 3 (sg.2 5 u 2) hp rfl rfl) rfl (by exact Nat.le_of_ble_eq_true rfl) ⟨Nat.le_of_ble_eq_true rfl, Nat.le_of_ble_eq_true rfl⟩ ⟨Nat.le_of_ble_eq_true rfl, Nat.le_of_ble_eq_true rfl⟩ (fun E => kX_no E) (fun _ => ?_)
  refine k_istore_n C0 [(1, _), (0, _)] dX4_priceOfNext_11 (by decide) rfl ?_
  refine k_aload_n C0 dX4_priceOfNext_12 1 rfl ?_
  refine c_getI C0 K0 5 u hu rfl inX4 rfl 1 (sg.1 5 u 1) (by decide) dX4_priceOfNext_13 (tC 48 rfl rfl) (fun _ h => h) rfl rfl ?_
  refine k_if_eq C0 32 dX4_priceOfNext_16 (by decide) (fun h16 => ?_) (fun h16 => ?_)
  ·
    refine k_iload_n C0 dX4_priceOfNext_32 0 rfl ?_
    exact k_iret C0 dX4_priceOfNext_33 hr hlk (Nat.le_of_ble_eq_true rfl) (Nat.le_of_ble_eq_true rfl) () (by unfold c_priceN; first | (rw [if_neg (fun z => z.1 h16)]; done) | (rw [if_neg (fun z => h23 z.2)]; done) | (rw [if_pos ⟨h16, h23⟩]; done)) (fun H h => h)
  ·
    refine k_aload_n C0 dX4_priceOfNext_19 1 rfl ?_
    refine c_getI C0 K0 5 u hu rfl inX4 rfl 5 (sg.1 5 u 5) (by decide) dX4_priceOfNext_20 (tC 54 rfl rfl) (fun _ h => h) rfl rfl ?_
    refine k_if_ne C0 32 dX4_priceOfNext_23 (by decide) (fun h23 => ?_) (fun h23 => ?_)
    ·
      refine k_iload_n C0 dX4_priceOfNext_32 0 rfl ?_
      exact k_iret C0 dX4_priceOfNext_33 hr hlk (Nat.le_of_ble_eq_true rfl) (Nat.le_of_ble_eq_true rfl) () (by unfold c_priceN; first | (rw [if_neg (fun z => z.1 h16)]; done) | (rw [if_neg (fun z => h23 z.2)]; done) | (rw [if_pos ⟨h16, h23⟩]; done)) (fun H h => h)
    ·
      refine k_iload_n C0 dX4_priceOfNext_26 0 rfl ?_
      refine k_iconst C0 2 dX4_priceOfNext_27 (by decide) ?_
      refine k_idiv C0 dX4_priceOfNext_28 (by decide) ?_
      refine k_goto C0 33 dX4_priceOfNext_29 (by decide) ?_
      exact k_iret C0 dX4_priceOfNext_33 hr hlk (Nat.le_of_ble_eq_true rfl) (Nat.le_of_ble_eq_true rfl) () (by unfold c_priceN; first | (rw [if_neg (fun z => z.1 h16)]; done) | (rw [if_neg (fun z => h23 z.2)]; done) | (rw [if_pos ⟨h16, h23⟩]; done)) (fun H h => h)
set_option maxRecDepth 100000 in
set_option maxHeartbeats 4000000 in
theorem cc_countPayment (l : Launch) (D : va_G) (Y : Nat → Nat) (A : Nat → Prop) (sg : Sg) (al : Nat → Nat → Nat) (X : va_W) (u : Nat) (hu : u < sN sg 5) (d : Int32) : CT l yX4_countPayment (Cond.code yX4_countPayment cX4_countPayment 2 none) 0 0 D Y A [.ref (al 5 u), .int d] (WX D Y A sg al X) (fun _ : Unit => none) (fun _ : Unit => WX D Y A (c_count sg u d) al X) noX 0 0 := by
  refine CT.of (by decide) (Nat.le_of_ble_eq_true rfl) ?_
  intro p_ e_ s_ m_ below_ meth_ c_ C0 K0 hr hlk htab hnm_
  refine k_aload_n C0 dX4_countPayment_0 0 rfl ?_
  refine k_dup C0 dX4_countPayment_1 rfl ?_
  refine c_getI C0 K0 5 u hu rfl inX4 rfl 5 (sg.1 5 u 5) (by decide) dX4_countPayment_2 (tC 54 rfl rfl) (fun _ h => h) rfl rfl ?_
  refine k_iconst C0 1 dX4_countPayment_5 (by decide) ?_
  refine k_iadd C0 dX4_countPayment_6 ?_
  refine c_putI C0 K0 5 u hu (ty := .int) rfl inX4 rfl tyX4 tyX4_ok nmX4 5 (by decide) dX4_countPayment_7 (tC 54 rfl rfl) (fun _ h => h) rfl (by decide +kernel) rfl rfl (Nat.le_of_ble_eq_true rfl) rfl ?_
  refine k_aload_n C0 dX4_countPayment_10 0 rfl ?_
  refine k_iconst C0 0 dX4_countPayment_11 (by decide) ?_
  refine c_putI (sg := sI sg 5 u 5 ((sg.1 5 u 5) + 1)) C0 K0 5 u hu (ty := .int) rfl inX4 rfl tyX4 tyX4_ok nmX4 4 (by decide) dX4_countPayment_12 (tC 53 rfl rfl) (fun _ h => h) rfl (by decide +kernel) rfl rfl (Nat.le_of_ble_eq_true rfl) rfl ?_
  refine k_aload_n C0 dX4_countPayment_15 0 rfl ?_
  refine k_iload_n C0 dX4_countPayment_16 1 rfl ?_
  refine k_bipush C0 30 dX4_countPayment_17 (by decide) ?_
  refine k_iadd C0 dX4_countPayment_19 ?_
  refine c_putI (sg := sI (sI sg 5 u 5 ((sg.1 5 u 5) + 1)) 5 u 4 0) C0 K0 5 u hu (ty := .int) rfl inX4 rfl tyX4 tyX4_ok nmX4 6 (by decide) dX4_countPayment_20 (tC 56 rfl rfl) (fun _ h => h) rfl (by decide +kernel) rfl rfl (Nat.le_of_ble_eq_true rfl) rfl ?_
  exact k_vret C0 dX4_countPayment_23 hr hlk (Nat.le_of_ble_eq_true rfl) (Nat.le_of_ble_eq_true rfl) () rfl (fun H h => h)
set_option maxRecDepth 100000 in
set_option maxHeartbeats 4000000 in
theorem cc_fail (l : Launch) (D : va_G) (Y : Nat → Nat) (A : Nat → Prop) (sg : Sg) (al : Nat → Nat → Nat) (X : va_W) (u : Nat) (hu : u < sN sg 5)  : CT l yX4_fail (Cond.code yX4_fail cX4_fail 1 none) 1 20 D Y A [.ref (al 5 u)] (WX D Y A sg al X) (fun _ : Unit => none) (fun _ : Unit => WX D Y A (c_fail sg u) al X) noX 0 0 := by
  refine CT.of (by decide) (Nat.le_of_ble_eq_true rfl) ?_
  intro p_ e_ s_ m_ below_ meth_ c_ C0 K0 hr hlk htab hnm_
  refine k_aload_n C0 dX4_fail_0 0 rfl ?_
  refine k_dup C0 dX4_fail_1 rfl ?_
  refine c_getI C0 K0 5 u hu rfl inX4 rfl 4 (sg.1 5 u 4) (by decide) dX4_fail_2 (tC 53 rfl rfl) (fun _ h => h) rfl rfl ?_
  refine k_iconst C0 1 dX4_fail_5 (by decide) ?_
  refine k_iadd C0 dX4_fail_6 ?_
  refine c_putI C0 K0 5 u hu (ty := .int) rfl inX4 rfl tyX4 tyX4_ok nmX4 4 (by decide) dX4_fail_7 (tC 53 rfl rfl) (fun _ h => h) rfl (by decide +kernel) rfl rfl (Nat.le_of_ble_eq_true rfl) rfl ?_
  refine k_aload_n C0 dX4_fail_10 0 rfl ?_
  refine c_getI (sg := sI sg 5 u 4 ((sg.1 5 u 4) + 1)) C0 K0 5 u hu rfl inX4 rfl 4 ((sg.1 5 u 4) + 1) (by decide) dX4_fail_11 (tC 53 rfl rfl) (fun _ h => h) rfl up3_at ?_
  refine k_bipush C0 6 dX4_fail_14 (by decide) ?_
  refine k_icmp_lt C0 26 dX4_fail_16 (by decide) (fun h16 => ?_) (fun h16 => ?_)
  ·
    refine k_aload_n C0 dX4_fail_26 0 rfl ?_
    refine k_dup C0 dX4_fail_27 rfl ?_
    refine c_getI (sg := sI sg 5 u 4 ((sg.1 5 u 4) + 1)) C0 K0 5 u hu rfl inX4 rfl 6 (sg.1 5 u 6) (by decide) dX4_fail_28 (tC 56 rfl rfl) (fun _ h => h) rfl (up3_j (by decide) rfl) ?_
    refine k_iconst C0 1 dX4_fail_31 (by decide) ?_
    refine k_iadd C0 dX4_fail_32 ?_
    refine c_putI (sg := sI sg 5 u 4 ((sg.1 5 u 4) + 1)) C0 K0 5 u hu (ty := .int) rfl inX4 rfl tyX4 tyX4_ok nmX4 6 (by decide) dX4_fail_33 (tC 56 rfl rfl) (fun _ h => h) rfl (by decide +kernel) rfl rfl (Nat.le_of_ble_eq_true rfl) rfl ?_
    exact k_vret C0 dX4_fail_36 hr hlk (Nat.le_of_ble_eq_true rfl) (Nat.le_of_ble_eq_true rfl) () rfl (by unfold c_fail; first | (rw [if_pos h16]; exact fun H h => h) | (rw [if_neg h16]; exact fun H h => h))
  ·
    refine k_aload_n C0 dX4_fail_19 0 rfl ?_
    refine k_callV C0 K0 dX4_fail_20 (cc_end l D Y A (sI sg 5 u 4 ((sg.1 5 u 4) + 1)) al X u hu) gkX4_42 hyX4_end (c_recv (sg := sI sg 5 u 4 ((sg.1 5 u 4) + 1)) K0 5 u hu rfl rfl) rfl (by exact Nat.le_of_ble_eq_true rfl) ⟨Nat.le_of_ble_eq_true rfl, Nat.le_of_ble_eq_true rfl⟩ ⟨Nat.le_of_ble_eq_true rfl, Nat.le_of_ble_eq_true rfl⟩ (fun E => kX_no E) (fun _ => ?_)
    refine k_goto C0 36 dX4_fail_23 (by decide) ?_
    exact k_vret C0 dX4_fail_36 hr hlk (Nat.le_of_ble_eq_true rfl) (Nat.le_of_ble_eq_true rfl) () rfl (by unfold c_fail; first | (rw [if_pos h16]; exact fun H h => h) | (rw [if_neg h16]; exact fun H h => h))
set_option maxRecDepth 100000 in
set_option maxHeartbeats 4000000 in
theorem cc_requireRange (l : Launch) (D : va_G) (Y : Nat → Nat) (A : Nat → Prop) (V : Heap → Prop) (x lo hi : Int32) (h1 : lo ≤ x) (h2 : x ≤ hi) : CT l yX5_requireRange (Cond.code yX5_requireRange cX5_requireRange 3 none) 0 0 D Y A [.int x, .int lo, .int hi] V (fun _ : Unit => none) (fun _ : Unit => V) noX 0 0 := by
  refine CT.of (by decide) (Nat.le_of_ble_eq_true rfl) ?_
  intro p_ e_ s_ m_ below_ meth_ c_ C0 K0 hr hlk htab hnm_
  refine k_iload_n C0 dX5_requireRange_0 0 rfl ?_
  refine k_iload_n C0 dX5_requireRange_1 1 rfl ?_
  refine k_icmp_lt C0 10 dX5_requireRange_2 (by decide) (fun zz => absurd zz (Int32.not_lt.mpr h1)) (fun _ => ?_)
  refine k_iload_n C0 dX5_requireRange_5 0 rfl ?_
  refine k_iload_n C0 dX5_requireRange_6 2 rfl ?_
  refine k_icmp_le C0 20 dX5_requireRange_7 (by decide) (fun _ => ?_) (fun zz => absurd h2 zz)
  exact k_vret C0 dX5_requireRange_20 hr hlk (Nat.le_of_ble_eq_true rfl) (Nat.le_of_ble_eq_true rfl) () rfl (fun H h => h)
set_option maxRecDepth 100000 in
set_option maxHeartbeats 4000000 in
theorem cx_requireRange (l : Launch) (D : va_G) (Y : Nat → Nat) (A : Nat → Prop) (sg : Sg) (al : Nat → Nat → Nat) (X : va_W) (hlt : l.stackTraces = false) (x lo hi : Int32) (h : ¬ (lo ≤ x ∧ x ≤ hi)) : CT l yX5_requireRange (Cond.code yX5_requireRange cX5_requireRange 3 none) 6 82 D Y A [.int x, .int lo, .int hi] (WX D Y A sg al X) (fun _ : Unit => none) (fun (_ : Unit) (_ : Heap) => False) (xE "java/lang/IllegalArgumentException" (WX D Y A sg al X)) 1 6 := by
  refine CT.of (by decide) (Nat.le_of_ble_eq_true rfl) ?_
  intro p_ e_ s_ m_ below_ meth_ c_ C0 K0 hr hlk htab hnm_
  refine k_iload_n C0 dX5_requireRange_0 0 rfl ?_
  refine k_iload_n C0 dX5_requireRange_1 1 rfl ?_
  refine k_icmp_lt C0 10 dX5_requireRange_2 (by decide) (fun h2 => ?_) (fun h2 => ?_)
  ·
    exact k_throwS C0 K0 hlt htab hlk rfl (text := "an argument is out of range") (by decide) (by decide +kernel) (tA 139 rfl rfl) (tA 10 rfl rfl) in_x0 in_y0 in_z0 (by decide) dX5_requireRange_10 dX5_requireRange_13 dX5_requireRange_14 dX5_requireRange_16 dX5_requireRange_19 (Nat.le_of_ble_eq_true rfl) (Nat.le_of_ble_eq_true rfl) (Nat.le_of_ble_eq_true rfl) (Nat.le_of_ble_eq_true rfl) (Nat.le_of_ble_eq_true rfl) (Nat.le_of_ble_eq_true rfl) rfl (fun H H2 hV _ oq => ⟨rfl, hV.keep oq⟩)
  ·
    refine k_iload_n C0 dX5_requireRange_5 0 rfl ?_
    refine k_iload_n C0 dX5_requireRange_6 2 rfl ?_
    refine k_icmp_le C0 20 dX5_requireRange_7 (by decide) (fun zz => absurd zz (fun q => h ⟨Int32.not_lt.mp h2, q⟩)) (fun _ => ?_)
    exact k_throwS C0 K0 hlt htab hlk rfl (text := "an argument is out of range") (by decide) (by decide +kernel) (tA 139 rfl rfl) (tA 10 rfl rfl) in_x0 in_y0 in_z0 (by decide) dX5_requireRange_10 dX5_requireRange_13 dX5_requireRange_14 dX5_requireRange_16 dX5_requireRange_19 (Nat.le_of_ble_eq_true rfl) (Nat.le_of_ble_eq_true rfl) (Nat.le_of_ble_eq_true rfl) (Nat.le_of_ble_eq_true rfl) (Nat.le_of_ble_eq_true rfl) (Nat.le_of_ble_eq_true rfl) rfl (fun H H2 hV _ oq => ⟨rfl, hV.keep oq⟩)
set_option maxRecDepth 100000 in
set_option maxHeartbeats 4000000 in
theorem cc_requireRoom (l : Launch) (D : va_G) (Y : Nat → Nat) (A : Nat → Prop) (V : Heap → Prop) (x y : Int32) (h : x < y) : CT l yX5_requireRoom (Cond.code yX5_requireRoom cX5_requireRoom 2 none) 0 0 D Y A [.int x, .int y] V (fun _ : Unit => none) (fun _ : Unit => V) noX 0 0 := by
  refine CT.of (by decide) (Nat.le_of_ble_eq_true rfl) ?_
  intro p_ e_ s_ m_ below_ meth_ c_ C0 K0 hr hlk htab hnm_
  refine k_iload_n C0 dX5_requireRoom_0 0 rfl ?_
  refine k_iload_n C0 dX5_requireRoom_1 1 rfl ?_
  refine k_icmp_lt C0 15 dX5_requireRoom_2 (by decide) (fun _ => ?_) (fun zz => absurd h zz)
  exact k_vret C0 dX5_requireRoom_15 hr hlk (Nat.le_of_ble_eq_true rfl) (Nat.le_of_ble_eq_true rfl) () rfl (fun H h => h)
set_option maxRecDepth 100000 in
set_option maxHeartbeats 4000000 in
theorem cx_requireRoom (l : Launch) (D : va_G) (Y : Nat → Nat) (A : Nat → Prop) (sg : Sg) (al : Nat → Nat → Nat) (X : va_W) (hlt : l.stackTraces = false) (x y : Int32) (h : ¬ x < y) : CT l yX5_requireRoom (Cond.code yX5_requireRoom cX5_requireRoom 2 none) 6 82 D Y A [.int x, .int y] (WX D Y A sg al X) (fun _ : Unit => none) (fun (_ : Unit) (_ : Heap) => False) (xE "java/lang/IllegalStateException" (WX D Y A sg al X)) 1 6 := by
  refine CT.of (by decide) (Nat.le_of_ble_eq_true rfl) ?_
  intro p_ e_ s_ m_ below_ meth_ c_ C0 K0 hr hlk htab hnm_
  refine k_iload_n C0 dX5_requireRoom_0 0 rfl ?_
  refine k_iload_n C0 dX5_requireRoom_1 1 rfl ?_
  refine k_icmp_lt C0 15 dX5_requireRoom_2 (by decide) (fun zz => absurd zz h) (fun _ => ?_)
  exact k_throwS C0 K0 hlt htab hlk rfl (text := "there are as many as there may be") (by decide) (by decide +kernel) (tA 223 rfl rfl) (tA 11 rfl rfl) in_x1 in_y1 in_z1 (by decide) dX5_requireRoom_5 dX5_requireRoom_8 dX5_requireRoom_9 dX5_requireRoom_11 dX5_requireRoom_14 (Nat.le_of_ble_eq_true rfl) (Nat.le_of_ble_eq_true rfl) (Nat.le_of_ble_eq_true rfl) (Nat.le_of_ble_eq_true rfl) (Nat.le_of_ble_eq_true rfl) (Nat.le_of_ble_eq_true rfl) rfl (fun H H2 hV _ oq => ⟨rfl, hV.keep oq⟩)
set_option maxRecDepth 100000 in
set_option maxHeartbeats 4000000 in
theorem cc_requireRunning (l : Launch) (D : va_G) (Y : Nat → Nat) (A : Nat → Prop) (sg : Sg) (al : Nat → Nat → Nat) (X : va_W) (u : Nat) (hu : u < sN sg 5) (he : ¬ sg.1 5 u 6 = -1) : CT l yX5_requireRunning (Cond.code yX5_requireRunning cX5_requireRunning 1 none) 1 20 D Y A [.ref (al 5 u)] (WX D Y A sg al X) (fun _ : Unit => none) (fun _ : Unit => WX D Y A sg al X) noX 0 0 := by
  refine CT.of (by decide) (Nat.le_of_ble_eq_true rfl) ?_
  intro p_ e_ s_ m_ below_ meth_ c_ C0 K0 hr hlk htab hnm_
  refine k_aload_n C0 dX5_requireRunning_0 0 rfl ?_
  refine k_callV C0 K0 dX5_requireRunning_1 (cc_isEnded0 l D Y A sg al X u hu he) gkX5_223 hyX4_isEnded (c_recv (sg := sg) K0 5 u hu rfl rfl) rfl (by exact Nat.le_of_ble_eq_true rfl) ⟨Nat.le_of_ble_eq_true rfl, Nat.le_of_ble_eq_true rfl⟩ ⟨Nat.le_of_ble_eq_true rfl, Nat.le_of_ble_eq_true rfl⟩ (fun E => kX_no E) (fun _ => ?_)
  refine k_if_eq C0 17 dX5_requireRunning_4 (by decide) (fun _ => ?_) (fun zz => absurd (by decide) zz)
  exact k_vret C0 dX5_requireRunning_17 hr hlk (Nat.le_of_ble_eq_true rfl) (Nat.le_of_ble_eq_true rfl) () rfl (fun H h => h)
set_option maxRecDepth 100000 in
set_option maxHeartbeats 4000000 in
theorem cx_requireRunning (l : Launch) (D : va_G) (Y : Nat → Nat) (A : Nat → Prop) (sg : Sg) (al : Nat → Nat → Nat) (X : va_W) (hlt : l.stackTraces = false) (u : Nat) (hu : u < sN sg 5) (he : sg.1 5 u 6 = -1) : CT l yX5_requireRunning (Cond.code yX5_requireRunning cX5_requireRunning 1 none) 6 82 D Y A [.ref (al 5 u)] (WX D Y A sg al X) (fun _ : Unit => none) (fun (_ : Unit) (_ : Heap) => False) (xE "java/lang/IllegalStateException" (WX D Y A sg al X)) 1 6 := by
  refine CT.of (by decide) (Nat.le_of_ble_eq_true rfl) ?_
  intro p_ e_ s_ m_ below_ meth_ c_ C0 K0 hr hlk htab hnm_
  refine k_aload_n C0 dX5_requireRunning_0 0 rfl ?_
  refine k_callV C0 K0 dX5_requireRunning_1 (cc_isEnded1 l D Y A sg al X u hu he) gkX5_223 hyX4_isEnded (c_recv (sg := sg) K0 5 u hu rfl rfl) rfl (by exact Nat.le_of_ble_eq_true rfl) ⟨Nat.le_of_ble_eq_true rfl, Nat.le_of_ble_eq_true rfl⟩ ⟨Nat.le_of_ble_eq_true rfl, Nat.le_of_ble_eq_true rfl⟩ (fun E => kX_no E) (fun _ => ?_)
  refine k_if_eq C0 17 dX5_requireRunning_4 (by decide) (fun zz => absurd zz (by decide)) (fun _ => ?_)
  exact k_throwS C0 K0 hlt htab hlk rfl (text := "the subscription has ended") (by decide) (by decide +kernel) (tA 223 rfl rfl) (tA 11 rfl rfl) in_x1 in_y1 in_z1 (by decide) dX5_requireRunning_7 dX5_requireRunning_10 dX5_requireRunning_11 dX5_requireRunning_13 dX5_requireRunning_16 (Nat.le_of_ble_eq_true rfl) (Nat.le_of_ble_eq_true rfl) (Nat.le_of_ble_eq_true rfl) (Nat.le_of_ble_eq_true rfl) (Nat.le_of_ble_eq_true rfl) (Nat.le_of_ble_eq_true rfl) rfl (fun H H2 hV _ oq => ⟨rfl, hV.keep oq⟩)
set_option maxRecDepth 100000 in
set_option maxHeartbeats 4000000 in
theorem cc_currentMonth (l : Launch) (D : va_G) (Y : Nat → Nat) (A : Nat → Prop) (sg : Sg) (al : Nat → Nat → Nat) (X : va_W)  : CT l yX5_currentMonth (Cond.code yX5_currentMonth cX5_currentMonth 1 (some .int)) 0 0 D Y A [.ref (al 0 0)] (WX D Y A sg al X) (fun _ : Unit => some (.int ((sg.1 0 0 5) / 30))) (fun _ : Unit => WX D Y A sg al X) noX 0 0 := by
  refine CT.of (by decide) (Nat.le_of_ble_eq_true rfl) ?_
  intro p_ e_ s_ m_ below_ meth_ c_ C0 K0 hr hlk htab hnm_
  refine k_aload_n C0 dX5_currentMonth_0 0 rfl ?_
  refine c_getI C0 K0 0 0 rfl rfl inX5 rfl 5 (sg.1 0 0 5) (by decide) dX5_currentMonth_1 (tA 87 rfl rfl) (fun _ h => h) rfl rfl ?_
  refine k_bipush C0 30 dX5_currentMonth_4 (by decide) ?_
  refine k_idiv C0 dX5_currentMonth_6 (by decide) ?_
  exact k_iret C0 dX5_currentMonth_7 hr hlk (Nat.le_of_ble_eq_true rfl) (Nat.le_of_ble_eq_true rfl) () rfl (fun H h => h)
set_option maxRecDepth 100000 in
set_option maxHeartbeats 4000000 in
theorem cc_landAt (l : Launch) (D : va_G) (Y : Nat → Nat) (A : Nat → Prop) (sg : Sg) (al : Nat → Nat → Nat) (X : va_W) (j : Nat) (hj : j < 5) : CT l yX5_landAt (Cond.code yX5_landAt cX5_landAt 2 (some (.object "ShopPaymaster$Land"))) 0 0 D Y A [.ref (al 0 0), .int (nI j)] (WX D Y A sg al X) (fun _ : Unit => some (.ref (al 1 j))) (fun _ : Unit => WX D Y A sg al X) noX 0 0 := by
  refine CT.of (by decide) (Nat.le_of_ble_eq_true rfl) ?_
  intro p_ e_ s_ m_ below_ meth_ c_ C0 K0 hr hlk htab hnm_
  refine k_iload_n C0 dX5_landAt_0 1 rfl ?_
  refine k_if_lt C0 13 dX5_landAt_1 (by decide) (fun zz => absurd zz (nI_pos (by omega))) (fun _ => ?_)
  refine k_iload_n C0 dX5_landAt_4 1 rfl ?_
  refine k_aload_n C0 dX5_landAt_5 0 rfl ?_
  refine c_get C0 K0 0 0 rfl rfl inX5 rfl 0 (.ref (al 8 0)) (by decide) dX5_landAt_6 (tA 82 rfl rfl) (fun _ h => h) rfl ?_
  refine c_alen C0 K0 8 0 rfl rfl 2 rfl 5 rfl dX5_landAt_9 ?_
  refine k_icmp_lt C0 23 dX5_landAt_10 (by decide) (fun _ => ?_) (fun zz => absurd (nI_lt (b := 5) hj (by decide)) zz)
  refine k_aload_n C0 dX5_landAt_23 0 rfl ?_
  refine c_get C0 K0 0 0 rfl rfl inX5 rfl 0 (.ref (al 8 0)) (by decide) dX5_landAt_24 (tA 82 rfl rfl) (fun _ h => h) rfl ?_
  refine k_iload_n C0 dX5_landAt_27 1 rfl ?_
  refine c_aald C0 K0 8 0 rfl (v := al 1 j) rfl 2 rfl (vp_in_nI hj (by decide)) dX5_landAt_28 (by rw [nI_clamp (by omega)]) ?_
  exact k_aret C0 dX5_landAt_29 hr (Or.inl ⟨_, rfl⟩) hlk (Nat.le_of_ble_eq_true rfl) (Nat.le_of_ble_eq_true rfl) () rfl (fun H h => h)
set_option maxRecDepth 100000 in
set_option maxHeartbeats 4000000 in
theorem cx_landAt (l : Launch) (D : va_G) (Y : Nat → Nat) (A : Nat → Prop) (sg : Sg) (al : Nat → Nat → Nat) (X : va_W) (hlt : l.stackTraces = false) (x : Int32) (h : ¬ (0 ≤ x ∧ x ≤ 4)) : CT l yX5_landAt (Cond.code yX5_landAt cX5_landAt 2 (some (.object "ShopPaymaster$Land"))) 6 82 D Y A [.ref (al 0 0), .int x] (WX D Y A sg al X) (fun _ : Unit => none) (fun (_ : Unit) (_ : Heap) => False) (xE "java/lang/IllegalArgumentException" (WX D Y A sg al X)) 1 6 := by
  refine CT.of (by decide) (Nat.le_of_ble_eq_true rfl) ?_
  intro p_ e_ s_ m_ below_ meth_ c_ C0 K0 hr hlk htab hnm_
  refine k_iload_n C0 dX5_landAt_0 1 rfl ?_
  refine k_if_lt C0 13 dX5_landAt_1 (by decide) (fun h1 => ?_) (fun h1 => ?_)
  ·
    exact k_throwS C0 K0 hlt htab hlk rfl (text := "no such land") (by decide) (by decide +kernel) (tA 139 rfl rfl) (tA 10 rfl rfl) in_x0 in_y0 in_z0 (by decide) dX5_landAt_13 dX5_landAt_16 dX5_landAt_17 dX5_landAt_19 dX5_landAt_22 (Nat.le_of_ble_eq_true rfl) (Nat.le_of_ble_eq_true rfl) (Nat.le_of_ble_eq_true rfl) (Nat.le_of_ble_eq_true rfl) (Nat.le_of_ble_eq_true rfl) (Nat.le_of_ble_eq_true rfl) rfl (fun H H2 hV _ oq => ⟨rfl, hV.keep oq⟩)
  ·
    refine k_iload_n C0 dX5_landAt_4 1 rfl ?_
    refine k_aload_n C0 dX5_landAt_5 0 rfl ?_
    refine c_get C0 K0 0 0 rfl rfl inX5 rfl 0 (.ref (al 8 0)) (by decide) dX5_landAt_6 (tA 82 rfl rfl) (fun _ h => h) rfl ?_
    refine c_alen C0 K0 8 0 rfl rfl 2 rfl 5 rfl dX5_landAt_9 ?_
    refine k_icmp_lt C0 23 dX5_landAt_10 (by decide) (fun zz => absurd zz (fun q => h ⟨Int32.not_lt.mp h1, (by rw [fa_le_]; have := (fa_lt_ _ _).mp q; exact Int.le_of_lt_add_one this)⟩)) (fun _ => ?_)
    exact k_throwS C0 K0 hlt htab hlk rfl (text := "no such land") (by decide) (by decide +kernel) (tA 139 rfl rfl) (tA 10 rfl rfl) in_x0 in_y0 in_z0 (by decide) dX5_landAt_13 dX5_landAt_16 dX5_landAt_17 dX5_landAt_19 dX5_landAt_22 (Nat.le_of_ble_eq_true rfl) (Nat.le_of_ble_eq_true rfl) (Nat.le_of_ble_eq_true rfl) (Nat.le_of_ble_eq_true rfl) (Nat.le_of_ble_eq_true rfl) (Nat.le_of_ble_eq_true rfl) rfl (fun H H2 hV _ oq => ⟨rfl, hV.keep oq⟩)
end
section
/-! lists: what a store of theirs does to the world -/
def sL (sg : Sg) (f L v : Nat) : Sg := sP sg f L 0 v
section KL
variable {D : va_G} {Y : Nat → Nat} {A : Nat → Prop} {sg : Sg} {al : Nat → Nat → Nat} {X : va_W} {H H' : Heap}
theorem cel_21 (L v : Nat) : ∀ (k i : Nat), ¬ (k = 9 ∧ i = L) → cel Y (sP sg 21 L 0 v) al k i = cel Y sg al k i
  | 0, _, _ => rfl | 1, _, _ => rfl | 2, _, _ => rfl | 3, _, _ => rfl | 4, _, _ => rfl | 5, _, _ => rfl | 6, _, _ => rfl | 7, _, _ => rfl | 8, _, _ => rfl
  | 9, i, h => by
    have e : (sP sg 21 L 0 v).2 21 i 0 = sg.2 21 i 0 := if_neg (fun z => h ⟨rfl, z.2.1⟩)
    show Sum.inr (0, [Value.int (sg.1 9 i 0), .ref (al 10 i), .int (nI ((sP sg 21 L 0 v).2 21 i 0))]) = _
    rw [e]
    rfl
  | _ + 10, _, _ => rfl
theorem cel_23 (L v : Nat) : ∀ (k i : Nat), ¬ (k = 10 ∧ i = L) → (k ≤ 10) → cel Y (sP sg 23 L 0 v) al k i = cel Y sg al k i
  | 0, _, _, _ => rfl | 1, _, _, _ => rfl | 2, _, _, _ => rfl | 3, _, _, _ => rfl | 4, _, _, _ => rfl | 5, _, _, _ => rfl | 6, _, _, _ => rfl | 7, _, _, _ => rfl | 8, _, _, _ => rfl | 9, _, _, _ => rfl
  | 10, i, h, _ => by
    have e : (sP sg 23 L 0 v).2 23 i 0 = sg.2 23 i 0 := if_neg (fun z => h ⟨rfl, z.2.1⟩)
    show (Sum.inl (Y 3, sg.2 22 i 0, .inr (.inr (.inr (.inr (lEl ((sP sg 23 L 0 v).2 23 i 0) (al (2 + i))))))) : va_E) = _
    rw [e]
    rfl
  | n + 11, _, _, h => by omega
theorem live_le {k i : Nat} (h : live sg k i) : k ≤ 10 := by
  rcases Nat.lt_or_ge 10 k with q | q
  · obtain ⟨n, rfl⟩ : ∃ n, k = n + 11 := ⟨k - 11, by omega⟩
    exact h.elim
  · exact q
theorem live_P {f L v : Nat} (hf : f = 21 ∨ f = 23 ∨ f = 5) : ∀ k' i', live (sP sg f L 0 v) k' i' ↔ live sg k' i' := by
  rcases hf with rfl | rfl | rfl <;> (intro k i; match k with
    | 0 => exact Iff.rfl | 1 => exact Iff.rfl | 2 => exact Iff.rfl | 3 => exact Iff.rfl | 4 => exact Iff.rfl | 5 => exact Iff.rfl | 6 => exact Iff.rfl | 7 => exact Iff.rfl | 8 => exact Iff.rfl | 9 => exact Iff.rfl | 10 => exact Iff.rfl | _ + 11 => exact Iff.rfl)
theorem WX.putSz (h : WX D Y A sg al X H) (L v : Nat) (hL : L < 4) (h1 : va_at D vwCl (al 9 L, .inr (0, [.int (sg.1 9 L 0), .ref (al 10 L), .int (nI v)])) H') (oq : ∀ q, q ≠ al 9 L → H'[q]? = H[q]?) : WX D Y A (sP sg 21 L 0 v) al X H' := by
  refine h.put 9 L hL (live_P (Or.inl rfl)) (fun _ _ => rfl) (fun k i _ hne => cel_21 L v k i hne) ?_ oq
  have e : (sP sg 21 L 0 v).2 21 L 0 = v := up3_at
  show va_at D vwCl (al 9 L, .inr (0, [.int (sg.1 9 L 0), .ref (al 10 L), .int (nI ((sP sg 21 L 0 v).2 21 L 0))])) H'
  rw [e]
  exact h1
theorem lEl_up (fz : Nat) (ad : Nat → Nat) : va_up (lEl fz ad) fz (some (ad fz)) = lEl (fz + 1) ad := by
  funext j
  by_cases h : j = fz
  · subst h; simp [va_up, lEl]
  · have : (j < fz + 1) ↔ (j < fz) := by omega
    simp [va_up, lEl, h, this]
theorem WX.putEl (h : WX D Y A sg al X H) (L : Nat) (hl : live sg 10 L) (h1 : va_at D vwCl (al 10 L, .inl (Y 3, sC sg L, .inr (.inr (.inr (.inr (va_up (lEl (sF sg L) (al (2 + L))) (sF sg L) (some (al (2 + L) (sF sg L))))))))) H') (oq : ∀ q, q ≠ al 10 L → H'[q]? = H[q]?) : WX D Y A (sP sg 23 L 0 (sF sg L + 1)) al X H' := by
  refine h.put 10 L hl (live_P (Or.inr (Or.inl rfl))) (fun _ _ => rfl) (fun k i hk hne => cel_23 L _ k i hne (live_le hk)) ?_ oq
  have e : (sP sg 23 L 0 (sF sg L + 1)).2 23 L 0 = sF sg L + 1 := up3_at
  show va_at D vwCl (al 10 L, .inl (Y 3, sg.2 22 L 0, .inr (.inr (.inr (.inr (lEl ((sP sg 23 L 0 (sF sg L + 1)).2 23 L 0) (al (2 + L)))))))) H'
  rw [e, ← lEl_up]
  exact h1
theorem aU_at {al : Nat → Nat → Nat} {k i q : Nat} : aU al k i q k i = q := by simp [aU]
theorem aU_ne {al : Nat → Nat → Nat} {k i q k' i' : Nat} (h : ¬ (k' = k ∧ i' = i)) : aU al k i q k' i' = al k' i' := by
  unfold aU
  by_cases h1 : k' = k
  · rw [if_pos h1, if_neg (fun z => h ⟨h1, z⟩)]
  · rw [if_neg h1]
/-- another list's array: al at kind 10 is seen in kind 9 alone -/
theorem celF_al (f : Nat → Int32) (P : Nat → Nat → Nat → Nat) (L q : Nat) (hL : L < 4) : ∀ (k i : Nat), ¬ (k = 9 ∧ i = L) → (k = 10 → i < 4) → k ≤ 10 → celF Y f P (aU al 10 L q) k i = celF Y f P al k i
  | 0, _, _, _, _ => rfl | 1, _, _, _, _ => rfl | 2, _, _, _, _ => rfl | 3, _, _, _, _ => rfl | 4, _, _, _, _ => rfl | 5, _, _, _, _ => rfl | 6, _, _, _, _ => rfl | 7, _, _, _, _ => rfl | 8, _, _, _, _ => rfl
  | 9, i, h, _, _ => by
    have e : aU al 10 L q 10 i = al 10 i := aU_ne (fun z => h ⟨rfl, z.2⟩)
    show Sum.inr (0, [Value.int (f 0), .ref (aU al 10 L q 10 i), .int (nI (P 21 i 0))]) = _
    rw [e]
    rfl
  | 10, i, _, h4, _ => by
    have h5 := h4 rfl
    have e : aU al 10 L q (2 + i) = al (2 + i) := by
      funext j
      exact aU_ne (fun z => by omega)
    show (Sum.inl (Y 3, P 22 i 0, .inr (.inr (.inr (.inr (lEl (P 23 i 0) (aU al 10 L q (2 + i))))))) : va_E) = _
    rw [e]
    rfl
  | n + 11, i, _, _, h => by omega
theorem cel_22 (L v : Nat) : ∀ (k i : Nat), ¬ (k = 10 ∧ i = L) → (k ≤ 10) → cel Y (sP sg 22 L 0 v) al k i = cel Y sg al k i
  | 0, _, _, _ => rfl | 1, _, _, _ => rfl | 2, _, _, _ => rfl | 3, _, _, _ => rfl | 4, _, _, _ => rfl | 5, _, _, _ => rfl | 6, _, _, _ => rfl | 7, _, _, _ => rfl | 8, _, _, _ => rfl | 9, _, _, _ => rfl
  | 10, i, h, _ => by
    have e : (sP sg 22 L 0 v).2 22 i 0 = sg.2 22 i 0 := if_neg (fun z => h ⟨rfl, z.2.1⟩)
    show (Sum.inl (Y 3, (sP sg 22 L 0 v).2 22 i 0, .inr (.inr (.inr (.inr (lEl (sg.2 23 i 0) (al (2 + i))))))) : va_E) = _
    rw [e]
    rfl
  | n + 11, _, _, h => by omega
theorem live_22 {L v : Nat} (hL : L < 4) (hv : 0 < v) (k i : Nat) : live (sP sg 22 L 0 v) k i ↔ live sg k i ∨ (k = 10 ∧ i = L) := by
  match k with
  | 0 => exact ⟨Or.inl, fun h => h.elim id (fun z => by omega)⟩ | 1 => exact ⟨Or.inl, fun h => h.elim id (fun z => by omega)⟩ | 2 => exact ⟨Or.inl, fun h => h.elim id (fun z => by omega)⟩ | 3 => exact ⟨Or.inl, fun h => h.elim id (fun z => by omega)⟩ | 4 => exact ⟨Or.inl, fun h => h.elim id (fun z => by omega)⟩ | 5 => exact ⟨Or.inl, fun h => h.elim id (fun z => by omega)⟩ | 6 => exact ⟨Or.inl, fun h => h.elim id (fun z => by omega)⟩ | 7 => exact ⟨Or.inl, fun h => h.elim id (fun z => by omega)⟩ | 8 => exact ⟨Or.inl, fun h => h.elim id (fun z => by omega)⟩ | 9 => exact ⟨Or.inl, fun h => h.elim id (fun z => by omega)⟩
  | 10 =>
    show (i < 4 ∧ 0 < (sP sg 22 L 0 v).2 22 i 0) ↔ (i < 4 ∧ 0 < sg.2 22 i 0) ∨ (10 = 10 ∧ i = L)
    by_cases h : i = L
    · subst h
      have e : (sP sg 22 i 0 v).2 22 i 0 = v := up3_at
      rw [e]
      exact ⟨fun _ => Or.inr ⟨rfl, rfl⟩, fun _ => ⟨hL, hv⟩⟩
    · have e : (sP sg 22 L 0 v).2 22 i 0 = sg.2 22 i 0 := if_neg (fun z => h z.2.1)
      rw [e]
      exact ⟨Or.inl, fun z => z.elim id (fun y => absurd y.2 h)⟩
  | n + 11 => exact ⟨Or.inl, fun h => h.elim id (fun z => by omega)⟩
/-- a list has a new array -/
theorem WX.grow {q N : Nat} {f : Nat → Option Nat} (L : Nat) (hL : L < 4) (hN : 0 < N) (hf : f = lEl (sF sg L) (al (2 + L))) (h : WX D Y A sg al (X ++ [(q, .inl (Y 3, N, .inr (.inr (.inr (.inr f)))))]) H) (h1 : va_at D vwCl (al 9 L, .inr (0, [.int (sg.1 9 L 0), .ref q, .int (nI (sZ sg L))])) H') (oq : ∀ x, x ≠ al 9 L → H'[x]? = H[x]?) : WX D Y A (sP sg 22 L 0 N) (aU al 10 L q) X H' := by
  subst hf
  have hq : (X ++ [(q, Sum.inl (Y 3, N, Sum.inr (Sum.inr (Sum.inr (Sum.inr (lEl (sF sg L) (al (2 + L))))))))])[X.length]? = some (q, .inl (Y 3, N, .inr (.inr (.inr (.inr (lEl (sF sg L) (al (2 + L)))))))) := by rw [List.getElem?_append_right (Nat.le_refl _), Nat.sub_self]; rfl
  obtain ⟨x1, x2, x3⟩ := h.2.2.2.1 _ _ hq
  have hX : ∀ (j : Nat) (x : Nat × va_E), X[j]? = some x → (X ++ [(q, Sum.inl (Y 3, N, Sum.inr (Sum.inr (Sum.inr (Sum.inr (lEl (sF sg L) (al (2 + L))))))))])[j]? = some x := fun j x hx => by
    rw [List.getElem?_append_left (List.getElem?_eq_some_iff.mp hx).1]; exact hx
  have l9 : live sg 9 L := hL
  have key : ∀ k i, live (sP sg 22 L 0 N) k i → (live sg k i ∧ ¬ (k = 10 ∧ i = L) ∧ aU al 10 L q k i = al k i) ∨ (k = 10 ∧ i = L ∧ aU al 10 L q k i = q) := by
    intro k i hl
    by_cases e : k = 10 ∧ i = L
    · obtain ⟨rfl, rfl⟩ := e
      exact Or.inr ⟨rfl, rfl, aU_at⟩
    · exact Or.inl ⟨((live_22 hL hN k i).mp hl).elim id (fun z => absurd z e), e, aU_ne e⟩
  refine ⟨fun k i hl => ?_, fun k i k' i' hl hl' he => ?_, fun L' hL' hz => ?_, fun j x hx => ?_, fun a b x y ha hb => h.2.2.2.2 a b x y (hX a x ha) (hX b y hb)⟩
  · rcases key k i hl with ⟨a, b, e⟩ | ⟨rfl, rfl, e⟩
    · rw [e]
      by_cases h9 : k = 9 ∧ i = L
      · obtain ⟨rfl, rfl⟩ := h9
        refine ⟨?_, (h.1 9 i a).2⟩
        have e2 : aU al 10 i q 10 i = q := aU_at
        show va_at D vwCl (al 9 i, .inr (0, [.int (sg.1 9 i 0), .ref (aU al 10 i q 10 i), .int (nI (sZ sg i))])) H'
        rw [e2]
        exact h1
      · refine ⟨?_, (h.1 k i a).2⟩
        have e2 : cel Y (sP sg 22 L 0 N) (aU al 10 L q) k i = cel Y sg al k i := (celF_al _ _ L q hL k i h9 (fun z => by subst z; exact a.1) (live_le a)).trans (cel_22 L N k i b (live_le a))
        rw [e2]
        exact (h.1 k i a).1.kept (oq _ (fun z => h9 (h.2.1 _ _ _ _ a l9 z)))
    · rw [e]
      refine ⟨?_, x2⟩
      have e2 : (sP sg 22 i 0 N).2 22 i 0 = N := up3_at
      have e3 : aU al 10 i q (2 + i) = al (2 + i) := by
        funext j
        exact aU_ne (fun z => by omega)
      show va_at D vwCl (q, .inl (Y 3, (sP sg 22 i 0 N).2 22 i 0, .inr (.inr (.inr (.inr (lEl (sg.2 23 i 0) (aU al 10 i q (2 + i)))))))) H'
      rw [e2, e3]
      exact x1.kept (oq _ (fun z => x3 9 i l9 z.symm))
  · rcases key k i hl with ⟨a, b, e⟩ | ⟨rfl, rfl, e⟩ <;> rcases key k' i' hl' with ⟨a', b', e'⟩ | ⟨rfl, rfl, e'⟩
    · exact h.2.1 k i k' i' a a' (by rw [← e, ← e']; exact he)
    · exact absurd (e.symm.trans (he.trans e')) (x3 k i a)
    · exact absurd (e'.symm.trans (he.symm.trans e)) (x3 k' i' a')
    · exact ⟨rfl, rfl⟩
  · by_cases e : L' = L
    · subst e
      have e2 : (sP sg 22 L' 0 N).2 22 L' 0 = N := up3_at
      have hz' : (sP sg 22 L' 0 N).2 22 L' 0 = 0 := hz
      omega
    · have e2 : (sP sg 22 L 0 N).2 22 L' 0 = sg.2 22 L' 0 := if_neg (fun z => e z.2.1)
      have hz' : (sP sg 22 L 0 N).2 22 L' 0 = 0 := hz
      rw [aU_ne (fun z => e z.2)]
      exact h.2.2.1 L' hL' (e2.symm.trans hz')
  · obtain ⟨g1, g2, g3⟩ := h.2.2.2.1 j x (hX j x hx)
    refine ⟨g1.kept (oq _ (fun z => g3 9 L l9 z.symm)), g2, fun k i hl he => ?_⟩
    rcases key k i hl with ⟨a, b, e⟩ | ⟨rfl, rfl, e⟩
    · exact g3 k i a (e.symm.trans he)
    · have hj := h.2.2.2.2 _ _ _ _ hq (hX j x hx) (e.symm.trans he)
      subst hj
      exact absurd (List.getElem?_eq_some_iff.mp hx).1 (Nat.lt_irrefl _)
end KL
section KLR
variable {p : Program} {l : Launch} {e : Env} {R : Room} {s : State} {m : MethodId} {args : Array Value} {below : List Frame} {meth : Method} {c : Code} {Q : State → Prop}
variable {A : Nat → Prop} {n nL pc kk0 : Nat} {lv : List (Nat × Value)} {st rest : List Value} {cc : ByteArray} {own : String} {D : va_G} {Y : Nat → Nat} {sg : Sg} {al : Nat → Nat → Nat} {X : va_W} {V V' : Heap → Prop}
theorem l_putSz (C0 : CallFix p m c cc nL s args TT own) (K0 : PK D Y A s) (L v : Nat) (hL : L < 4) {ref : String} {index : Nat} (d : decode cc pc = .ok (.putfield index, 3)) (hlink : Cond.fieldLink own index ref (TJx4a65c 2).2.1 (TJx4a65c 2).2.2.1 ∈ TT) (hsame : ∀ x, s.fieldFound? (TJx4a65c 2).1 (TJx4a65c 2).2.1 (TJx4a65c 2).2.2.1 = some x → s.fieldFound? ref (TJx4a65c 2).2.1 (TJx4a65c 2).2.2.1 = some x)
    (g : kG p l e R s m args below meth c Q A nL (WX D Y A (sP sg 21 L 0 v) al X) kk0 n (pc + 3) lv st) : kG p l e R s m args below meth c Q A nL (WX D Y A sg al X) kk0 n pc lv (.int (nI v) :: .ref (al 9 L) :: st) :=
  k_put (fs := [.int (sg.1 9 L 0), .ref (al 10 L), .int (nI (sZ sg L))]) (ty := .int) C0 K0 inJx4a65c rfl tyJx4a65c tyJx4a65c_ok nmJx4a65c 2 (by decide) d hlink hsame rfl (by decide +kernel) rfl rfl (Nat.le_of_ble_eq_true rfl) (fun H hV => ⟨(hV.1 9 L hL).1, (hV.1 9 L hL).2⟩) (fun H H' hV _ h1 oq => hV.putSz L v hL h1 oq) g
theorem l_putEd (C0 : CallFix p m c cc nL s args TT own) (K0 : PK D Y A s) (L : Nat) (hL : L < 4) {q N : Nat} {f : Nat → Option Nat} (hN : 0 < N) (hf : f = lEl (sF sg L) (al (2 + L))) {ref : String} {index : Nat} (d : decode cc pc = .ok (.putfield index, 3)) (hlink : Cond.fieldLink own index ref (TJx4a65c 1).2.1 (TJx4a65c 1).2.2.1 ∈ TT) (hsame : ∀ x, s.fieldFound? (TJx4a65c 1).1 (TJx4a65c 1).2.1 (TJx4a65c 1).2.2.1 = some x → s.fieldFound? ref (TJx4a65c 1).2.1 (TJx4a65c 1).2.2.1 = some x)
    (g : kG p l e R s m args below meth c Q A nL (WX D Y A (sP sg 22 L 0 N) (aU al 10 L q) X) kk0 n (pc + 3) lv st) : kG p l e R s m args below meth c Q A nL (WX D Y A sg al (X ++ [(q, .inl (Y 3, N, .inr (.inr (.inr (.inr f)))))])) kk0 n pc lv (.ref q :: .ref (al 9 L) :: st) :=
  k_put (fs := [.int (sg.1 9 L 0), .ref (al 10 L), .int (nI (sZ sg L))]) (ty := .array (.object "java/lang/Object")) C0 K0 inJx4a65c rfl tyJx4a65c tyJx4a65c_ok nmJx4a65c 1 (by decide) d hlink hsame rfl (by decide +kernel) rfl rfl (Nat.le_of_ble_eq_true rfl) (fun H hV => ⟨(hV.1 9 L hL).1, (hV.1 9 L hL).2⟩) (fun H H' hV _ h1 oq => WX.grow L hL hN hf hV h1 oq) g
theorem l_aast (C0 : CallFix p m c cc nL s args TT own) (K0 : PK D Y A s) (L : Nat) (hL : L < 4) (hc : sF sg L < sC sg L) (hb : sC sg L < 2 ^ 31) (hf : sF sg L < sN sg (2 + L)) (d : decode cc pc = .ok (.aastore, 1)) (g : kG p l e R s m args below meth c Q A nL (WX D Y A (sP sg 23 L 0 (sF sg L + 1)) al X) kk0 n (pc + 1) lv st) : kG p l e R s m args below meth c Q A nL (WX D Y A sg al X) kk0 n pc lv (.ref (al (2 + L) (sF sg L)) :: .int (nI (sF sg L)) :: .ref (al 10 L) :: st) := by
  have hl : live sg 10 L := ⟨hL, by omega⟩
  have hle : live sg (2 + L) (sF sg L) := by
    rcases (show L = 0 ∨ L = 1 ∨ L = 2 ∨ L = 3 by omega) with rfl | rfl | rfl | rfl <;> exact hf
  obtain ⟨vs, r, hce, hr, hca⟩ : ∃ (vs : List Value) (r : vw_C), cel Y sg al (2 + L) (sF sg L) = .inr (2 + L, vs) ∧ vwCl[2 + L]? = some r ∧ (r.1, "java/lang/Object") ∈ kCa := by
    rcases (show L = 0 ∨ L = 1 ∨ L = 2 ∨ L = 3 by omega) with rfl | rfl | rfl | rfl
    · exact ⟨_, _, rfl, rfl, by decide⟩
    · exact ⟨_, _, rfl, rfl, by decide⟩
    · exact ⟨_, _, rfl, rfl, by decide⟩
    · exact ⟨_, _, rfl, rfl, by decide⟩
  have e10 : cel Y sg al 10 L = .inl (Y 3, sC sg L, .inr (.inr (.inr (.inr (lEl (sF sg L) (al (2 + L))))))) := rfl
  refine k_aast C0 K0 (t0 := 3) (ci := 2 + L) (r := r) (vs := vs) (N := sC sg L) (f := lEl (sF sg L) (al (2 + L))) (cA := Y 3) (E := "java/lang/Object") rfl (vp_in_nI hc hb) d hr (fun comp cv h1 h2 => ?_) (fun H hV => hce ▸ (hV.1 _ _ hle).1) (fun H hV => ⟨e10 ▸ (hV.1 10 L hl).1, (hV.1 10 L hl).2⟩) (fun H H' hV _ h1 oq => hV.putEl L hl ?_ oq) g
  · obtain ⟨c0, t1, f1, f2, f3⟩ := Cond.castable_spec (va_Nw.use (A := args) rfl (K0.1.2.2.2.2.2.1 _ hca))
    cases h2.1.symm.trans f1
    cases h1.symm.trans f2
    exact f3
  · rw [nI_clamp (by omega)] at h1
    exact h1
/-- the empty array that a new list stands on -/
theorem l_alenT (C0 : CallFix p m c cc nL s args TT own) (K0 : PK D Y A s) (d : decode cc pc = .ok (.arraylength, 1)) (g : kG p l e R s m args below meth c Q A nL V kk0 n (pc + 1) lv (.int 0 :: st)) : kG p l e R s m args below meth c Q A nL V kk0 n pc lv (.ref (Y 4) :: st) := fun H locs ls hV hS hl => by
  obtain ⟨cell, h1, h2, h3, h4, h5, h6, h7⟩ := K0.2.2.2.2.2
  exact W.alen (n := 0) C0.1 C0.2.1 (by rw [hS.2.1 _ (Array.getElem?_eq_some_iff.mp h1).1 h7]; exact h1) h2 h5 rfl rfl d (g H locs ls hV hS hl)
theorem l_gets (C0 : CallFix p m c cc nL s args TT own) (K0 : PK D Y A s) {ref : String} {index : Nat} (d : decode cc pc = .ok (.getstatic index, 3)) (hlink : Cond.fieldLink own index ref "DEFAULTCAPACITY_EMPTY_ELEMENTDATA" "[Ljava/lang/Object;" ∈ TT) (hr : ref = RJx4a65c) (g : kG p l e R s m args below meth c Q A nL V kk0 n (pc + 3) lv (.ref (Y 4) :: st)) : kG p l e R s m args below meth c Q A nL V kk0 n pc lv st := fun H locs ls hV hS hl =>
  va_gets C0.1 C0.2.1 K0.2.2.2.2.1 hS C0.2.2.2.1 (C0.2.2.2.2 _ hlink) (fun x h => by rw [hr]; exact h) d (g H locs ls hV hS hl)
theorem k_ldcM (C0 : CallFix p m c cc nL s args TT own) (K0 : PK D Y A s) {index : Nat} (d : decode cc pc = .ok (.ldc index, 2)) (hlink : Cond.classLink own index "[Ljava/lang/Object;" ∈ TT) (g : kG p l e R s m args below meth c Q A nL V kk0 n (pc + 2) lv (.ref (Y 5) :: st)) : kG p l e R s m args below meth c Q A nL V kk0 n pc lv st := fun H locs ls hV hS hl =>
  va_ldcM C0.1 C0.2.1 C0.2.2.2.1 (C0.2.2.2.2 _ hlink) K0.1.2.2.1 d (g H locs ls hV hS hl)
abbrev yGC : MethodName := ⟨"java/lang/Object", "getClass", "()Ljava/lang/Class;"⟩
theorem l_getC (C0 : CallFix p m c cc nL s args TT own) (K0 : PK D Y A s) (L : Nat) (hl : live sg 10 L) {index : Nat} (d : decode cc pc = .ok (.invokevirtual index, 3)) (hlink : Cond.methodLink own index yGC ∈ TT) (hsel : Cond.selects "[Ljava/lang/Object;" yGC yGC ∈ TT) (hinst : Cond.instanceMethod yGC ∈ TT) (hnat : Cond.native yGC ∈ TT) (hframes : 1 ≤ R.frames) (hlocals : (st.map fun v => v.category).sum + 14 ≤ R.locals)
    (g : kG p l e R s m args below meth c Q A nL (WX D Y A sg al X) kk0 n (pc + 3) lv (.ref (Y 5) :: st)) : kG p l e R s m args below meth c Q A nL (WX D Y A sg al X) kk0 n pc lv (.ref (al 10 L) :: st) := fun H locs ls hV hS hl2 =>
  va_getC C0.1 C0.2.1 (by rw [C0.2.2.1]; exact hl2.1.symm) C0.2.2.2.1 (C0.2.2.2.2 _ hlink) (va_Dc.use K0.1.2.2.2.1) (C0.2.2.2.2 _ hsel) (C0.2.2.2.2 _ hinst) (C0.2.2.2.2 _ hnat) K0.1.2.2.1 (by
    have h1 : H[al 10 L]? = some (vp_cell (Y 3) (sC sg L, .inr (.inr (.inr (.inr (lEl (sF sg L) (al (2 + L)))))))) := (hV.1 10 L hl).1
    refine ⟨_, h1, rfl, ?_⟩
    obtain ⟨-, -, -, -, -, h4⟩ := (K0.1.1.2 3 _ rfl).2
    exact h4) hframes hlocals d (g H locs ls hV hS hl2)
end KLR
end
section
/-! the library's lists -/
section KCQ
variable {p : Program} {l : Launch} {e : Env} {R : Room} {s : State} {m : MethodId} {args : Array Value} {below : List Frame} {meth : Method} {c : Code} {Q : State → Prop}
variable {A : Nat → Prop} {V V' : Heap → Prop} {k n nL pc : Nat} {lv : List (Nat × Value)} {st rest : List Value} {cc : ByteArray} {own : String} {D : va_G} {Y : Nat → Nat} {a a0 : Nat}
theorem i32_nn {z : Int32} (hz : ¬ z < 0) : z.toInt = (z.toNatClampNeg : Int) := by
  have hz0 : (0 : Int) ≤ z.toInt := by
    have := Int32.not_lt.mp hz
    simpa using Int32.le_iff_toInt_le.mp this
  show z.toInt = ((z.toInt.toNat : Nat) : Int)
  omega
/-- System.arraycopy from one array of objects into another -/
theorem k_copyq (C0 : CallFix p m c cc nL s args TT own) (K0 : PK D Y A s) {index n0 n1 : Nat} {f g : Nat → Option Nat} {C : String} {sp dp z : Int32} (d : decode cc pc = .ok (.invokestatic index, 3)) (hlink : Cond.methodLink own index arraycopyName ∈ TT) (hnat : Cond.native arraycopyName ∈ TT) (hstat : Cond.static arraycopyName ∈ TT) (hini : Cond.initialized "java/lang/System" ∈ TT) (h1 : ¬ sp < 0) (h2 : ¬ dp < 0) (h3 : ¬ z < 0) (h4 : sp.toNatClampNeg + z.toNatClampNeg ≤ n0) (h5 : dp.toNatClampNeg + z.toNatClampNeg ≤ n1) (hca : (C, "java/lang/Object") ∈ kCa) (hfr : 1 ≤ R.frames) (hlo : (rest.map fun v => v.category).sum + (nativeFrameWords "java/lang/System" "arraycopy" 5 + 11) ≤ R.locals)
    (hV : ∀ H, V H → va_at D vwCl (a0, .inl (Y 3, n0, .inr (.inr (.inr (.inr f))))) H ∧ va_at D vwCl (a, .inl (Y 3, n1, .inr (.inr (.inr (.inr g))))) H ∧ A a ∧ ∀ i : Nat, i < z.toNatClampNeg → ∀ y : Nat, f (sp.toNatClampNeg + i) = some y → ∃ cellV : Cell, H[y]? = some cellV ∧ cellV.vm.isStatics = false ∧ s.vm.findClass C = some cellV.cls)
    (hV' : ∀ H H', V H → va_at D vwCl (a, .inl (Y 3, n1, .inr (.inr (.inr (.inr (va_cpy f g sp.toNatClampNeg dp.toNatClampNeg z.toNatClampNeg)))))) H' → (∀ q, q ≠ a → H'[q]? = H[q]?) → V' H') (gk : kG p l e R s m args below meth c Q A nL V' k n (pc + 3) lv rest) : kG p l e R s m args below meth c Q A nL V k n pc lv (.int z :: .int dp :: .ref a :: .int sp :: .ref a0 :: rest) := by
  intro H locs ls hV0 hS hl T hT X
  obtain ⟨hc0, hc1, hA, hel⟩ := hV H hV0
  have hty := K0.1.1.2 3 _ rfl
  obtain ⟨-, k0, hk0, cm0, hkk0⟩ := hty.1 n0 (fun j => va_rf (f j))
  obtain ⟨-, k1, hk1, cm1, hkk1⟩ := hty.1 n1 (fun j => va_rf (g j))
  have hc0 : H[a0]? = some (vp_cell (Y 3) (n0, .inr (.inr (.inr (.inr f))))) := hc0
  have hc1 : H[a]? = some (vp_cell (Y 3) (n1, .inr (.inr (.inr (.inr g))))) := hc1
  obtain ⟨vm', X', step⟩ := X.arraycopy C0.1 C0.2.2.2.1 (C0.2.2.2.2 _ hlink) (C0.2.2.2.2 _ hnat) (C0.2.2.2.2 _ hstat) (C0.2.2.2.2 _ hini) (src := a0) (dst := a) (cs := vp_cell (Y 3) (n0, .inr (.inr (.inr (.inr f))))) (cd := vp_cell (Y 3) (n1, .inr (.inr (.inr (.inr g))))) (srcPos := sp) (destPos := dp) (n := z) (hT ▸ hc0) (hT ▸ hc1)
    (fun _ h => by cases h) (fun _ h => by cases h) (fun h => by cases h) (fun h => by cases h) hk0 hk1 hkk0 hkk1 rfl h1 h2 h3
    (by rw [i32_nn h1, i32_nn h3]; show ¬ _ > ((arrV (Y 3) n0 (fun j => va_rf (f j))).slots.size : Int); rw [arrV_size]; omega)
    (by rw [i32_nn h2, i32_nn h3]; show ¬ _ > ((arrV (Y 3) n1 (fun j => va_rf (g j))).slots.size : Int); rw [arrV_size]; omega)
    (fun vm₁ hal i hi => by
      have e : (vp_cell (Y 3) (n0, .inr (.inr (.inr (.inr f))))).slots.getD (sp.toNatClampNeg + i) .null = va_rf (f (sp.toNatClampNeg + i)) := by
        show (arrV (Y 3) n0 (fun j => va_rf (f j))).slots.getD _ _ = _
        rw [Array.getD_eq_getD_getElem?, arrV_read _ _ (by omega)]
        rfl
      rw [e]
      cases hy : f (sp.toNatClampNeg + i) with
      | none => exact ⟨rfl, trivial⟩
      | some y =>
        obtain ⟨cellV, g1, g2, g3⟩ := hel i hi y hy
        obtain ⟨c0, t1, f1, f2, f3⟩ := Cond.castable_spec (va_Nw.use (A := args) rfl (K0.1.2.2.2.2.2.1 _ hca))
        obtain ⟨kA, comp, r1, r2, r3, -⟩ := hty.2
        cases hk1.symm.trans r1
        cases hkk1.symm.trans r2
        cases g3.symm.trans f1
        cases r3.symm.trans f2
        obtain ⟨kC, hkC, -⟩ := Vm.findClass_spec g3
        obtain ⟨kE, hkE, -⟩ := Vm.findClass_spec r3
        obtain ⟨kC', hkC', -⟩ := hal.2.2 _ _ hkC
        obtain ⟨kE', hkE', -⟩ := hal.2.2 _ _ hkE
        exact ⟨rfl, cellV, hT ▸ g1, (fun q h => by rw [h] at g2; cases g2), ⟨kC', hkC'⟩, ⟨kE', hkE'⟩, (hal.assignable _ _).trans f3⟩)
    (g := F0 m pc ls (.int z :: .int dp :: .ref a :: .int sp :: .ref a0 :: rest)) rfl (hl.1.trans C0.2.2.1.symm) (rest := rest) rfl ((congrArg (fun b => decode b pc) C0.2.1).trans d) hfr (by show 2 * 0 + _ + _ ≤ _; omega)
  have e1 : copied (vp_cell (Y 3) (n0, .inr (.inr (.inr (.inr f))))) (vp_cell (Y 3) (n1, .inr (.inr (.inr (.inr g))))) sp dp z = vp_cell (Y 3) (n1, .inr (.inr (.inr (.inr (va_cpy f g sp.toNatClampNeg dp.toNatClampNeg z.toNatClampNeg))))) := va_copied (fun z => va_rf z) (Y 3) (Y 3) f g h4
  rw [e1] at X' step
  have hl2 : a < H.size := (Array.getElem?_eq_some_iff.mp hc1).1
  have hheap : ((T.setVm vm').setCell a (vp_cell (Y 3) (n1, .inr (.inr (.inr (.inr (va_cpy f g sp.toNatClampNeg dp.toNatClampNeg z.toNatClampNeg))))))).heap = H.setIfInBounds a (vp_cell (Y 3) (n1, .inr (.inr (.inr (.inr (va_cpy f g sp.toNatClampNeg dp.toNatClampNeg z.toNatClampNeg)))))) := by rw [← hT]; rfl
  have oq : ∀ q : Nat, q ≠ a → (H.setIfInBounds a (vp_cell (Y 3) (n1, .inr (.inr (.inr (.inr (va_cpy f g sp.toNatClampNeg dp.toNatClampNeg z.toNatClampNeg)))))))[q]? = H[q]? := fun q hq => by simp [Array.getElem?_setIfInBounds, Ne.symm hq]
  obtain ⟨t, a1, b1⟩ := gk _ _ ls (hV' H _ hV0 (show (H.setIfInBounds a _)[a]? = some _ by simp [Array.getElem?_setIfInBounds, hl2]) oq) ⟨by simp; exact hS.1, fun q g1 g2 => by
      rw [oq q (fun e => g2 (by rw [e]; exact hA))]
      exact hS.2.1 q g1 g2, fun q hq => by
      rcases List.mem_append.mp hq with h | h
      · exact hS.2.2 q h
      · obtain ⟨z, -, hz⟩ := List.mem_map.mp h
        rw [← hz]
        exact hA⟩ hl _ hheap X'
  exact ⟨t, step t a1, b1⟩
theorem k_mmax (C0 : CallFix p m c cc nL s args TT own) {index : Nat} {x y : Int32} (d : decode cc pc = .ok (.invokestatic index, 3)) (hlink : Cond.methodLink own index Lib.Math.max.name ∈ TT) (hstat : Cond.static Lib.Math.max.name ∈ TT) (hini : Cond.initialized "java/lang/Math" ∈ TT) (hcode : Cond.code Lib.Math.max.name Lib.Math.max.code 2 (some .int) ∈ TT) (hfr : 1 ≤ R.frames) (hlo : (rest.map fun v => v.category).sum + 13 ≤ R.locals) (hc : k ≤ R.cells) (hs : n ≤ R.slots) (r : Int32) (hr0 : (if x < y then y else x) = r)
    (g : kG p l e R s m args below meth c Q A nL V k n (pc + 3) lv (.int r :: rest)) : kG p l e R s m args below meth c Q A nL V k n pc lv (.int y :: .int x :: rest) := fun H locs ls hV hS hl =>
  va_mmax C0.1 C0.2.1 (by rw [C0.2.2.1]; exact hl.1.symm) C0.2.2.2.1 (C0.2.2.2.2 _ hlink) (C0.2.2.2.2 _ hstat) (C0.2.2.2.2 _ hini) (C0.2.2.2.2 _ hcode) hfr hlo hc hs d (by rw [hr0]; exact g H locs ls hV hS hl)
theorem k_mmin (C0 : CallFix p m c cc nL s args TT own) {index : Nat} {x y : Int32} (d : decode cc pc = .ok (.invokestatic index, 3)) (hlink : Cond.methodLink own index Lib.Math.min.name ∈ TT) (hstat : Cond.static Lib.Math.min.name ∈ TT) (hini : Cond.initialized "java/lang/Math" ∈ TT) (hcode : Cond.code Lib.Math.min.name Lib.Math.min.code 2 (some .int) ∈ TT) (hfr : 1 ≤ R.frames) (hlo : (rest.map fun v => v.category).sum + 13 ≤ R.locals) (hc : k ≤ R.cells) (hs : n ≤ R.slots) (r : Int32) (hr0 : (if y < x then y else x) = r)
    (g : kG p l e R s m args below meth c Q A nL V k n (pc + 3) lv (.int r :: rest)) : kG p l e R s m args below meth c Q A nL V k n pc lv (.int y :: .int x :: rest) := fun H locs ls hV hS hl =>
  va_mmin C0.1 C0.2.1 (by rw [C0.2.2.1]; exact hl.1.symm) C0.2.2.2.1 (C0.2.2.2.2 _ hlink) (C0.2.2.2.2 _ hstat) (C0.2.2.2.2 _ hini) (C0.2.2.2.2 _ hcode) hfr hlo hc hs d (by rw [hr0]; exact g H locs ls hV hS hl)
end KCQ
theorem nI_half (n : Nat) (h : n < 2 ^ 31) : (nI n >>> ((1 : Int32) &&& 31)) = nI (n / 2) := by
  have e1 : ((1 : Int32) &&& 31) = 1 := by decide
  rw [e1]
  apply Int32.toBitVec_inj.mp
  rw [Int32.toBitVec_shiftRight]
  apply BitVec.eq_of_toInt_eq
  show (BitVec.sshiftRight (nI n).toBitVec 1).toInt = _
  rw [BitVec.toInt_sshiftRight]
  show (nI n).toInt >>> 1 = (nI (n / 2)).toInt
  have a : (nI n).toInt = (n : Int) := by first | exact nI_toInt h | exact nI_toInt (by omega)
  have b : (nI (n / 2)).toInt = ((n / 2 : Nat) : Int) := by first | exact nI_toInt (by omega) | exact nI_toInt (by omega)
  rw [a, b, Int.shiftRight_eq_div_pow]
  simp
theorem nI_s1 (n : Nat) : nI n + 1 = nI (n + 1) := by
  apply Int32.toBitVec_inj.mp
  show BitVec.ofNat 32 n + 1#32 = BitVec.ofNat 32 (n + 1)
  rw [BitVec.ofNat_add]
theorem nI_ad (a b : Nat) : nI a + nI b = nI (a + b) := by
  apply Int32.toBitVec_inj.mp
  show BitVec.ofNat 32 a + BitVec.ofNat 32 b = BitVec.ofNat 32 (a + b)
  rw [BitVec.ofNat_add]
section KLC
variable {p : Program} {l : Launch} {e : Env} {R : Room} {s : State} {m : MethodId} {args : Array Value} {below : List Frame} {meth : Method} {c : Code} {Q : State → Prop}
variable {A : Nat → Prop} {n nL pc kk0 : Nat} {lv : List (Nat × Value)} {st rest : List Value} {cc : ByteArray} {own : String} {D : va_G} {Y : Nat → Nat} {sg : Sg} {al : Nat → Nat → Nat} {X : va_W}
/-- the cells of a list's elements -/
theorem WX.elc (K0 : PK D Y A s) (L : Nat) (hL : L < 4) {H : Heap} (h : WX D Y A sg al X H) (i : Nat) (hi : i < sN sg (2 + L)) : ∃ r : vw_C, vwCl[2 + L]? = some r ∧ (r.1, "java/lang/Object") ∈ kCa ∧ ∃ cellV : Cell, H[al (2 + L) i]? = some cellV ∧ cellV.vm.isStatics = false ∧ s.vm.findClass r.1 = some cellV.cls := by
  have hle : live sg (2 + L) i := by
    rcases (show L = 0 ∨ L = 1 ∨ L = 2 ∨ L = 3 by omega) with rfl | rfl | rfl | rfl <;> exact hi
  have hc := (h.1 _ _ hle).1
  rcases (show L = 0 ∨ L = 1 ∨ L = 2 ∨ L = 3 by omega) with rfl | rfl | rfl | rfl
  · exact ⟨_, rfl, by decide, k_recv K0 rfl hc⟩
  · exact ⟨_, rfl, by decide, k_recv K0 rfl hc⟩
  · exact ⟨_, rfl, by decide, k_recv K0 rfl hc⟩
  · exact ⟨_, rfl, by decide, k_recv K0 rfl hc⟩
theorem l_cls (L : Nat) (hL : L < 4) : ∃ C : String, (C, "java/lang/Object") ∈ kCa ∧ ∀ (D : va_G) (Y : Nat → Nat) (A : Nat → Prop) (s : State) (_ : PK D Y A s) (sg : Sg) (al : Nat → Nat → Nat) (X : va_W) (H : Heap), WX D Y A sg al X H → ∀ i, i < sN sg (2 + L) → ∃ cellV : Cell, H[al (2 + L) i]? = some cellV ∧ cellV.vm.isStatics = false ∧ s.vm.findClass C = some cellV.cls := by
  rcases (show L = 0 ∨ L = 1 ∨ L = 2 ∨ L = 3 by omega) with rfl | rfl | rfl | rfl
  · exact ⟨RX1, by decide, fun D Y A s K0 sg al X H h i hi => k_recv K0 (ci := 2) rfl (h.1 2 i hi).1⟩
  · exact ⟨RX2, by decide, fun D Y A s K0 sg al X H h i hi => k_recv K0 (ci := 3) rfl (h.1 3 i hi).1⟩
  · exact ⟨RX3, by decide, fun D Y A s K0 sg al X H h i hi => k_recv K0 (ci := 4) rfl (h.1 4 i hi).1⟩
  · exact ⟨RX4, by decide, fun D Y A s K0 sg al X H h i hi => k_recv K0 (ci := 5) rfl (h.1 5 i hi).1⟩
theorem cpy_el (ad : Nat → Nat) {F N : Nat} (h : F ≤ N) : va_cpy (lEl F ad) (fun _ => none) 0 0 N = lEl F ad := by
  funext j
  unfold va_cpy lEl
  by_cases h1 : j < N
  · rw [if_pos ⟨Nat.zero_le _, by omega⟩]
    simp
  · rw [if_neg (fun z => h1 (by omega)), if_neg (by omega)]
/-- a list's places are copied into a new array -/
theorem l_copy (C0 : CallFix p m c cc nL s args TT own) (K0 : PK D Y A s) (L : Nat) (hL : L < 4) {q N index : Nat} (h1 : 0 < sC sg L) (h2 : sF sg L ≤ sC sg L) (h3 : sC sg L ≤ N) (h4 : sC sg L < 2 ^ 31) (h5 : sF sg L ≤ sN sg (2 + L)) (d : decode cc pc = .ok (.invokestatic index, 3)) (hlink : Cond.methodLink own index arraycopyName ∈ TT) (hnat : Cond.native arraycopyName ∈ TT) (hstat : Cond.static arraycopyName ∈ TT) (hini : Cond.initialized "java/lang/System" ∈ TT) (hfr : 1 ≤ R.frames) (hlo : (rest.map fun v => v.category).sum + (nativeFrameWords "java/lang/System" "arraycopy" 5 + 11) ≤ R.locals)
    (g : kG p l e R s m args below meth c Q A nL (WX D Y A sg al (X ++ [(q, .inl (Y 3, N, .inr (.inr (.inr (.inr (lEl (sF sg L) (al (2 + L))))))))])) kk0 n (pc + 3) lv rest) : kG p l e R s m args below meth c Q A nL (WX D Y A sg al (X ++ [(q, .inl (Y 3, N, .inr (.inr (.inr (.inr (fun _ => none))))))])) kk0 n pc lv (.int (nI (sC sg L)) :: .int 0 :: .ref q :: .int 0 :: .ref (al 10 L) :: rest) := by
  obtain ⟨C, hca, hcl⟩ := l_cls L hL
  have hx : (X ++ [(q, Sum.inl (Y 3, N, Sum.inr (Sum.inr (Sum.inr (Sum.inr (fun _ => none))))))] : va_W)[X.length]? = some (q, .inl (Y 3, N, .inr (.inr (.inr (.inr (fun _ => none)))))) := by rw [List.getElem?_append_right (Nat.le_refl _), Nat.sub_self]; rfl
  refine k_copyq (f := lEl (sF sg L) (al (2 + L))) (g := fun _ => none) (n0 := sC sg L) (n1 := N) (C := C) C0 K0 d hlink hnat hstat hini (by decide) (by decide) (nI_pos h4) (by rw [nI_clamp h4]; show 0 + _ ≤ _; omega) (by rw [nI_clamp h4]; show 0 + _ ≤ _; omega) hca hfr hlo (fun H hV => ⟨(hV.1 10 L ⟨hL, h1⟩).1, (hV.2.2.2.1 _ _ hx).1, (hV.2.2.2.1 _ _ hx).2.1, fun i hi y hy => ?_⟩) (fun H H' hV h oq => ?_) g
  · have hy : lEl (sF sg L) (al (2 + L)) (0 + i) = some y := hy
    rw [Nat.zero_add] at hy
    by_cases hf : i < sF sg L
    · have e1 : lEl (sF sg L) (al (2 + L)) i = some (al (2 + L) i) := if_pos hf
      cases e1.symm.trans hy
      exact hcl D Y A s K0 sg al _ H hV i (by omega)
    · have e1 : lEl (sF sg L) (al (2 + L)) i = none := if_neg hf
      cases e1.symm.trans hy
  · have h6 : va_at D vwCl (q, .inl (Y 3, N, .inr (.inr (.inr (.inr (va_cpy (lEl (sF sg L) (al (2 + L))) (fun _ => none) 0 0 (nI (sC sg L)).toNatClampNeg)))))) H' := h
    rw [nI_clamp h4, cpy_el _ h2] at h6
    have h7 := hV.putX X.length hx h6 oq
    rwa [List.set_append_right _ _ (Nat.le_refl _), Nat.sub_self] at h7
theorem lEl_0 (ad : Nat → Nat) : (fun _ => none) = lEl 0 ad := by
  funext j
  exact (if_neg (Nat.not_lt_zero j)).symm
theorem l_alenE (C0 : CallFix p m c cc nL s args TT own) (K0 : PK D Y A s) {V : Heap → Prop} {a : Nat} (ha : a = Y 4) (d : decode cc pc = .ok (.arraylength, 1)) (g : kG p l e R s m args below meth c Q A nL V kk0 n (pc + 1) lv (.int 0 :: st)) : kG p l e R s m args below meth c Q A nL V kk0 n pc lv (.ref a :: st) := ha ▸ l_alenT C0 K0 d g
theorem l_aastE (C0 : CallFix p m c cc nL s args TT own) (K0 : PK D Y A s) (L : Nat) (hL : L < 4) {a v : Nat} {i : Int32} (ha : a = al 10 L) (hv : v = al (2 + L) (sF sg L)) (hi : i = nI (sF sg L)) (hc : sF sg L < sC sg L) (hb : sC sg L < 2 ^ 31) (hf : sF sg L < sN sg (2 + L)) (d : decode cc pc = .ok (.aastore, 1)) (g : kG p l e R s m args below meth c Q A nL (WX D Y A (sP sg 23 L 0 (sF sg L + 1)) al X) kk0 n (pc + 1) lv st) : kG p l e R s m args below meth c Q A nL (WX D Y A sg al X) kk0 n pc lv (.ref v :: .int i :: .ref a :: st) := by
  subst ha hv hi
  exact l_aast C0 K0 L hL hc hb hf d g
end KLC
theorem newLen_ok (c : Nat) (h10 : 10 ≤ c) (hb : c ≤ 60000) : (1 : Int32) < nI (c / 2) ∧ (0 : Int32) < nI c + nI (c / 2) ∧ nI c + nI (c / 2) ≤ (2147483639 : Int32) := by
  refine ⟨(nI_ltI (a := 1) (by omega) (by omega)).mpr (by omega), ?_, ?_⟩
  · rw [nI_add]; exact (nI_ltI (a := 0) (by omega) (by omega)).mpr (by omega)
  · rw [nI_add]; exact (nI_leI (b := 2147483639) (by omega) (by omega)).mpr (by omega)
theorem i32_as (x y : Int32) : x + y - x = y := by
  rw [Int32.add_comm, Int32.add_sub_cancel]
def capN (sg : Sg) (L : Nat) : Nat := if sF sg L < sC sg L then sC sg L else if sC sg L = 0 then 10 else sC sg L + sC sg L / 2
def c_add (sg : Sg) (L : Nat) : Sg := sP (sP (sP (sI sg 9 L 0 (sg.1 9 L 0 + 1)) 22 L 0 (capN sg L)) 23 L 0 (sF sg L + 1)) 21 L 0 (sF sg L + 1)
theorem sP_same (sg : Sg) (k i j : Nat) : sP sg k i j (sg.2 k i j) = sg := by
  have : up3 sg.2 k i j (sg.2 k i j) = sg.2 := by
    funext a b c
    by_cases h : a = k ∧ b = i ∧ c = j
    · obtain ⟨rfl, rfl, rfl⟩ := h; exact up3_at
    · exact if_neg h
  show (sg.1, up3 sg.2 k i j (sg.2 k i j)) = sg
  rw [this]
theorem aU_same (al : Nat → Nat → Nat) (k i : Nat) : aU al k i (al k i) = al := by
  funext a b
  by_cases h : a = k ∧ b = i
  · obtain ⟨rfl, rfl⟩ := h; exact aU_at
  · exact aU_ne h
theorem c_add_r {sg : Sg} {L : Nat} (h : sF sg L < sC sg L) : sP (sP (sI sg 9 L 0 (sg.1 9 L 0 + 1)) 23 L 0 (sF sg L + 1)) 21 L 0 (sF sg L + 1) = c_add sg L ∧ capN sg L = sC sg L := by
  have e : capN sg L = sC sg L := if_pos h
  refine ⟨?_, e⟩
  unfold c_add
  rw [e]
  exact congrArg (fun z => sP (sP z 23 L 0 (sF sg L + 1)) 21 L 0 (sF sg L + 1)) (sP_same (sI sg 9 L 0 (sg.1 9 L 0 + 1)) 22 L 0).symm
theorem c_add_f {sg : Sg} {L : Nat} (h : sF sg L = sC sg L) (h0 : 10 ≤ sC sg L) : capN sg L = sC sg L + sC sg L / 2 := (if_neg (by omega)).trans (if_neg (by omega))
theorem c_add_0 {sg : Sg} {L : Nat} (h0 : sC sg L = 0) : capN sg L = 10 := (if_neg (by omega)).trans (if_pos h0)
theorem gkJ15_105 : GoodIn TT (va_wsS RJ15 105 yJ3_checkIndex_8e157 (Cond.code yJ3_checkIndex_8e157 cJ3_checkIndex_8e157 3 (some .int) :: TT)) := goodTS (tB 118 rfl rfl) (tB 119 rfl rfl) (tA 19 rfl rfl) (goodTT (tB 120 rfl rfl))
theorem hyJ3_checkIndex_8e157 : yJ3_checkIndex_8e157.cls ≠ "java/lang/invoke/MethodHandle" ∧ yJ3_checkIndex_8e157.cls ≠ "java/lang/invoke/VarHandle" ∧ (parseMethodDescriptor yJ3_checkIndex_8e157.desc).map (fun d => d.parameters.length) = some 3 := by decide +kernel
theorem gkJx4a65c_118 : GoodIn TT (va_wsS RJx4a65c 118 yJ15_checkIndex_7cf53 (Cond.code yJ15_checkIndex_7cf53 cJ15_checkIndex_7cf53 2 (some .int) :: TT)) := goodTS (tB 115 rfl rfl) (tB 116 rfl rfl) (tA 18 rfl rfl) (goodTT (tB 117 rfl rfl))
theorem hyJ15_checkIndex_7cf53 : yJ15_checkIndex_7cf53.cls ≠ "java/lang/invoke/MethodHandle" ∧ yJ15_checkIndex_7cf53.cls ≠ "java/lang/invoke/VarHandle" ∧ (parseMethodDescriptor yJ15_checkIndex_7cf53.desc).map (fun d => d.parameters.length) = some 2 := by decide +kernel
theorem gkJx4a65c_123 : GoodIn TT (wsV RJx4a65c 123 yJx4a65c_elementData_915e3.cls yJx4a65c_elementData_915e3 (Cond.code yJx4a65c_elementData_915e3 cJx4a65c_elementData_915e3 2 (some (.object "java/lang/Object")) :: TT)) := goodTV (tB 121 rfl rfl) (tB 122 rfl rfl) (tB 123 rfl rfl) (tA 4 rfl rfl) (tB 124 rfl rfl)
theorem hyJx4a65c_elementData_915e3 : yJx4a65c_elementData_915e3.cls ≠ "java/lang/invoke/MethodHandle" ∧ yJx4a65c_elementData_915e3.cls ≠ "java/lang/invoke/VarHandle" ∧ (parseMethodDescriptor yJx4a65c_elementData_915e3.desc).map (fun d => d.parameters.length) = some 1 := by decide +kernel
theorem gkJ7_300 : GoodIn TT (va_wsS RJ7 300 yJ7_copyOf_6403c (Cond.code yJ7_copyOf_6403c cJ7_copyOf_6403c 4 (some (.array (.object "java/lang/Object"))) :: TT)) := goodTS (tB 69 rfl rfl) (tB 70 rfl rfl) (tA 15 rfl rfl) (goodTT (tB 71 rfl rfl))
theorem hyJ7_copyOf_6403c : yJ7_copyOf_6403c.cls ≠ "java/lang/invoke/MethodHandle" ∧ yJ7_copyOf_6403c.cls ≠ "java/lang/invoke/VarHandle" ∧ (parseMethodDescriptor yJ7_copyOf_6403c.desc).map (fun d => d.parameters.length) = some 3 := by decide +kernel
theorem gkJx4a65c_73 : GoodIn TT (va_wsS RJx4a65c 73 yJ8_newLength_cabcc (Cond.code yJ8_newLength_cabcc cJ8_newLength_cabcc 4 (some .int) :: TT)) := goodTS (tB 41 rfl rfl) (tB 42 rfl rfl) (tA 13 rfl rfl) (goodTT (tB 43 rfl rfl))
theorem hyJ8_newLength_cabcc : yJ8_newLength_cabcc.cls ≠ "java/lang/invoke/MethodHandle" ∧ yJ8_newLength_cabcc.cls ≠ "java/lang/invoke/VarHandle" ∧ (parseMethodDescriptor yJ8_newLength_cabcc.desc).map (fun d => d.parameters.length) = some 3 := by decide +kernel
theorem gkJx4a65c_66 : GoodIn TT (va_wsS RJx4a65c 66 yJ7_copyOf_1904c (Cond.code yJ7_copyOf_1904c cJ7_copyOf_1904c 2 (some (.array (.object "java/lang/Object"))) :: TT)) := goodTS (tB 51 rfl rfl) (tB 52 rfl rfl) (tA 15 rfl rfl) (goodTT (tB 53 rfl rfl))
theorem hyJ7_copyOf_1904c : yJ7_copyOf_1904c.cls ≠ "java/lang/invoke/MethodHandle" ∧ yJ7_copyOf_1904c.cls ≠ "java/lang/invoke/VarHandle" ∧ (parseMethodDescriptor yJ7_copyOf_1904c.desc).map (fun d => d.parameters.length) = some 2 := by decide +kernel
theorem gkJx4a65c_69 : GoodIn TT (wsV RJx4a65c 69 yJx4a65c_grow_92f84.cls yJx4a65c_grow_92f84 (Cond.code yJx4a65c_grow_92f84 cJx4a65c_grow_92f84 4 (some (.array (.object "java/lang/Object"))) :: TT)) := goodTV (tB 37 rfl rfl) (tB 39 rfl rfl) (tP 4 rfl) (tA 4 rfl rfl) (tB 40 rfl rfl)
theorem hyJx4a65c_grow_92f84 : yJx4a65c_grow_92f84.cls ≠ "java/lang/invoke/MethodHandle" ∧ yJx4a65c_grow_92f84.cls ≠ "java/lang/invoke/VarHandle" ∧ (parseMethodDescriptor yJx4a65c_grow_92f84.desc).map (fun d => d.parameters.length) = some 1 := by decide +kernel
theorem gkJx4a65c_129 : GoodIn TT (wsV RJx4a65c 129 yJx4a65c_grow_d5877.cls yJx4a65c_grow_d5877 (Cond.code yJx4a65c_grow_d5877 cJx4a65c_grow_d5877 1 (some (.array (.object "java/lang/Object"))) :: TT)) := goodTV (tB 33 rfl rfl) (tB 35 rfl rfl) (tP 3 rfl) (tA 4 rfl rfl) (tB 36 rfl rfl)
theorem hyJx4a65c_grow_d5877 : yJx4a65c_grow_d5877.cls ≠ "java/lang/invoke/MethodHandle" ∧ yJx4a65c_grow_d5877.cls ≠ "java/lang/invoke/VarHandle" ∧ (parseMethodDescriptor yJx4a65c_grow_d5877.desc).map (fun d => d.parameters.length) = some 0 := by decide +kernel
theorem gkJx4a65c_131 : GoodIn TT (wsV RJx4a65c 131 yJx4a65c_add_72be8.cls yJx4a65c_add_72be8 (Cond.code yJx4a65c_add_72be8 cJx4a65c_add_72be8 4 none :: TT)) := goodTV (tB 29 rfl rfl) (tB 31 rfl rfl) (tP 2 rfl) (tA 4 rfl rfl) (tB 32 rfl rfl)
theorem hyJx4a65c_add_72be8 : yJx4a65c_add_72be8.cls ≠ "java/lang/invoke/MethodHandle" ∧ yJx4a65c_add_72be8.cls ≠ "java/lang/invoke/VarHandle" ∧ (parseMethodDescriptor yJx4a65c_add_72be8.desc).map (fun d => d.parameters.length) = some 3 := by decide +kernel
set_option maxRecDepth 100000 in
set_option maxHeartbeats 4000000 in
theorem cl_size (l : Launch) (D : va_G) (Y : Nat → Nat) (A : Nat → Prop) (sg : Sg) (al : Nat → Nat → Nat) (X : va_W) (L : Nat) (hL : L < 4)  : CT l yJx4a65c_size_8abf5 (Cond.code yJx4a65c_size_8abf5 cJx4a65c_size_8abf5 1 (some .int)) 0 0 D Y A [.ref (al 9 L)] (WX D Y A sg al X) (fun _ : Unit => some (.int (nI (sg.2 21 L 0)))) (fun _ : Unit => WX D Y A sg al X) noX 0 0 := by
  refine CT.of (by decide) (Nat.le_of_ble_eq_true rfl) ?_
  intro p_ e_ s_ m_ below_ meth_ c_ C0 K0 hr hlk htab hnm_
  refine k_aload_n C0 dJx4a65c_size_8abf5_0 0 rfl ?_
  refine c_get C0 K0 9 L hL rfl inJx4a65c rfl 2 (.int (nI (sg.2 21 L 0))) (by decide) dJx4a65c_size_8abf5_1 (tA 48 rfl rfl) (fun _ h => h) rfl ?_
  exact k_iret C0 dJx4a65c_size_8abf5_4 hr hlk (Nat.le_of_ble_eq_true rfl) (Nat.le_of_ble_eq_true rfl) () rfl (fun H h => h)
set_option maxRecDepth 100000 in
set_option maxHeartbeats 4000000 in
theorem cj_check3 (l : Launch) (D : va_G) (Y : Nat → Nat) (A : Nat → Prop) (V : Heap → Prop) (x y : Int32) (h0 : ¬ x < 0) (h : x < y) : CT l yJ3_checkIndex_8e157 (Cond.code yJ3_checkIndex_8e157 cJ3_checkIndex_8e157 3 (some .int)) 0 0 D Y A [.int x, .int y, .null] V (fun _ : Unit => some (.int x)) (fun _ : Unit => V) noX 0 0 := by
  refine CT.of (by decide) (Nat.le_of_ble_eq_true rfl) ?_
  intro p_ e_ s_ m_ below_ meth_ c_ C0 K0 hr hlk htab hnm_
  refine k_iload_n C0 dJ3_checkIndex_8e157_0 0 rfl ?_
  refine k_if_lt C0 9 dJ3_checkIndex_8e157_1 (by decide) (fun zz => absurd zz h0) (fun _ => ?_)
  refine k_iload_n C0 dJ3_checkIndex_8e157_4 0 rfl ?_
  refine k_iload_n C0 dJ3_checkIndex_8e157_5 1 rfl ?_
  refine k_icmp_lt C0 16 dJ3_checkIndex_8e157_6 (by decide) (fun _ => ?_) (fun zz => absurd h zz)
  refine k_iload_n C0 dJ3_checkIndex_8e157_16 0 rfl ?_
  exact k_iret C0 dJ3_checkIndex_8e157_17 hr hlk (Nat.le_of_ble_eq_true rfl) (Nat.le_of_ble_eq_true rfl) () rfl (fun H h => h)
set_option maxRecDepth 100000 in
set_option maxHeartbeats 4000000 in
theorem cj_check (l : Launch) (D : va_G) (Y : Nat → Nat) (A : Nat → Prop) (V : Heap → Prop) (x y : Int32) (h0 : ¬ x < 0) (h : x < y) : CT l yJ15_checkIndex_7cf53 (Cond.code yJ15_checkIndex_7cf53 cJ15_checkIndex_7cf53 2 (some .int)) 1 22 D Y A [.int x, .int y] V (fun _ : Unit => some (.int x)) (fun _ : Unit => V) noX 0 0 := by
  refine CT.of (by decide) (Nat.le_of_ble_eq_true rfl) ?_
  intro p_ e_ s_ m_ below_ meth_ c_ C0 K0 hr hlk htab hnm_
  refine k_iload_n C0 dJ15_checkIndex_7cf53_0 0 rfl ?_
  refine k_iload_n C0 dJ15_checkIndex_7cf53_1 1 rfl ?_
  refine k_null C0 dJ15_checkIndex_7cf53_2 ?_
  refine k_callS C0 K0 dJ15_checkIndex_7cf53_3 (cj_check3 l D Y A V x y h0 h) gkJ15_105 hyJ3_checkIndex_8e157 rfl (by exact Nat.le_of_ble_eq_true rfl) ⟨Nat.le_of_ble_eq_true rfl, Nat.le_of_ble_eq_true rfl⟩ ⟨Nat.le_of_ble_eq_true rfl, Nat.le_of_ble_eq_true rfl⟩ (fun E => kX_no E) (fun _ => ?_)
  exact k_iret C0 dJ15_checkIndex_7cf53_6 hr hlk (Nat.le_of_ble_eq_true rfl) (Nat.le_of_ble_eq_true rfl) () rfl (fun H h => h)
set_option maxRecDepth 100000 in
set_option maxHeartbeats 4000000 in
theorem cj_newLen (l : Launch) (D : va_G) (Y : Nat → Nat) (A : Nat → Prop) (V : Heap → Prop) (x y z : Int32) (h : y < z) (h1 : 0 < x + z) (h2 : x + z ≤ 2147483639) : CT l yJ8_newLength_cabcc (Cond.code yJ8_newLength_cabcc cJ8_newLength_cabcc 4 (some .int)) 1 14 D Y A [.int x, .int y, .int z] V (fun _ : Unit => some (.int (x + z))) (fun _ : Unit => V) noX 0 0 := by
  refine CT.of (by decide) (Nat.le_of_ble_eq_true rfl) ?_
  intro p_ e_ s_ m_ below_ meth_ c_ C0 K0 hr hlk htab hnm_
  refine k_iload_n C0 dJ8_newLength_cabcc_0 0 rfl ?_
  refine k_iload_n C0 dJ8_newLength_cabcc_1 1 rfl ?_
  refine k_iload_n C0 dJ8_newLength_cabcc_2 2 rfl ?_
  refine k_mmax C0 dJ8_newLength_cabcc_3 (tB 44 rfl rfl) (tB 45 rfl rfl) (tA 14 rfl rfl) (tB 46 rfl rfl) (Nat.le_of_ble_eq_true rfl) (Nat.le_of_ble_eq_true rfl) (Nat.le_of_ble_eq_true rfl) (Nat.le_of_ble_eq_true rfl) z (if_pos h) ?_
  refine k_iadd C0 dJ8_newLength_cabcc_6 ?_
  refine k_istore_n C0 [(3, _), (0, _), (1, _), (2, _)] dJ8_newLength_cabcc_7 (by decide) rfl ?_
  refine k_iconst C0 0 dJ8_newLength_cabcc_8 (by decide) ?_
  refine k_iload_n C0 dJ8_newLength_cabcc_9 0 rfl ?_
  refine k_icmp_ge C0 21 dJ8_newLength_cabcc_10 (by decide) (fun zz => absurd zz (Int32.not_le.mpr h1)) (fun _ => ?_)
  refine k_iload_n C0 dJ8_newLength_cabcc_13 0 rfl ?_
  refine k_ldc C0 (v := 2147483639) dJ8_newLength_cabcc_14 (tB 47 rfl rfl) ?_
  refine k_icmp_gt C0 21 dJ8_newLength_cabcc_16 (by decide) (fun zz => absurd zz (Int32.not_lt.mpr h2)) (fun _ => ?_)
  refine k_iload_n C0 dJ8_newLength_cabcc_19 0 rfl ?_
  exact k_iret C0 dJ8_newLength_cabcc_20 hr hlk (Nat.le_of_ble_eq_true rfl) (Nat.le_of_ble_eq_true rfl) () rfl (fun H h => h)
set_option maxRecDepth 100000 in
set_option maxHeartbeats 4000000 in
theorem cl_el (l : Launch) (D : va_G) (Y : Nat → Nat) (A : Nat → Prop) (sg : Sg) (al : Nat → Nat → Nat) (X : va_W) (L : Nat) (hL : L < 4) (i : Nat) (hi : i < sF sg L) (hc : sF sg L ≤ sC sg L) (hb : sC sg L < 2 ^ 31) : CT l yJx4a65c_elementData_915e3 (Cond.code yJx4a65c_elementData_915e3 cJx4a65c_elementData_915e3 2 (some (.object "java/lang/Object"))) 0 0 D Y A [.ref (al 9 L), .int (nI i)] (WX D Y A sg al X) (fun _ : Unit => some (.ref (al (2 + L) i))) (fun _ : Unit => WX D Y A sg al X) noX 0 0 := by
  refine CT.of (by decide) (Nat.le_of_ble_eq_true rfl) ?_
  intro p_ e_ s_ m_ below_ meth_ c_ C0 K0 hr hlk htab hnm_
  refine k_aload_n C0 dJx4a65c_elementData_915e3_0 0 rfl ?_
  refine c_get C0 K0 9 L hL rfl inJx4a65c rfl 1 (.ref (al 10 L)) (by decide) dJx4a65c_elementData_915e3_1 (tA 47 rfl rfl) (fun _ h => h) rfl ?_
  refine k_iload_n C0 dJx4a65c_elementData_915e3_4 1 rfl ?_
  refine c_aald C0 K0 10 L ⟨hL, (show 0 < sC sg L by omega)⟩ (v := al (2 + L) i) rfl 3 rfl (vp_in_nI (show i < sC sg L by omega) (by omega)) dJx4a65c_elementData_915e3_5 (by rw [nI_clamp (by omega)]; exact if_pos hi) ?_
  exact k_aret C0 dJx4a65c_elementData_915e3_6 hr (Or.inl ⟨_, rfl⟩) hlk (Nat.le_of_ble_eq_true rfl) (Nat.le_of_ble_eq_true rfl) () rfl (fun H h => h)
set_option maxRecDepth 100000 in
set_option maxHeartbeats 4000000 in
theorem cl_get (l : Launch) (D : va_G) (Y : Nat → Nat) (A : Nat → Prop) (sg : Sg) (al : Nat → Nat → Nat) (X : va_W) (L : Nat) (hL : L < 4) (i : Nat) (hz : i < sZ sg L) (hi : i < sF sg L) (hc : sF sg L ≤ sC sg L) (hb : sC sg L < 2 ^ 31) (hzb : sZ sg L < 2 ^ 31) : CT l yJx4a65c_get_915e3 (Cond.code yJx4a65c_get_915e3 cJx4a65c_get_915e3 2 (some (.object "java/lang/Object"))) 2 43 D Y A [.ref (al 9 L), .int (nI i)] (WX D Y A sg al X) (fun _ : Unit => some (.ref (al (2 + L) i))) (fun _ : Unit => WX D Y A sg al X) noX 0 0 := by
  refine CT.of (by decide) (Nat.le_of_ble_eq_true rfl) ?_
  intro p_ e_ s_ m_ below_ meth_ c_ C0 K0 hr hlk htab hnm_
  refine k_iload_n C0 dJx4a65c_get_915e3_0 1 rfl ?_
  refine k_aload_n C0 dJx4a65c_get_915e3_1 0 rfl ?_
  refine c_get C0 K0 9 L hL rfl inJx4a65c rfl 2 (.int (nI (sg.2 21 L 0))) (by decide) dJx4a65c_get_915e3_2 (tA 48 rfl rfl) (fun _ h => h) rfl ?_
  refine k_callS C0 K0 dJx4a65c_get_915e3_5 (cj_check l D Y A (WX D Y A sg al X) (nI i) (nI (sZ sg L)) (nI_pos (by omega)) ((nI_ltI (by omega) (by omega)).mpr hz)) gkJx4a65c_118 hyJ15_checkIndex_7cf53 rfl (by exact Nat.le_of_ble_eq_true rfl) ⟨Nat.le_of_ble_eq_true rfl, Nat.le_of_ble_eq_true rfl⟩ ⟨Nat.le_of_ble_eq_true rfl, Nat.le_of_ble_eq_true rfl⟩ (fun E => kX_no E) (fun _ => ?_)
  refine k_pop C0 dJx4a65c_get_915e3_8 rfl ?_
  refine k_aload_n C0 dJx4a65c_get_915e3_9 0 rfl ?_
  refine k_iload_n C0 dJx4a65c_get_915e3_10 1 rfl ?_
  refine k_callV C0 K0 dJx4a65c_get_915e3_11 (cl_el l D Y A sg al X L hL i hi hc hb) gkJx4a65c_123 hyJx4a65c_elementData_915e3 (c_recv (sg := sg) K0 9 L hL rfl rfl) rfl (by exact Nat.le_of_ble_eq_true rfl) ⟨Nat.le_of_ble_eq_true rfl, Nat.le_of_ble_eq_true rfl⟩ ⟨Nat.le_of_ble_eq_true rfl, Nat.le_of_ble_eq_true rfl⟩ (fun E => kX_no E) (fun _ => ?_)
  exact k_aret C0 dJx4a65c_get_915e3_14 hr (Or.inl ⟨_, rfl⟩) hlk (Nat.le_of_ble_eq_true rfl) (Nat.le_of_ble_eq_true rfl) () rfl (fun H h => h)
set_option maxRecDepth 100000 in
set_option maxHeartbeats 4000000 in
theorem cj_copy3 (l : Launch) (D : va_G) (Y : Nat → Nat) (A : Nat → Prop) (sg : Sg) (al : Nat → Nat → Nat) (X : va_W) (L : Nat) (hL : L < 4) (N : Nat) (h1 : 0 < sC sg L) (h2 : sF sg L ≤ sC sg L) (h3 : sC sg L ≤ N) (hN : N ≤ 100000) (h5 : sF sg L ≤ sN sg (2 + L)) : CT l yJ7_copyOf_6403c (Cond.code yJ7_copyOf_6403c cJ7_copyOf_6403c 4 (some (.array (.object "java/lang/Object")))) 3 80 D Y A [.ref (al 10 L), .int (nI N), .ref (Y 5)] (WX D Y A sg al X) (fun q : Nat => some (.ref q)) (fun q : Nat => WX D Y A sg al (X ++ [(q, .inl (Y 3, N, .inr (.inr (.inr (.inr (lEl (sF sg L) (al (2 + L))))))))])) noX 1 N := by
  refine CT.of (by decide) (Nat.le_of_ble_eq_true rfl) ?_
  intro p_ e_ s_ m_ below_ meth_ c_ C0 K0 hr hlk htab hnm_
  refine k_aload_n C0 dJ7_copyOf_6403c_0 2 rfl ?_
  refine k_ldcM C0 K0 dJ7_copyOf_6403c_1 (tB 72 rfl rfl) ?_
  refine k_acmp_ne C0 13 dJ7_copyOf_6403c_3 (by decide) (fun zz => absurd rfl zz) (fun _ => ?_)
  refine k_iload_n C0 dJ7_copyOf_6403c_6 1 rfl ?_
  refine x_newq C0 K0 N (tB 74 rfl rfl) K0.1.2.2.2.2.2.2.2.1 (t0 := 3) rfl (nI_pos (by omega)) (nI_clamp (by omega)) hN (Nat.le_of_eq (Nat.zero_add _)) (Nat.le_of_eq (Nat.zero_add _)) dJ7_copyOf_6403c_7 (fun q1 => ?_)
  refine k_goto C0 24 dJ7_copyOf_6403c_10 (by decide) ?_
  refine k_astore_n C0 [(3, _), (0, _), (1, _), (2, _)] dJ7_copyOf_6403c_24 (by decide) rfl ?_
  refine k_aload_n C0 dJ7_copyOf_6403c_25 1 rfl ?_
  refine k_iconst C0 0 dJ7_copyOf_6403c_26 (by decide) ?_
  refine k_aload_n C0 dJ7_copyOf_6403c_27 0 rfl ?_
  refine k_iconst C0 0 dJ7_copyOf_6403c_28 (by decide) ?_
  refine k_aload_n C0 dJ7_copyOf_6403c_29 1 rfl ?_
  refine c_alen C0 K0 10 L ⟨hL, h1⟩ rfl 3 rfl (nI (sg.2 22 L 0)) rfl dJ7_copyOf_6403c_30 ?_
  refine k_iload_n C0 dJ7_copyOf_6403c_31 2 rfl ?_
  refine k_mmin C0 dJ7_copyOf_6403c_32 (tB 75 rfl rfl) (tB 76 rfl rfl) (tA 14 rfl rfl) (tB 77 rfl rfl) (Nat.le_of_ble_eq_true rfl) (Nat.le_of_ble_eq_true rfl) (Nat.le_of_ble_eq_true rfl) (Nat.le_of_eq (Nat.zero_add _)) (nI (sC sg L)) (if_neg (nI_nlt h3 (by omega))) ?_
  refine l_copy C0 K0 L hL h1 h2 h3 (by omega) h5 dJ7_copyOf_6403c_35 (tB 78 rfl rfl) (tB 80 rfl rfl) (tB 79 rfl rfl) (tA 16 rfl rfl) (Nat.le_of_ble_eq_true rfl) (by show 0 + (nativeFrameWords "java/lang/System" "arraycopy" 5 + 11) ≤ 80; decide +kernel) ?_
  refine k_aload_n C0 dJ7_copyOf_6403c_38 0 rfl ?_
  exact k_aret C0 dJ7_copyOf_6403c_39 hr (Or.inr ⟨_, rfl⟩) hlk (Nat.le_of_eq (Nat.zero_add _)) (Nat.le_of_eq (Nat.zero_add _)) q1 rfl (fun H h => h)
set_option maxRecDepth 100000 in
set_option maxHeartbeats 4000000 in
theorem cj_copy2 (l : Launch) (D : va_G) (Y : Nat → Nat) (A : Nat → Prop) (sg : Sg) (al : Nat → Nat → Nat) (X : va_W) (L : Nat) (hL : L < 4) (N : Nat) (h1 : 0 < sC sg L) (h2 : sF sg L ≤ sC sg L) (h3 : sC sg L ≤ N) (hN : N ≤ 100000) (h5 : sF sg L ≤ sN sg (2 + L)) : CT l yJ7_copyOf_1904c (Cond.code yJ7_copyOf_1904c cJ7_copyOf_1904c 2 (some (.array (.object "java/lang/Object")))) 4 103 D Y A [.ref (al 10 L), .int (nI N)] (WX D Y A sg al X) (fun q : Nat => some (.ref q)) (fun q : Nat => WX D Y A sg al (X ++ [(q, .inl (Y 3, N, .inr (.inr (.inr (.inr (lEl (sF sg L) (al (2 + L))))))))])) noX 1 N := by
  refine CT.of (by decide) (Nat.le_of_ble_eq_true rfl) ?_
  intro p_ e_ s_ m_ below_ meth_ c_ C0 K0 hr hlk htab hnm_
  refine k_aload_n C0 dJ7_copyOf_1904c_0 0 rfl ?_
  refine k_iload_n C0 dJ7_copyOf_1904c_1 1 rfl ?_
  refine k_aload_n C0 dJ7_copyOf_1904c_2 0 rfl ?_
  refine l_getC C0 K0 L ⟨hL, h1⟩ dJ7_copyOf_1904c_3 (tB 54 rfl rfl) (tD 228 rfl rfl) (tB 55 rfl rfl) (tB 68 rfl rfl) (Nat.le_of_ble_eq_true rfl) (Nat.le_of_ble_eq_true rfl) ?_
  refine k_callS C0 K0 dJ7_copyOf_1904c_6 (cj_copy3 l D Y A sg al X L hL N h1 h2 h3 hN h5) gkJ7_300 hyJ7_copyOf_6403c rfl (by exact Nat.le_of_ble_eq_true rfl) ⟨Nat.le_of_ble_eq_true rfl, Nat.le_of_ble_eq_true rfl⟩ ⟨Nat.le_of_eq rfl, Nat.le_of_eq (Nat.zero_add _)⟩ (fun E => kX_no E) (fun q1 => ?_)
  exact k_aret C0 dJ7_copyOf_1904c_9 hr (Or.inr ⟨_, rfl⟩) hlk (Nat.le_of_eq (Nat.zero_add _)) (Nat.le_of_eq (Nat.zero_add _)) q1 rfl (fun H h => h)
set_option maxRecDepth 100000 in
set_option maxHeartbeats 4000000 in
theorem cl_growF (l : Launch) (D : va_G) (Y : Nat → Nat) (A : Nat → Prop) (sg : Sg) (al : Nat → Nat → Nat) (X : va_W) (L : Nat) (hL : L < 4) (h10 : 10 ≤ sC sg L) (h2 : sF sg L ≤ sC sg L) (hb : sC sg L ≤ 60000) (h5 : sF sg L ≤ sN sg (2 + L))  : CT l yJx4a65c_grow_92f84 (Cond.code yJx4a65c_grow_92f84 cJx4a65c_grow_92f84 4 (some (.array (.object "java/lang/Object")))) 5 124 D Y A [.ref (al 9 L), .int (nI (sC sg L) + 1)] (WX D Y A sg al X) (fun q : Nat => some (.ref q)) (fun q : Nat => WX D Y A (sP sg 22 L 0 (sC sg L + sC sg L / 2)) (aU al 10 L q) X) noX 1 (sC sg L + sC sg L / 2) := by
  refine CT.of (by decide) (Nat.le_of_ble_eq_true rfl) ?_
  intro p_ e_ s_ m_ below_ meth_ c_ C0 K0 hr hlk htab hnm_
  refine k_aload_n C0 dJx4a65c_grow_92f84_0 0 rfl ?_
  refine c_get C0 K0 9 L hL rfl inJx4a65c rfl 1 (.ref (al 10 L)) (by decide) dJx4a65c_grow_92f84_1 (tA 47 rfl rfl) (fun _ h => h) rfl ?_
  refine c_alen C0 K0 10 L ⟨hL, (show 0 < sC sg L by omega)⟩ rfl 3 rfl (nI (sg.2 22 L 0)) rfl dJx4a65c_grow_92f84_4 ?_
  refine k_istore_n C0 [(2, _), (0, _), (1, _)] dJx4a65c_grow_92f84_5 (by decide) rfl ?_
  refine k_iload_n C0 dJx4a65c_grow_92f84_6 0 rfl ?_
  refine k_if_gt C0 20 dJx4a65c_grow_92f84_7 (by decide) (fun _ => ?_) (fun zz => absurd (Int32.not_le.mp (nI_nle (n := sC sg L) (by omega) (by omega))) zz)
  refine k_iload_n C0 dJx4a65c_grow_92f84_20 0 rfl ?_
  refine k_iload_n C0 dJx4a65c_grow_92f84_21 2 rfl ?_
  refine k_iload_n C0 dJx4a65c_grow_92f84_22 0 rfl ?_
  refine k_isub C0 dJx4a65c_grow_92f84_23 ?_
  refine k_iload_n C0 dJx4a65c_grow_92f84_24 0 rfl ?_
  refine k_iconst C0 1 dJx4a65c_grow_92f84_25 (by decide) ?_
  refine k_ishr C0 dJx4a65c_grow_92f84_26 ?_
  rw [i32_as (nI (sC sg L)) 1, nI_half (sC sg L) (by omega)]
  refine k_callS C0 K0 dJx4a65c_grow_92f84_27 (cj_newLen l D Y A (WX D Y A sg al X) (nI (sC sg L)) 1 (nI (sC sg L / 2)) (newLen_ok _ h10 hb).1 (newLen_ok _ h10 hb).2.1 (newLen_ok _ h10 hb).2.2) gkJx4a65c_73 hyJ8_newLength_cabcc rfl (by exact Nat.le_of_ble_eq_true rfl) ⟨Nat.le_of_ble_eq_true rfl, Nat.le_of_ble_eq_true rfl⟩ ⟨Nat.zero_le _, Nat.zero_le _⟩ (fun E => kX_no E) (fun _ => ?_)
  rw [nI_add]
  refine k_istore_n C0 [(3, _), (2, _), (0, _), (1, _)] dJx4a65c_grow_92f84_30 (by decide) rfl ?_
  refine k_aload_n C0 dJx4a65c_grow_92f84_31 2 rfl ?_
  refine k_aload_n C0 dJx4a65c_grow_92f84_32 2 rfl ?_
  refine c_get C0 K0 9 L hL rfl inJx4a65c rfl 1 (.ref (al 10 L)) (by decide) dJx4a65c_grow_92f84_33 (tA 47 rfl rfl) (fun _ h => h) rfl ?_
  refine k_iload_n C0 dJx4a65c_grow_92f84_36 0 rfl ?_
  refine k_callS C0 K0 dJx4a65c_grow_92f84_37 (cj_copy2 l D Y A sg al X L hL (sC sg L + sC sg L / 2) (by omega) h2 (by omega) (by omega) h5) gkJx4a65c_66 hyJ7_copyOf_1904c rfl (by exact Nat.le_of_ble_eq_true rfl) ⟨Nat.le_of_ble_eq_true rfl, Nat.le_of_ble_eq_true rfl⟩ ⟨Nat.le_of_eq rfl, (Nat.le_of_eq (Nat.zero_add _))⟩ (fun E => kX_no E) (fun q1 => ?_)
  refine k_dup_x1 C0 dJx4a65c_grow_92f84_40 rfl rfl ?_
  refine l_putEd (sg := sg) (al := al) C0 K0 L hL (N := (sC sg L + sC sg L / 2)) (by omega) rfl dJx4a65c_grow_92f84_41 (tA 47 rfl rfl) (fun _ h => h) ?_
  exact k_aret C0 dJx4a65c_grow_92f84_44 hr (Or.inr ⟨_, rfl⟩) hlk (Nat.le_of_eq (Nat.zero_add _)) (Nat.le_of_eq (Nat.zero_add _)) q1 rfl (fun H h => h)
set_option maxRecDepth 100000 in
set_option maxHeartbeats 4000000 in
theorem cl_grow0 (l : Launch) (D : va_G) (Y : Nat → Nat) (A : Nat → Prop) (sg : Sg) (al : Nat → Nat → Nat) (X : va_W) (L : Nat) (hL : L < 4) (h0 : sC sg L = 0) (hf : sF sg L = 0)  : CT l yJx4a65c_grow_92f84 (Cond.code yJx4a65c_grow_92f84 cJx4a65c_grow_92f84 4 (some (.array (.object "java/lang/Object")))) 1 14 D Y A [.ref (al 9 L), .int 1] (WX D Y A sg al X) (fun q : Nat => some (.ref q)) (fun q : Nat => WX D Y A (sP sg 22 L 0 10) (aU al 10 L q) X) noX 1 10 := by
  refine CT.of (by decide) (Nat.le_of_ble_eq_true rfl) ?_
  intro p_ e_ s_ m_ below_ meth_ c_ C0 K0 hr hlk htab hnm_
  refine k_ex (fun H hV => hV.2.2.1 L hL h0) (fun e4 => ?_)
  refine k_aload_n C0 dJx4a65c_grow_92f84_0 0 rfl ?_
  refine c_get C0 K0 9 L hL rfl inJx4a65c rfl 1 (.ref (Y 4)) (by decide) dJx4a65c_grow_92f84_1 (tA 47 rfl rfl) (fun _ h => h) (congrArg (fun z => some (Value.ref z)) e4) ?_
  refine l_alenE C0 K0 rfl dJx4a65c_grow_92f84_4 ?_
  refine k_istore_n C0 [(2, _), (0, _), (1, _)] dJx4a65c_grow_92f84_5 (by decide) rfl ?_
  refine k_iload_n C0 dJx4a65c_grow_92f84_6 0 rfl ?_
  refine k_if_gt C0 20 dJx4a65c_grow_92f84_7 (by decide) (fun zz => absurd zz (by decide)) (fun _ => ?_)
  refine k_aload_n C0 dJx4a65c_grow_92f84_10 1 rfl ?_
  refine c_get C0 K0 9 L hL rfl inJx4a65c rfl 1 (.ref (Y 4)) (by decide) dJx4a65c_grow_92f84_11 (tA 47 rfl rfl) (fun _ h => h) (congrArg (fun z => some (Value.ref z)) e4) ?_
  refine l_gets C0 K0 dJx4a65c_grow_92f84_14 (tA 45 rfl rfl) rfl ?_
  refine k_acmp_eq C0 45 dJx4a65c_grow_92f84_17 (by decide) (fun _ => ?_) (fun zz => absurd rfl zz)
  refine k_aload_n C0 dJx4a65c_grow_92f84_45 1 rfl ?_
  refine k_bipush C0 10 dJx4a65c_grow_92f84_46 (by decide) ?_
  refine k_iload_n C0 dJx4a65c_grow_92f84_48 2 rfl ?_
  refine k_mmax C0 dJx4a65c_grow_92f84_49 (tB 81 rfl rfl) (tB 45 rfl rfl) (tA 14 rfl rfl) (tB 46 rfl rfl) (Nat.le_of_ble_eq_true rfl) (Nat.le_of_ble_eq_true rfl) (Nat.le_of_ble_eq_true rfl) (Nat.le_of_ble_eq_true rfl) 10 (by decide) ?_
  refine x_newq C0 K0 10 (tB 82 rfl rfl) K0.1.2.2.2.2.2.2.2.1 (t0 := 3) rfl (by decide) (by decide) (by decide) (Nat.le_of_ble_eq_true rfl) (Nat.le_of_ble_eq_true rfl) dJx4a65c_grow_92f84_52 (fun q1 => ?_)
  refine k_dup_x1 C0 dJx4a65c_grow_92f84_55 rfl rfl ?_
  refine l_putEd (sg := sg) (al := al) C0 K0 L hL (N := 10) (by omega) (hf ▸ lEl_0 _) dJx4a65c_grow_92f84_56 (tA 47 rfl rfl) (fun _ h => h) ?_
  exact k_aret C0 dJx4a65c_grow_92f84_59 hr (Or.inr ⟨_, rfl⟩) hlk (Nat.le_of_ble_eq_true rfl) (Nat.le_of_ble_eq_true rfl) q1 rfl (fun H h => h)
set_option maxRecDepth 100000 in
set_option maxHeartbeats 4000000 in
theorem cl_growF_ (l : Launch) (D : va_G) (Y : Nat → Nat) (A : Nat → Prop) (sg : Sg) (al : Nat → Nat → Nat) (X : va_W) (L : Nat) (hL : L < 4) (h10 : 10 ≤ sC sg L) (h2 : sF sg L ≤ sC sg L) (hb : sC sg L ≤ 60000) (h5 : sF sg L ≤ sN sg (2 + L)) (hz : sZ sg L = sC sg L) : CT l yJx4a65c_grow_d5877 (Cond.code yJx4a65c_grow_d5877 cJx4a65c_grow_d5877 1 (some (.array (.object "java/lang/Object")))) 6 147 D Y A [.ref (al 9 L)] (WX D Y A sg al X) (fun q : Nat => some (.ref q)) (fun q : Nat => WX D Y A (sP sg 22 L 0 (sC sg L + sC sg L / 2)) (aU al 10 L q) X) noX 1 (sC sg L + sC sg L / 2) := by
  refine CT.of (by decide) (Nat.le_of_ble_eq_true rfl) ?_
  intro p_ e_ s_ m_ below_ meth_ c_ C0 K0 hr hlk htab hnm_
  refine k_aload_n C0 dJx4a65c_grow_d5877_0 0 rfl ?_
  refine k_aload_n C0 dJx4a65c_grow_d5877_1 0 rfl ?_
  refine c_get C0 K0 9 L hL rfl inJx4a65c rfl 2 (.int (nI (sg.2 21 L 0))) (by decide) dJx4a65c_grow_d5877_2 (tA 48 rfl rfl) (fun _ h => h) rfl ?_
  refine k_iconst C0 1 dJx4a65c_grow_d5877_5 (by decide) ?_
  refine k_iadd C0 dJx4a65c_grow_d5877_6 ?_
  rw [show nI (sg.2 21 L 0) + 1 = nI (sC sg L) + 1 from by rw [show sg.2 21 L 0 = sC sg L from hz]]
  refine k_callV C0 K0 dJx4a65c_grow_d5877_7 (cl_growF l D Y A sg al X L hL h10 h2 hb h5) gkJx4a65c_69 hyJx4a65c_grow_92f84 (c_recv (sg := sg) K0 9 L hL rfl rfl) rfl (by exact Nat.le_of_ble_eq_true rfl) ⟨Nat.le_of_ble_eq_true rfl, Nat.le_of_ble_eq_true rfl⟩ ⟨Nat.le_of_eq rfl, (Nat.le_of_eq (Nat.zero_add _))⟩ (fun E => kX_no E) (fun q1 => ?_)
  exact k_aret C0 dJx4a65c_grow_d5877_10 hr (Or.inr ⟨_, rfl⟩) hlk (Nat.le_of_eq (Nat.zero_add _)) (Nat.le_of_eq (Nat.zero_add _)) q1 rfl (fun H h => h)
set_option maxRecDepth 100000 in
set_option maxHeartbeats 4000000 in
theorem cl_grow0_ (l : Launch) (D : va_G) (Y : Nat → Nat) (A : Nat → Prop) (sg : Sg) (al : Nat → Nat → Nat) (X : va_W) (L : Nat) (hL : L < 4) (h0 : sC sg L = 0) (hf : sF sg L = 0) (hz : sZ sg L = 0) : CT l yJx4a65c_grow_d5877 (Cond.code yJx4a65c_grow_d5877 cJx4a65c_grow_d5877 1 (some (.array (.object "java/lang/Object")))) 2 37 D Y A [.ref (al 9 L)] (WX D Y A sg al X) (fun q : Nat => some (.ref q)) (fun q : Nat => WX D Y A (sP sg 22 L 0 10) (aU al 10 L q) X) noX 1 10 := by
  refine CT.of (by decide) (Nat.le_of_ble_eq_true rfl) ?_
  intro p_ e_ s_ m_ below_ meth_ c_ C0 K0 hr hlk htab hnm_
  refine k_aload_n C0 dJx4a65c_grow_d5877_0 0 rfl ?_
  refine k_aload_n C0 dJx4a65c_grow_d5877_1 0 rfl ?_
  refine c_get C0 K0 9 L hL rfl inJx4a65c rfl 2 (.int (nI (sg.2 21 L 0))) (by decide) dJx4a65c_grow_d5877_2 (tA 48 rfl rfl) (fun _ h => h) rfl ?_
  refine k_iconst C0 1 dJx4a65c_grow_d5877_5 (by decide) ?_
  refine k_iadd C0 dJx4a65c_grow_d5877_6 ?_
  rw [show nI (sg.2 21 L 0) + 1 = 1 from by rw [show sg.2 21 L 0 = 0 from hz]; rfl]
  refine k_callV C0 K0 dJx4a65c_grow_d5877_7 (cl_grow0 l D Y A sg al X L hL h0 hf) gkJx4a65c_69 hyJx4a65c_grow_92f84 (c_recv (sg := sg) K0 9 L hL rfl rfl) rfl (by exact Nat.le_of_ble_eq_true rfl) ⟨Nat.le_of_ble_eq_true rfl, Nat.le_of_ble_eq_true rfl⟩ ⟨Nat.le_of_ble_eq_true rfl, Nat.le_of_ble_eq_true rfl⟩ (fun E => kX_no E) (fun q1 => ?_)
  exact k_aret C0 dJx4a65c_grow_d5877_10 hr (Or.inr ⟨_, rfl⟩) hlk (Nat.le_of_ble_eq_true rfl) (Nat.le_of_ble_eq_true rfl) q1 rfl (fun H h => h)
set_option maxRecDepth 100000 in
set_option maxHeartbeats 4000000 in
theorem cl_add3r (l : Launch) (D : va_G) (Y : Nat → Nat) (A : Nat → Prop) (sg : Sg) (al : Nat → Nat → Nat) (X : va_W) (L : Nat) (hL : L < 4) (h1 : 0 < sC sg L) (hr_ : sF sg L < sC sg L) (hb : sC sg L ≤ 60000) (hf : sF sg L < sN sg (2 + L)) : CT l yJx4a65c_add_72be8 (Cond.code yJx4a65c_add_72be8 cJx4a65c_add_72be8 4 none) 0 0 D Y A [.ref (al 9 L), .ref (al (2 + L) (sF sg L)), .ref (al 10 L), .int (nI (sF sg L))] (WX D Y A sg al X) (fun _ : Unit => none) (fun _ : Unit => WX D Y A (sP (sP sg 23 L 0 (sF sg L + 1)) 21 L 0 (sF sg L + 1)) al X) noX 0 0 := by
  refine CT.of (by decide) (Nat.le_of_ble_eq_true rfl) ?_
  intro p_ e_ s_ m_ below_ meth_ c_ C0 K0 hr hlk htab hnm_
  refine k_iload_n C0 dJx4a65c_add_72be8_0 3 rfl ?_
  refine k_aload_n C0 dJx4a65c_add_72be8_1 2 rfl ?_
  refine c_alen C0 K0 10 L ⟨hL, h1⟩ rfl 3 rfl (nI (sg.2 22 L 0)) rfl dJx4a65c_add_72be8_2 ?_
  refine k_icmp_ne C0 11 dJx4a65c_add_72be8_3 (by decide) (fun _ => ?_) (fun zz => absurd zz (fun z => by have := (nI_eq (show sF sg L < 2 ^ 31 by omega) (show sC sg L < 2 ^ 31 by omega)).mp z; omega))
  refine k_aload_n C0 dJx4a65c_add_72be8_11 2 rfl ?_
  refine k_iload_n C0 dJx4a65c_add_72be8_12 3 rfl ?_
  refine k_aload_n C0 dJx4a65c_add_72be8_13 1 rfl ?_
  refine l_aastE (sg := sg) (al := al) C0 K0 L hL rfl rfl rfl hr_ (by omega) hf dJx4a65c_add_72be8_14 ?_
  refine k_aload_n C0 dJx4a65c_add_72be8_15 0 rfl ?_
  refine k_iload_n C0 dJx4a65c_add_72be8_16 3 rfl ?_
  refine k_iconst C0 1 dJx4a65c_add_72be8_17 (by decide) ?_
  refine k_iadd C0 dJx4a65c_add_72be8_18 ?_
  rw [nI_1]
  refine l_putSz (sg := sP sg 23 L 0 (sF sg L + 1)) (al := al) C0 K0 L (sF sg L + 1) hL dJx4a65c_add_72be8_19 (tA 48 rfl rfl) (fun _ h => h) ?_
  exact k_vret C0 dJx4a65c_add_72be8_22 hr hlk (Nat.le_of_ble_eq_true rfl) (Nat.le_of_ble_eq_true rfl) () rfl (fun H h => h)
set_option maxRecDepth 100000 in
set_option maxHeartbeats 4000000 in
theorem cl_add3f (l : Launch) (D : va_G) (Y : Nat → Nat) (A : Nat → Prop) (sg : Sg) (al : Nat → Nat → Nat) (X : va_W) (L : Nat) (hL : L < 4) (h10 : 10 ≤ sC sg L) (h2 : sF sg L ≤ sC sg L) (hb : sC sg L ≤ 60000) (h5 : sF sg L ≤ sN sg (2 + L)) (hz : sZ sg L = sC sg L) (hzf : sF sg L = sC sg L) (hf : sF sg L < sN sg (2 + L)) : CT l yJx4a65c_add_72be8 (Cond.code yJx4a65c_add_72be8 cJx4a65c_add_72be8 4 none) 7 167 D Y A [.ref (al 9 L), .ref (al (2 + L) (sF sg L)), .ref (al 10 L), .int (nI (sF sg L))] (WX D Y A sg al X) (fun _ : Nat => none) (fun q : Nat => WX D Y A (sP (sP (sP sg 22 L 0 (sC sg L + sC sg L / 2)) 23 L 0 (sF sg L + 1)) 21 L 0 (sF sg L + 1)) (aU al 10 L q) X) noX 1 (sC sg L + sC sg L / 2) := by
  refine CT.of (by decide) (Nat.le_of_ble_eq_true rfl) ?_
  intro p_ e_ s_ m_ below_ meth_ c_ C0 K0 hr hlk htab hnm_
  refine k_iload_n C0 dJx4a65c_add_72be8_0 3 rfl ?_
  refine k_aload_n C0 dJx4a65c_add_72be8_1 2 rfl ?_
  refine c_alen C0 K0 10 L ⟨hL, (show 0 < sC sg L by omega)⟩ rfl 3 rfl (nI (sg.2 22 L 0)) rfl dJx4a65c_add_72be8_2 ?_
  refine k_icmp_ne C0 11 dJx4a65c_add_72be8_3 (by decide) (fun zz => absurd (congrArg nI hzf) zz) (fun _ => ?_)
  refine k_aload_n C0 dJx4a65c_add_72be8_6 0 rfl ?_
  refine k_callV C0 K0 dJx4a65c_add_72be8_7 (cl_growF_ l D Y A sg al X L hL h10 h2 hb h5 hz) gkJx4a65c_129 hyJx4a65c_grow_d5877 (c_recv (sg := sg) K0 9 L hL rfl rfl) rfl (by exact Nat.le_of_ble_eq_true rfl) ⟨Nat.le_of_ble_eq_true rfl, Nat.le_of_ble_eq_true rfl⟩ ⟨Nat.le_of_eq rfl, (Nat.le_of_eq (Nat.zero_add _))⟩ (fun E => kX_no E) (fun q1 => ?_)
  refine k_astore_n C0 [(2, _), (0, _), (1, _), (3, _)] dJx4a65c_add_72be8_10 (by decide) rfl ?_
  refine k_aload_n C0 dJx4a65c_add_72be8_11 0 rfl ?_
  refine k_iload_n C0 dJx4a65c_add_72be8_12 3 rfl ?_
  refine k_aload_n C0 dJx4a65c_add_72be8_13 2 rfl ?_
  refine l_aastE (sg := sP sg 22 L 0 (sC sg L + sC sg L / 2)) (al := (aU al 10 L q1)) C0 K0 L hL aU_at.symm (aU_ne (fun z => absurd z.1 (by omega))).symm rfl (by show sF sg L < (sP sg 22 L 0 (sC sg L + sC sg L / 2)).2 22 L 0; rw [(show (sP sg 22 L 0 (sC sg L + sC sg L / 2)).2 22 L 0 = (sC sg L + sC sg L / 2) from up3_at)]; omega) (by show (sP sg 22 L 0 (sC sg L + sC sg L / 2)).2 22 L 0 < _; rw [(show (sP sg 22 L 0 (sC sg L + sC sg L / 2)).2 22 L 0 = (sC sg L + sC sg L / 2) from up3_at)]; omega) hf dJx4a65c_add_72be8_14 ?_
  refine k_aload_n C0 dJx4a65c_add_72be8_15 1 rfl ?_
  refine k_iload_n C0 dJx4a65c_add_72be8_16 3 rfl ?_
  refine k_iconst C0 1 dJx4a65c_add_72be8_17 (by decide) ?_
  refine k_iadd C0 dJx4a65c_add_72be8_18 ?_
  rw [nI_1]
  refine l_putSz (sg := sP (sP sg 22 L 0 (sC sg L + sC sg L / 2)) 23 L 0 (sF sg L + 1)) (al := (aU al 10 L q1)) C0 K0 L (sF sg L + 1) hL dJx4a65c_add_72be8_19 (tA 48 rfl rfl) (fun _ h => h) ?_
  exact k_vret C0 dJx4a65c_add_72be8_22 hr hlk (Nat.le_of_eq (Nat.zero_add _)) (Nat.le_of_eq (Nat.zero_add _)) q1 rfl (fun H h => h)
set_option maxRecDepth 100000 in
set_option maxHeartbeats 4000000 in
theorem cl_add30 (l : Launch) (D : va_G) (Y : Nat → Nat) (A : Nat → Prop) (sg : Sg) (al : Nat → Nat → Nat) (X : va_W) (L : Nat) (hL : L < 4) (h0 : sC sg L = 0) (hf : sF sg L = 0) (hz : sZ sg L = 0) (hff : 0 < sN sg (2 + L)) : CT l yJx4a65c_add_72be8 (Cond.code yJx4a65c_add_72be8 cJx4a65c_add_72be8 4 none) 3 57 D Y A [.ref (al 9 L), .ref (al (2 + L) (sF sg L)), .ref (al 10 L), .int (nI (sF sg L))] (WX D Y A sg al X) (fun _ : Nat => none) (fun q : Nat => WX D Y A (sP (sP (sP sg 22 L 0 10) 23 L 0 (sF sg L + 1)) 21 L 0 (sF sg L + 1)) (aU al 10 L q) X) noX 1 10 := by
  refine CT.of (by decide) (Nat.le_of_ble_eq_true rfl) ?_
  intro p_ e_ s_ m_ below_ meth_ c_ C0 K0 hr hlk htab hnm_
  refine k_ex (fun H hV => hV.2.2.1 L hL h0) (fun e4 => ?_)
  refine k_iload_n C0 dJx4a65c_add_72be8_0 3 rfl ?_
  refine k_aload_n C0 dJx4a65c_add_72be8_1 2 rfl ?_
  refine l_alenE C0 K0 e4 dJx4a65c_add_72be8_2 ?_
  refine k_icmp_ne C0 11 dJx4a65c_add_72be8_3 (by decide) (fun zz => absurd (by rw [hf]; rfl) zz) (fun _ => ?_)
  refine k_aload_n C0 dJx4a65c_add_72be8_6 0 rfl ?_
  refine k_callV C0 K0 dJx4a65c_add_72be8_7 (cl_grow0_ l D Y A sg al X L hL h0 hf hz) gkJx4a65c_129 hyJx4a65c_grow_d5877 (c_recv (sg := sg) K0 9 L hL rfl rfl) rfl (by exact Nat.le_of_ble_eq_true rfl) ⟨Nat.le_of_ble_eq_true rfl, Nat.le_of_ble_eq_true rfl⟩ ⟨Nat.le_of_ble_eq_true rfl, Nat.le_of_ble_eq_true rfl⟩ (fun E => kX_no E) (fun q1 => ?_)
  refine k_astore_n C0 [(2, _), (0, _), (1, _), (3, _)] dJx4a65c_add_72be8_10 (by decide) rfl ?_
  refine k_aload_n C0 dJx4a65c_add_72be8_11 0 rfl ?_
  refine k_iload_n C0 dJx4a65c_add_72be8_12 3 rfl ?_
  refine k_aload_n C0 dJx4a65c_add_72be8_13 2 rfl ?_
  refine l_aastE (sg := sP sg 22 L 0 10) (al := (aU al 10 L q1)) C0 K0 L hL aU_at.symm (aU_ne (fun z => absurd z.1 (by omega))).symm rfl (by show sF sg L < (sP sg 22 L 0 10).2 22 L 0; rw [(show (sP sg 22 L 0 10).2 22 L 0 = 10 from up3_at)]; omega) (by show (sP sg 22 L 0 10).2 22 L 0 < _; rw [(show (sP sg 22 L 0 10).2 22 L 0 = 10 from up3_at)]; omega) (show sF sg L < sN sg (2 + L) by omega) dJx4a65c_add_72be8_14 ?_
  refine k_aload_n C0 dJx4a65c_add_72be8_15 1 rfl ?_
  refine k_iload_n C0 dJx4a65c_add_72be8_16 3 rfl ?_
  refine k_iconst C0 1 dJx4a65c_add_72be8_17 (by decide) ?_
  refine k_iadd C0 dJx4a65c_add_72be8_18 ?_
  rw [nI_1]
  refine l_putSz (sg := sP (sP sg 22 L 0 10) 23 L 0 (sF sg L + 1)) (al := (aU al 10 L q1)) C0 K0 L (sF sg L + 1) hL dJx4a65c_add_72be8_19 (tA 48 rfl rfl) (fun _ h => h) ?_
  exact k_vret C0 dJx4a65c_add_72be8_22 hr hlk (Nat.le_of_ble_eq_true rfl) (Nat.le_of_ble_eq_true rfl) q1 rfl (fun H h => h)
set_option maxRecDepth 100000 in
set_option maxHeartbeats 4000000 in
theorem cl_add (l : Launch) (D : va_G) (Y : Nat → Nat) (A : Nat → Prop) (sg : Sg) (al : Nat → Nat → Nat) (X : va_W) (L : Nat) (hL : L < 4) (hz : sZ sg L = sF sg L) (hc : sF sg L ≤ sC sg L) (hcc : sC sg L = 0 ∨ 10 ≤ sC sg L) (hb : sC sg L ≤ 60000) (hf : sF sg L < sN sg (2 + L)) : CT l yJx4a65c_add_9ea2d (Cond.code yJx4a65c_add_9ea2d cJx4a65c_add_9ea2d 2 (some .boolean)) 8 190 D Y A [.ref (al 9 L), .ref (al (2 + L) (sF sg L))] (WX D Y A sg al X) (fun _ : Nat => some (.int 1)) (fun q : Nat => WX D Y A (c_add sg L) (aU al 10 L q) X) noX (capN sg L - sC sg L) (4 * (capN sg L - sC sg L)) := by
  refine CT.of (by decide) (Nat.le_of_ble_eq_true rfl) ?_
  intro p_ e_ s_ m_ below_ meth_ c_ C0 K0 hr hlk htab hnm_
  rcases (show sF sg L < sC sg L ∨ (10 ≤ sC sg L ∧ sF sg L = sC sg L) ∨ sC sg L = 0 by omega) with hr_ | ⟨h10, hzf⟩ | h0
  ·
    refine k_aload_n C0 dJx4a65c_add_9ea2d_0 0 rfl ?_
    refine k_dup C0 dJx4a65c_add_9ea2d_1 rfl ?_
    refine c_getI C0 K0 9 L hL rfl inJx4a65c rfl 0 (sg.1 9 L 0) (by decide) dJx4a65c_add_9ea2d_2 (tA 50 rfl rfl) (fun x h => u_same (C0.2.2.2.2 _ (tA 51 rfl rfl)) x h) rfl rfl ?_
    refine k_iconst C0 1 dJx4a65c_add_9ea2d_5 (by decide) ?_
    refine k_iadd C0 dJx4a65c_add_9ea2d_6 ?_
    refine c_putI C0 K0 9 L hL (ty := .int) rfl inJx4a65c rfl tyJx4a65c tyJx4a65c_ok nmJx4a65c 0 (by decide) dJx4a65c_add_9ea2d_7 (tA 50 rfl rfl) (fun x h => u_same (C0.2.2.2.2 _ (tA 51 rfl rfl)) x h) rfl (by decide +kernel) rfl rfl (Nat.le_of_ble_eq_true rfl) rfl ?_
    refine k_aload_n C0 dJx4a65c_add_9ea2d_10 0 rfl ?_
    refine k_aload_n C0 dJx4a65c_add_9ea2d_11 1 rfl ?_
    refine k_aload_n C0 dJx4a65c_add_9ea2d_12 0 rfl ?_
    refine c_get (sg := sI sg 9 L 0 ((sg.1 9 L 0) + 1)) C0 K0 9 L hL rfl inJx4a65c rfl 1 (.ref (al 10 L)) (by decide) dJx4a65c_add_9ea2d_13 (tA 47 rfl rfl) (fun _ h => h) rfl ?_
    refine k_aload_n C0 dJx4a65c_add_9ea2d_16 0 rfl ?_
    refine c_get (sg := sI sg 9 L 0 ((sg.1 9 L 0) + 1)) C0 K0 9 L hL rfl inJx4a65c rfl 2 (.int (nI (sg.2 21 L 0))) (by decide) dJx4a65c_add_9ea2d_17 (tA 48 rfl rfl) (fun _ h => h) rfl ?_
    rw [show nI (sg.2 21 L 0) = nI (sF sg L) from congrArg nI hz]
    refine k_callV C0 K0 dJx4a65c_add_9ea2d_20 (cl_add3r l D Y A (sI sg 9 L 0 ((sg.1 9 L 0) + 1)) al X L hL (show 0 < sC sg L by omega) hr_ hb hf) gkJx4a65c_131 hyJx4a65c_add_72be8 (c_recv (sg := sI sg 9 L 0 ((sg.1 9 L 0) + 1)) K0 9 L hL rfl rfl) rfl (by exact Nat.le_of_ble_eq_true rfl) ⟨Nat.le_of_ble_eq_true rfl, Nat.le_of_ble_eq_true rfl⟩ ⟨Nat.zero_le _, Nat.zero_le _⟩ (fun E => kX_no E) (fun _ => ?_)
    refine k_iconst C0 1 dJx4a65c_add_9ea2d_23 (by decide) ?_
    exact k_zret C0 dJx4a65c_add_9ea2d_24 hr rfl hlk (Nat.zero_le _) (Nat.zero_le _) (al 10 L) rfl (fun H h => by rw [← (c_add_r hr_).1, aU_same]; exact h)
  ·
    refine k_aload_n C0 dJx4a65c_add_9ea2d_0 0 rfl ?_
    refine k_dup C0 dJx4a65c_add_9ea2d_1 rfl ?_
    refine c_getI C0 K0 9 L hL rfl inJx4a65c rfl 0 (sg.1 9 L 0) (by decide) dJx4a65c_add_9ea2d_2 (tA 50 rfl rfl) (fun x h => u_same (C0.2.2.2.2 _ (tA 51 rfl rfl)) x h) rfl rfl ?_
    refine k_iconst C0 1 dJx4a65c_add_9ea2d_5 (by decide) ?_
    refine k_iadd C0 dJx4a65c_add_9ea2d_6 ?_
    refine c_putI C0 K0 9 L hL (ty := .int) rfl inJx4a65c rfl tyJx4a65c tyJx4a65c_ok nmJx4a65c 0 (by decide) dJx4a65c_add_9ea2d_7 (tA 50 rfl rfl) (fun x h => u_same (C0.2.2.2.2 _ (tA 51 rfl rfl)) x h) rfl (by decide +kernel) rfl rfl (Nat.le_of_ble_eq_true rfl) rfl ?_
    refine k_aload_n C0 dJx4a65c_add_9ea2d_10 0 rfl ?_
    refine k_aload_n C0 dJx4a65c_add_9ea2d_11 1 rfl ?_
    refine k_aload_n C0 dJx4a65c_add_9ea2d_12 0 rfl ?_
    refine c_get (sg := sI sg 9 L 0 ((sg.1 9 L 0) + 1)) C0 K0 9 L hL rfl inJx4a65c rfl 1 (.ref (al 10 L)) (by decide) dJx4a65c_add_9ea2d_13 (tA 47 rfl rfl) (fun _ h => h) rfl ?_
    refine k_aload_n C0 dJx4a65c_add_9ea2d_16 0 rfl ?_
    refine c_get (sg := sI sg 9 L 0 ((sg.1 9 L 0) + 1)) C0 K0 9 L hL rfl inJx4a65c rfl 2 (.int (nI (sg.2 21 L 0))) (by decide) dJx4a65c_add_9ea2d_17 (tA 48 rfl rfl) (fun _ h => h) rfl ?_
    rw [show nI (sg.2 21 L 0) = nI (sF sg L) from congrArg nI hz]
    refine k_callV C0 K0 dJx4a65c_add_9ea2d_20 (cl_add3f l D Y A (sI sg 9 L 0 ((sg.1 9 L 0) + 1)) al X L hL h10 hc hb (by exact Nat.le_of_lt hf) (hz.trans hzf) hzf hf) gkJx4a65c_131 hyJx4a65c_add_72be8 (c_recv (sg := sI sg 9 L 0 ((sg.1 9 L 0) + 1)) K0 9 L hL rfl rfl) rfl (by exact Nat.le_of_ble_eq_true rfl) ⟨Nat.le_of_ble_eq_true rfl, Nat.le_of_ble_eq_true rfl⟩ ⟨by show 0 + 1 ≤ capN sg L - sC sg L; rw [c_add_f hzf h10]; omega, by show 0 + (sC sg L + sC sg L / 2) ≤ 4 * (capN sg L - sC sg L); rw [c_add_f hzf h10]; omega⟩ (fun E => kX_no E) (fun q1 => ?_)
    refine k_iconst C0 1 dJx4a65c_add_9ea2d_23 (by decide) ?_
    exact k_zret C0 dJx4a65c_add_9ea2d_24 hr rfl hlk (by show 0 + 1 ≤ capN sg L - sC sg L; rw [c_add_f hzf h10]; omega) (by show 0 + (sC sg L + sC sg L / 2) ≤ 4 * (capN sg L - sC sg L); rw [c_add_f hzf h10]; omega) q1 rfl (fun H h => by unfold c_add; rw [c_add_f hzf h10]; exact h)
  ·
    refine k_aload_n C0 dJx4a65c_add_9ea2d_0 0 rfl ?_
    refine k_dup C0 dJx4a65c_add_9ea2d_1 rfl ?_
    refine c_getI C0 K0 9 L hL rfl inJx4a65c rfl 0 (sg.1 9 L 0) (by decide) dJx4a65c_add_9ea2d_2 (tA 50 rfl rfl) (fun x h => u_same (C0.2.2.2.2 _ (tA 51 rfl rfl)) x h) rfl rfl ?_
    refine k_iconst C0 1 dJx4a65c_add_9ea2d_5 (by decide) ?_
    refine k_iadd C0 dJx4a65c_add_9ea2d_6 ?_
    refine c_putI C0 K0 9 L hL (ty := .int) rfl inJx4a65c rfl tyJx4a65c tyJx4a65c_ok nmJx4a65c 0 (by decide) dJx4a65c_add_9ea2d_7 (tA 50 rfl rfl) (fun x h => u_same (C0.2.2.2.2 _ (tA 51 rfl rfl)) x h) rfl (by decide +kernel) rfl rfl (Nat.le_of_ble_eq_true rfl) rfl ?_
    refine k_aload_n C0 dJx4a65c_add_9ea2d_10 0 rfl ?_
    refine k_aload_n C0 dJx4a65c_add_9ea2d_11 1 rfl ?_
    refine k_aload_n C0 dJx4a65c_add_9ea2d_12 0 rfl ?_
    refine c_get (sg := sI sg 9 L 0 ((sg.1 9 L 0) + 1)) C0 K0 9 L hL rfl inJx4a65c rfl 1 (.ref (al 10 L)) (by decide) dJx4a65c_add_9ea2d_13 (tA 47 rfl rfl) (fun _ h => h) rfl ?_
    refine k_aload_n C0 dJx4a65c_add_9ea2d_16 0 rfl ?_
    refine c_get (sg := sI sg 9 L 0 ((sg.1 9 L 0) + 1)) C0 K0 9 L hL rfl inJx4a65c rfl 2 (.int (nI (sg.2 21 L 0))) (by decide) dJx4a65c_add_9ea2d_17 (tA 48 rfl rfl) (fun _ h => h) rfl ?_
    rw [show nI (sg.2 21 L 0) = nI (sF sg L) from congrArg nI hz]
    refine k_callV C0 K0 dJx4a65c_add_9ea2d_20 (cl_add30 l D Y A (sI sg 9 L 0 ((sg.1 9 L 0) + 1)) al X L hL h0 (show sF sg L = 0 by omega) (show sZ sg L = 0 by omega) (show 0 < sN sg (2 + L) by omega)) gkJx4a65c_131 hyJx4a65c_add_72be8 (c_recv (sg := sI sg 9 L 0 ((sg.1 9 L 0) + 1)) K0 9 L hL rfl rfl) rfl (by exact Nat.le_of_ble_eq_true rfl) ⟨Nat.le_of_ble_eq_true rfl, Nat.le_of_ble_eq_true rfl⟩ ⟨by show 0 + 1 ≤ capN sg L - sC sg L; rw [c_add_0 h0]; omega, by show 0 + 10 ≤ 4 * (capN sg L - sC sg L); rw [c_add_0 h0]; omega⟩ (fun E => kX_no E) (fun q1 => ?_)
    refine k_iconst C0 1 dJx4a65c_add_9ea2d_23 (by decide) ?_
    exact k_zret C0 dJx4a65c_add_9ea2d_24 hr rfl hlk (by show 0 + 1 ≤ capN sg L - sC sg L; rw [c_add_0 h0]; omega) (by show 0 + 10 ≤ 4 * (capN sg L - sC sg L); rw [c_add_0 h0]; omega) q1 rfl (fun H h => by unfold c_add; rw [c_add_0 h0]; exact h)
end
