/-! the library's lists -/
section KCQ
variable {p : Program} {l : Launch} {e : Env} {R : Room} {s : State} {m : MethodId} {args : Array Value} {below : List Frame} {meth : Method} {c : Code} {Q : State → Prop}
variable {A : Nat → Prop} {V V' : Heap → Prop} {k n nL pc : Nat} {lv : List (Nat × Value)} {st rest : List Value} {cc : ByteArray} {own : String} {D : va_G} {Y : Nat → Nat} {a a0 : Nat}
theorem i32_nn {z : Int32} (hz : ¬ z < 0) : z.toInt = (z.toNatClampNeg : Int) := by
  have hz0 : (0 : Int) ≤ z.toInt := by
    have := Int32.not_lt.mp hz
    simpa using Int32.le_iff_toInt_le.mp this
  show z.toInt = ((z.toInt.toNat : Nat) : Int)
  omega
/-- System.arraycopy from one array of objects into another -/
theorem k_copyq (C0 : CallFix p m c cc nL s args TT own) (K0 : PK D Y A s) {index n0 n1 : Nat} {f g : Nat → Option Nat} {C : String} {sp dp z : Int32} (d : decode cc pc = .ok (.invokestatic index, 3)) (hlink : Cond.methodLink own index arraycopyName ∈ TT) (hnat : Cond.native arraycopyName ∈ TT) (hstat : Cond.static arraycopyName ∈ TT) (hini : Cond.initialized "java/lang/System" ∈ TT) (h1 : ¬ sp < 0) (h2 : ¬ dp < 0) (h3 : ¬ z < 0) (h4 : sp.toNatClampNeg + z.toNatClampNeg ≤ n0) (h5 : dp.toNatClampNeg + z.toNatClampNeg ≤ n1) (hca : (C, "java/lang/Object") ∈ kCa) (hfr : 1 ≤ R.frames) (hlo : (rest.map fun v => v.category).sum + (nativeFrameWords "java/lang/System" "arraycopy" 5 + 11) ≤ R.locals)
    (hV : ∀ H, V H → va_at D vwCl (a0, .inl (Y 3, n0, .inr (.inr (.inr (.inr f))))) H ∧ va_at D vwCl (a, .inl (Y 3, n1, .inr (.inr (.inr (.inr g))))) H ∧ A a ∧ ∀ i : Nat, i < z.toNatClampNeg → ∀ y : Nat, f (sp.toNatClampNeg + i) = some y → ∃ cellV : Cell, H[y]? = some cellV ∧ cellV.vm.isStatics = false ∧ s.vm.findClass C = some cellV.cls)
    (hV' : ∀ H H', V H → va_at D vwCl (a, .inl (Y 3, n1, .inr (.inr (.inr (.inr (va_cpy f g sp.toNatClampNeg dp.toNatClampNeg z.toNatClampNeg)))))) H' → (∀ q, q ≠ a → H'[q]? = H[q]?) → V' H') (gk : kG p l e R s m args below meth c Q A nL V' k n (pc + 3) lv rest) : kG p l e R s m args below meth c Q A nL V k n pc lv (.int z :: .int dp :: .ref a :: .int sp :: .ref a0 :: rest) := by
  intro H locs ls hV0 hS hl T hT X
  obtain ⟨hc0, hc1, hA, hel⟩ := hV H hV0
  have hty := K0.1.1.2 3 _ rfl
  obtain ⟨-, k0, hk0, cm0, hkk0⟩ := hty.1 n0 (fun j => va_rf (f j))
  obtain ⟨-, k1, hk1, cm1, hkk1⟩ := hty.1 n1 (fun j => va_rf (g j))
  have hc0 : H[a0]? = some (vp_cell (Y 3) (n0, .inr (.inr (.inr (.inr f))))) := hc0
  have hc1 : H[a]? = some (vp_cell (Y 3) (n1, .inr (.inr (.inr (.inr g))))) := hc1
  obtain ⟨vm', X', step⟩ := X.arraycopy C0.1 C0.2.2.2.1 (C0.2.2.2.2 _ hlink) (C0.2.2.2.2 _ hnat) (C0.2.2.2.2 _ hstat) (C0.2.2.2.2 _ hini) (src := a0) (dst := a) (cs := vp_cell (Y 3) (n0, .inr (.inr (.inr (.inr f))))) (cd := vp_cell (Y 3) (n1, .inr (.inr (.inr (.inr g))))) (srcPos := sp) (destPos := dp) (n := z) (hT ▸ hc0) (hT ▸ hc1)
    (fun _ h => by cases h) (fun _ h => by cases h) (fun h => by cases h) (fun h => by cases h) hk0 hk1 hkk0 hkk1 rfl h1 h2 h3
    (by rw [i32_nn h1, i32_nn h3]; show ¬ _ > ((arrV (Y 3) n0 (fun j => va_rf (f j))).slots.size : Int); rw [arrV_size]; omega)
    (by rw [i32_nn h2, i32_nn h3]; show ¬ _ > ((arrV (Y 3) n1 (fun j => va_rf (g j))).slots.size : Int); rw [arrV_size]; omega)
    (fun vm₁ hal i hi => by
      have e : (vp_cell (Y 3) (n0, .inr (.inr (.inr (.inr f))))).slots.getD (sp.toNatClampNeg + i) .null = va_rf (f (sp.toNatClampNeg + i)) := by
        show (arrV (Y 3) n0 (fun j => va_rf (f j))).slots.getD _ _ = _
        rw [Array.getD_eq_getD_getElem?, arrV_read _ _ (by omega)]
        rfl
      rw [e]
      cases hy : f (sp.toNatClampNeg + i) with
      | none => exact ⟨rfl, trivial⟩
      | some y =>
        obtain ⟨cellV, g1, g2, g3⟩ := hel i hi y hy
        obtain ⟨c0, t1, f1, f2, f3⟩ := Cond.castable_spec (va_Nw.use (A := args) rfl (K0.1.2.2.2.2.2.1 _ hca))
        obtain ⟨kA, comp, r1, r2, r3, -⟩ := hty.2
        cases hk1.symm.trans r1
        cases hkk1.symm.trans r2
        cases g3.symm.trans f1
        cases r3.symm.trans f2
        obtain ⟨kC, hkC, -⟩ := Vm.findClass_spec g3
        obtain ⟨kE, hkE, -⟩ := Vm.findClass_spec r3
        obtain ⟨kC', hkC', -⟩ := hal.2.2 _ _ hkC
        obtain ⟨kE', hkE', -⟩ := hal.2.2 _ _ hkE
        exact ⟨rfl, cellV, hT ▸ g1, (fun q h => by rw [h] at g2; cases g2), ⟨kC', hkC'⟩, ⟨kE', hkE'⟩, (hal.assignable _ _).trans f3⟩)
    (g := F0 m pc ls (.int z :: .int dp :: .ref a :: .int sp :: .ref a0 :: rest)) rfl (hl.1.trans C0.2.2.1.symm) (rest := rest) rfl ((congrArg (fun b => decode b pc) C0.2.1).trans d) hfr (by show 2 * 0 + _ + _ ≤ _; omega)
  have e1 : copied (vp_cell (Y 3) (n0, .inr (.inr (.inr (.inr f))))) (vp_cell (Y 3) (n1, .inr (.inr (.inr (.inr g))))) sp dp z = vp_cell (Y 3) (n1, .inr (.inr (.inr (.inr (va_cpy f g sp.toNatClampNeg dp.toNatClampNeg z.toNatClampNeg))))) := va_copied (fun z => va_rf z) (Y 3) (Y 3) f g h4
  rw [e1] at X' step
  have hl2 : a < H.size := (Array.getElem?_eq_some_iff.mp hc1).1
  have hheap : ((T.setVm vm').setCell a (vp_cell (Y 3) (n1, .inr (.inr (.inr (.inr (va_cpy f g sp.toNatClampNeg dp.toNatClampNeg z.toNatClampNeg))))))).heap = H.setIfInBounds a (vp_cell (Y 3) (n1, .inr (.inr (.inr (.inr (va_cpy f g sp.toNatClampNeg dp.toNatClampNeg z.toNatClampNeg)))))) := by rw [← hT]; rfl
  have oq : ∀ q : Nat, q ≠ a → (H.setIfInBounds a (vp_cell (Y 3) (n1, .inr (.inr (.inr (.inr (va_cpy f g sp.toNatClampNeg dp.toNatClampNeg z.toNatClampNeg)))))))[q]? = H[q]? := fun q hq => by simp [Array.getElem?_setIfInBounds, Ne.symm hq]
  obtain ⟨t, a1, b1⟩ := gk _ _ ls (hV' H _ hV0 (show (H.setIfInBounds a _)[a]? = some _ by simp [Array.getElem?_setIfInBounds, hl2]) oq) ⟨by simp; exact hS.1, fun q g1 g2 => by
      rw [oq q (fun e => g2 (by rw [e]; exact hA))]
      exact hS.2.1 q g1 g2, fun q hq => by
      rcases List.mem_append.mp hq with h | h
      · exact hS.2.2 q h
      · obtain ⟨z, -, hz⟩ := List.mem_map.mp h
        rw [← hz]
        exact hA⟩ hl _ hheap X'
  exact ⟨t, step t a1, b1⟩
theorem k_mmax (C0 : CallFix p m c cc nL s args TT own) {index : Nat} {x y : Int32} (d : decode cc pc = .ok (.invokestatic index, 3)) (hlink : Cond.methodLink own index Lib.Math.max.name ∈ TT) (hstat : Cond.static Lib.Math.max.name ∈ TT) (hini : Cond.initialized "java/lang/Math" ∈ TT) (hcode : Cond.code Lib.Math.max.name Lib.Math.max.code 2 (some .int) ∈ TT) (hfr : 1 ≤ R.frames) (hlo : (rest.map fun v => v.category).sum + 13 ≤ R.locals) (hc : k ≤ R.cells) (hs : n ≤ R.slots) (r : Int32) (hr0 : (if x < y then y else x) = r)
    (g : kG p l e R s m args below meth c Q A nL V k n (pc + 3) lv (.int r :: rest)) : kG p l e R s m args below meth c Q A nL V k n pc lv (.int y :: .int x :: rest) := fun H locs ls hV hS hl =>
  va_mmax C0.1 C0.2.1 (by rw [C0.2.2.1]; exact hl.1.symm) C0.2.2.2.1 (C0.2.2.2.2 _ hlink) (C0.2.2.2.2 _ hstat) (C0.2.2.2.2 _ hini) (C0.2.2.2.2 _ hcode) hfr hlo hc hs d (by rw [hr0]; exact g H locs ls hV hS hl)
theorem k_mmin (C0 : CallFix p m c cc nL s args TT own) {index : Nat} {x y : Int32} (d : decode cc pc = .ok (.invokestatic index, 3)) (hlink : Cond.methodLink own index Lib.Math.min.name ∈ TT) (hstat : Cond.static Lib.Math.min.name ∈ TT) (hini : Cond.initialized "java/lang/Math" ∈ TT) (hcode : Cond.code Lib.Math.min.name Lib.Math.min.code 2 (some .int) ∈ TT) (hfr : 1 ≤ R.frames) (hlo : (rest.map fun v => v.category).sum + 13 ≤ R.locals) (hc : k ≤ R.cells) (hs : n ≤ R.slots) (r : Int32) (hr0 : (if y < x then y else x) = r)
    (g : kG p l e R s m args below meth c Q A nL V k n (pc + 3) lv (.int r :: rest)) : kG p l e R s m args below meth c Q A nL V k n pc lv (.int y :: .int x :: rest) := fun H locs ls hV hS hl =>
  va_mmin C0.1 C0.2.1 (by rw [C0.2.2.1]; exact hl.1.symm) C0.2.2.2.1 (C0.2.2.2.2 _ hlink) (C0.2.2.2.2 _ hstat) (C0.2.2.2.2 _ hini) (C0.2.2.2.2 _ hcode) hfr hlo hc hs d (by rw [hr0]; exact g H locs ls hV hS hl)
end KCQ
theorem nI_half (n : Nat) (h : n < 2 ^ 31) : (nI n >>> ((1 : Int32) &&& 31)) = nI (n / 2) := by
  have e1 : ((1 : Int32) &&& 31) = 1 := by decide
  rw [e1]
  apply Int32.toBitVec_inj.mp
  rw [Int32.toBitVec_shiftRight]
  apply BitVec.eq_of_toInt_eq
  show (BitVec.sshiftRight (nI n).toBitVec 1).toInt = _
  rw [BitVec.toInt_sshiftRight]
  show (nI n).toInt >>> 1 = (nI (n / 2)).toInt
  have a : (nI n).toInt = (n : Int) := by first | exact nI_toInt h | exact nI_toInt (by omega)
  have b : (nI (n / 2)).toInt = ((n / 2 : Nat) : Int) := by first | exact nI_toInt (by omega) | exact nI_toInt (by omega)
  rw [a, b, Int.shiftRight_eq_div_pow]
  simp
theorem nI_s1 (n : Nat) : nI n + 1 = nI (n + 1) := by
  apply Int32.toBitVec_inj.mp
  show BitVec.ofNat 32 n + 1#32 = BitVec.ofNat 32 (n + 1)
  rw [BitVec.ofNat_add]
theorem nI_ad (a b : Nat) : nI a + nI b = nI (a + b) := by
  apply Int32.toBitVec_inj.mp
  show BitVec.ofNat 32 a + BitVec.ofNat 32 b = BitVec.ofNat 32 (a + b)
  rw [BitVec.ofNat_add]
section KLC
variable {p : Program} {l : Launch} {e : Env} {R : Room} {s : State} {m : MethodId} {args : Array Value} {below : List Frame} {meth : Method} {c : Code} {Q : State → Prop}
variable {A : Nat → Prop} {n nL pc kk0 : Nat} {lv : List (Nat × Value)} {st rest : List Value} {cc : ByteArray} {own : String} {D : va_G} {Y : Nat → Nat} {sg : Sg} {al : Nat → Nat → Nat} {X : va_W}
/-- the cells of a list's elements -/
theorem WX.elc (K0 : PK D Y A s) (L : Nat) (hL : L < 4) {H : Heap} (h : WX D Y A sg al X H) (i : Nat) (hi : i < sN sg (2 + L)) : ∃ r : vw_C, vwCl[2 + L]? = some r ∧ (r.1, "java/lang/Object") ∈ kCa ∧ ∃ cellV : Cell, H[al (2 + L) i]? = some cellV ∧ cellV.vm.isStatics = false ∧ s.vm.findClass r.1 = some cellV.cls := by
  have hle : live sg (2 + L) i := by
    rcases (show L = 0 ∨ L = 1 ∨ L = 2 ∨ L = 3 by omega) with rfl | rfl | rfl | rfl <;> exact hi
  have hc := (h.1 _ _ hle).1
  rcases (show L = 0 ∨ L = 1 ∨ L = 2 ∨ L = 3 by omega) with rfl | rfl | rfl | rfl
  · exact ⟨_, rfl, by decide, k_recv K0 rfl hc⟩
  · exact ⟨_, rfl, by decide, k_recv K0 rfl hc⟩
  · exact ⟨_, rfl, by decide, k_recv K0 rfl hc⟩
  · exact ⟨_, rfl, by decide, k_recv K0 rfl hc⟩
theorem l_cls (L : Nat) (hL : L < 4) : ∃ C : String, (C, "java/lang/Object") ∈ kCa ∧ ∀ (D : va_G) (Y : Nat → Nat) (A : Nat → Prop) (s : State) (_ : PK D Y A s) (sg : Sg) (al : Nat → Nat → Nat) (X : va_W) (H : Heap), WX D Y A sg al X H → ∀ i, i < sN sg (2 + L) → ∃ cellV : Cell, H[al (2 + L) i]? = some cellV ∧ cellV.vm.isStatics = false ∧ s.vm.findClass C = some cellV.cls := by
  rcases (show L = 0 ∨ L = 1 ∨ L = 2 ∨ L = 3 by omega) with rfl | rfl | rfl | rfl
  · exact ⟨RX1, by decide, fun D Y A s K0 sg al X H h i hi => k_recv K0 (ci := 2) rfl (h.1 2 i hi).1⟩
  · exact ⟨RX2, by decide, fun D Y A s K0 sg al X H h i hi => k_recv K0 (ci := 3) rfl (h.1 3 i hi).1⟩
  · exact ⟨RX3, by decide, fun D Y A s K0 sg al X H h i hi => k_recv K0 (ci := 4) rfl (h.1 4 i hi).1⟩
  · exact ⟨RX4, by decide, fun D Y A s K0 sg al X H h i hi => k_recv K0 (ci := 5) rfl (h.1 5 i hi).1⟩
theorem cpy_el (ad : Nat → Nat) {F N : Nat} (h : F ≤ N) : va_cpy (lEl F ad) (fun _ => none) 0 0 N = lEl F ad := by
  funext j
  unfold va_cpy lEl
  by_cases h1 : j < N
  · rw [if_pos ⟨Nat.zero_le _, by omega⟩]
    simp
  · rw [if_neg (fun z => h1 (by omega)), if_neg (by omega)]
/-- a list's places are copied into a new array -/
theorem l_copy (C0 : CallFix p m c cc nL s args TT own) (K0 : PK D Y A s) (L : Nat) (hL : L < 4) {q N index : Nat} (h1 : 0 < sC sg L) (h2 : sF sg L ≤ sC sg L) (h3 : sC sg L ≤ N) (h4 : sC sg L < 2 ^ 31) (h5 : sF sg L ≤ sN sg (2 + L)) (d : decode cc pc = .ok (.invokestatic index, 3)) (hlink : Cond.methodLink own index arraycopyName ∈ TT) (hnat : Cond.native arraycopyName ∈ TT) (hstat : Cond.static arraycopyName ∈ TT) (hini : Cond.initialized "java/lang/System" ∈ TT) (hfr : 1 ≤ R.frames) (hlo : (rest.map fun v => v.category).sum + (nativeFrameWords "java/lang/System" "arraycopy" 5 + 11) ≤ R.locals)
    (g : kG p l e R s m args below meth c Q A nL (WX D Y A sg al (X ++ [(q, .inl (Y 3, N, .inr (.inr (.inr (.inr (lEl (sF sg L) (al (2 + L))))))))])) kk0 n (pc + 3) lv rest) : kG p l e R s m args below meth c Q A nL (WX D Y A sg al (X ++ [(q, .inl (Y 3, N, .inr (.inr (.inr (.inr (fun _ => none))))))])) kk0 n pc lv (.int (nI (sC sg L)) :: .int 0 :: .ref q :: .int 0 :: .ref (al 10 L) :: rest) := by
  obtain ⟨C, hca, hcl⟩ := l_cls L hL
  have hx : (X ++ [(q, Sum.inl (Y 3, N, Sum.inr (Sum.inr (Sum.inr (Sum.inr (fun _ => none))))))] : va_W)[X.length]? = some (q, .inl (Y 3, N, .inr (.inr (.inr (.inr (fun _ => none)))))) := by rw [List.getElem?_append_right (Nat.le_refl _), Nat.sub_self]; rfl
  refine k_copyq (f := lEl (sF sg L) (al (2 + L))) (g := fun _ => none) (n0 := sC sg L) (n1 := N) (C := C) C0 K0 d hlink hnat hstat hini (by decide) (by decide) (nI_pos h4) (by rw [nI_clamp h4]; show 0 + _ ≤ _; omega) (by rw [nI_clamp h4]; show 0 + _ ≤ _; omega) hca hfr hlo (fun H hV => ⟨(hV.1 10 L ⟨hL, h1⟩).1, (hV.2.2.2.1 _ _ hx).1, (hV.2.2.2.1 _ _ hx).2.1, fun i hi y hy => ?_⟩) (fun H H' hV h oq => ?_) g
  · have hy : lEl (sF sg L) (al (2 + L)) (0 + i) = some y := hy
    rw [Nat.zero_add] at hy
    by_cases hf : i < sF sg L
    · have e1 : lEl (sF sg L) (al (2 + L)) i = some (al (2 + L) i) := if_pos hf
      cases e1.symm.trans hy
      exact hcl D Y A s K0 sg al _ H hV i (by omega)
    · have e1 : lEl (sF sg L) (al (2 + L)) i = none := if_neg hf
      cases e1.symm.trans hy
  · have h6 : va_at D vwCl (q, .inl (Y 3, N, .inr (.inr (.inr (.inr (va_cpy (lEl (sF sg L) (al (2 + L))) (fun _ => none) 0 0 (nI (sC sg L)).toNatClampNeg)))))) H' := h
    rw [nI_clamp h4, cpy_el _ h2] at h6
    have h7 := hV.putX X.length hx h6 oq
    rwa [List.set_append_right _ _ (Nat.le_refl _), Nat.sub_self] at h7
theorem lEl_0 (ad : Nat → Nat) : (fun _ => none) = lEl 0 ad := by
  funext j
  exact (if_neg (Nat.not_lt_zero j)).symm
theorem l_alenE (C0 : CallFix p m c cc nL s args TT own) (K0 : PK D Y A s) {V : Heap → Prop} {a : Nat} (ha : a = Y 4) (d : decode cc pc = .ok (.arraylength, 1)) (g : kG p l e R s m args below meth c Q A nL V kk0 n (pc + 1) lv (.int 0 :: st)) : kG p l e R s m args below meth c Q A nL V kk0 n pc lv (.ref a :: st) := ha ▸ l_alenT C0 K0 d g
theorem l_aastE (C0 : CallFix p m c cc nL s args TT own) (K0 : PK D Y A s) (L : Nat) (hL : L < 4) {a v : Nat} {i : Int32} (ha : a = al 10 L) (hv : v = al (2 + L) (sF sg L)) (hi : i = nI (sF sg L)) (hc : sF sg L < sC sg L) (hb : sC sg L < 2 ^ 31) (hf : sF sg L < sN sg (2 + L)) (d : decode cc pc = .ok (.aastore, 1)) (g : kG p l e R s m args below meth c Q A nL (WX D Y A (sP sg 23 L 0 (sF sg L + 1)) al X) kk0 n (pc + 1) lv st) : kG p l e R s m args below meth c Q A nL (WX D Y A sg al X) kk0 n pc lv (.ref v :: .int i :: .ref a :: st) := by
  subst ha hv hi
  exact l_aast C0 K0 L hL hc hb hf d g
end KLC
theorem newLen_ok (c : Nat) (h10 : 10 ≤ c) (hb : c ≤ 60000) : (1 : Int32) < nI (c / 2) ∧ (0 : Int32) < nI c + nI (c / 2) ∧ nI c + nI (c / 2) ≤ (2147483639 : Int32) := by
  refine ⟨(nI_ltI (a := 1) (by omega) (by omega)).mpr (by omega), ?_, ?_⟩
  · rw [nI_add]; exact (nI_ltI (a := 0) (by omega) (by omega)).mpr (by omega)
  · rw [nI_add]; exact (nI_leI (b := 2147483639) (by omega) (by omega)).mpr (by omega)
theorem i32_as (x y : Int32) : x + y - x = y := by
  rw [Int32.add_comm, Int32.add_sub_cancel]
def capN (sg : Sg) (L : Nat) : Nat := if sF sg L < sC sg L then sC sg L else if sC sg L = 0 then 10 else sC sg L + sC sg L / 2
def c_add (sg : Sg) (L : Nat) : Sg := sP (sP (sP (sI sg 9 L 0 (sg.1 9 L 0 + 1)) 22 L 0 (capN sg L)) 23 L 0 (sF sg L + 1)) 21 L 0 (sF sg L + 1)
theorem sP_same (sg : Sg) (k i j : Nat) : sP sg k i j (sg.2 k i j) = sg := by
  have : up3 sg.2 k i j (sg.2 k i j) = sg.2 := by
    funext a b c
    by_cases h : a = k ∧ b = i ∧ c = j
    · obtain ⟨rfl, rfl, rfl⟩ := h; exact up3_at
    · exact if_neg h
  show (sg.1, up3 sg.2 k i j (sg.2 k i j)) = sg
  rw [this]
theorem aU_same (al : Nat → Nat → Nat) (k i : Nat) : aU al k i (al k i) = al := by
  funext a b
  by_cases h : a = k ∧ b = i
  · obtain ⟨rfl, rfl⟩ := h; exact aU_at
  · exact aU_ne h
theorem c_add_r {sg : Sg} {L : Nat} (h : sF sg L < sC sg L) : sP (sP (sI sg 9 L 0 (sg.1 9 L 0 + 1)) 23 L 0 (sF sg L + 1)) 21 L 0 (sF sg L + 1) = c_add sg L ∧ capN sg L = sC sg L := by
  have e : capN sg L = sC sg L := if_pos h
  refine ⟨?_, e⟩
  unfold c_add
  rw [e]
  exact congrArg (fun z => sP (sP z 23 L 0 (sF sg L + 1)) 21 L 0 (sF sg L + 1)) (sP_same (sI sg 9 L 0 (sg.1 9 L 0 + 1)) 22 L 0).symm
theorem c_add_f {sg : Sg} {L : Nat} (h : sF sg L = sC sg L) (h0 : 10 ≤ sC sg L) : capN sg L = sC sg L + sC sg L / 2 := (if_neg (by omega)).trans (if_neg (by omega))
theorem c_add_0 {sg : Sg} {L : Nat} (h0 : sC sg L = 0) : capN sg L = 10 := (if_neg (by omega)).trans (if_pos h0)
theorem gkJ15_105 : GoodIn TT (va_wsS RJ15 105 yJ3_checkIndex_8e157 (Cond.code yJ3_checkIndex_8e157 cJ3_checkIndex_8e157 3 (some .int) :: TT)) := goodTS (tB 87 rfl rfl) (tB 88 rfl rfl) (tA 12 rfl rfl) (goodTT (tB 89 rfl rfl))
theorem hyJ3_checkIndex_8e157 : yJ3_checkIndex_8e157.cls ≠ "java/lang/invoke/MethodHandle" ∧ yJ3_checkIndex_8e157.cls ≠ "java/lang/invoke/VarHandle" ∧ (parseMethodDescriptor yJ3_checkIndex_8e157.desc).map (fun d => d.parameters.length) = some 3 := by decide +kernel
theorem gkJx4a65c_118 : GoodIn TT (va_wsS RJx4a65c 118 yJ15_checkIndex_7cf53 (Cond.code yJ15_checkIndex_7cf53 cJ15_checkIndex_7cf53 2 (some .int) :: TT)) := goodTS (tB 84 rfl rfl) (tB 85 rfl rfl) (tA 11 rfl rfl) (goodTT (tB 86 rfl rfl))
theorem hyJ15_checkIndex_7cf53 : yJ15_checkIndex_7cf53.cls ≠ "java/lang/invoke/MethodHandle" ∧ yJ15_checkIndex_7cf53.cls ≠ "java/lang/invoke/VarHandle" ∧ (parseMethodDescriptor yJ15_checkIndex_7cf53.desc).map (fun d => d.parameters.length) = some 2 := by decide +kernel
theorem gkJx4a65c_123 : GoodIn TT (wsV RJx4a65c 123 yJx4a65c_elementData_915e3.cls yJx4a65c_elementData_915e3 (Cond.code yJx4a65c_elementData_915e3 cJx4a65c_elementData_915e3 2 (some (.object "java/lang/Object")) :: TT)) := goodTV (tB 90 rfl rfl) (tB 91 rfl rfl) (tB 92 rfl rfl) (tA 4 rfl rfl) (tB 93 rfl rfl)
theorem hyJx4a65c_elementData_915e3 : yJx4a65c_elementData_915e3.cls ≠ "java/lang/invoke/MethodHandle" ∧ yJx4a65c_elementData_915e3.cls ≠ "java/lang/invoke/VarHandle" ∧ (parseMethodDescriptor yJx4a65c_elementData_915e3.desc).map (fun d => d.parameters.length) = some 1 := by decide +kernel
theorem gkJ7_300 : GoodIn TT (va_wsS RJ7 300 yJ7_copyOf_6403c (Cond.code yJ7_copyOf_6403c cJ7_copyOf_6403c 4 (some (.array (.object "java/lang/Object"))) :: TT)) := goodTS (tB 42 rfl rfl) (tB 43 rfl rfl) (tA 17 rfl rfl) (goodTT (tB 44 rfl rfl))
theorem hyJ7_copyOf_6403c : yJ7_copyOf_6403c.cls ≠ "java/lang/invoke/MethodHandle" ∧ yJ7_copyOf_6403c.cls ≠ "java/lang/invoke/VarHandle" ∧ (parseMethodDescriptor yJ7_copyOf_6403c.desc).map (fun d => d.parameters.length) = some 3 := by decide +kernel
theorem gkJx4a65c_73 : GoodIn TT (va_wsS RJx4a65c 73 yJ8_newLength_cabcc (Cond.code yJ8_newLength_cabcc cJ8_newLength_cabcc 4 (some .int) :: TT)) := goodTS (tB 15 rfl rfl) (tB 16 rfl rfl) (tA 15 rfl rfl) (goodTT (tB 17 rfl rfl))
theorem hyJ8_newLength_cabcc : yJ8_newLength_cabcc.cls ≠ "java/lang/invoke/MethodHandle" ∧ yJ8_newLength_cabcc.cls ≠ "java/lang/invoke/VarHandle" ∧ (parseMethodDescriptor yJ8_newLength_cabcc.desc).map (fun d => d.parameters.length) = some 3 := by decide +kernel
theorem gkJx4a65c_66 : GoodIn TT (va_wsS RJx4a65c 66 yJ7_copyOf_1904c (Cond.code yJ7_copyOf_1904c cJ7_copyOf_1904c 2 (some (.array (.object "java/lang/Object"))) :: TT)) := goodTS (tB 25 rfl rfl) (tB 26 rfl rfl) (tA 17 rfl rfl) (goodTT (tB 27 rfl rfl))
theorem hyJ7_copyOf_1904c : yJ7_copyOf_1904c.cls ≠ "java/lang/invoke/MethodHandle" ∧ yJ7_copyOf_1904c.cls ≠ "java/lang/invoke/VarHandle" ∧ (parseMethodDescriptor yJ7_copyOf_1904c.desc).map (fun d => d.parameters.length) = some 2 := by decide +kernel
theorem gkJx4a65c_69 : GoodIn TT (wsV RJx4a65c 69 yJx4a65c_grow_92f84.cls yJx4a65c_grow_92f84 (Cond.code yJx4a65c_grow_92f84 cJx4a65c_grow_92f84 4 (some (.array (.object "java/lang/Object"))) :: TT)) := goodTV (tB 11 rfl rfl) (tB 13 rfl rfl) (tP 4 rfl) (tA 4 rfl rfl) (tB 14 rfl rfl)
theorem hyJx4a65c_grow_92f84 : yJx4a65c_grow_92f84.cls ≠ "java/lang/invoke/MethodHandle" ∧ yJx4a65c_grow_92f84.cls ≠ "java/lang/invoke/VarHandle" ∧ (parseMethodDescriptor yJx4a65c_grow_92f84.desc).map (fun d => d.parameters.length) = some 1 := by decide +kernel
theorem gkJx4a65c_129 : GoodIn TT (wsV RJx4a65c 129 yJx4a65c_grow_d5877.cls yJx4a65c_grow_d5877 (Cond.code yJx4a65c_grow_d5877 cJx4a65c_grow_d5877 1 (some (.array (.object "java/lang/Object"))) :: TT)) := goodTV (tB 7 rfl rfl) (tB 9 rfl rfl) (tP 3 rfl) (tA 4 rfl rfl) (tB 10 rfl rfl)
theorem hyJx4a65c_grow_d5877 : yJx4a65c_grow_d5877.cls ≠ "java/lang/invoke/MethodHandle" ∧ yJx4a65c_grow_d5877.cls ≠ "java/lang/invoke/VarHandle" ∧ (parseMethodDescriptor yJx4a65c_grow_d5877.desc).map (fun d => d.parameters.length) = some 0 := by decide +kernel
theorem gkJx4a65c_131 : GoodIn TT (wsV RJx4a65c 131 yJx4a65c_add_72be8.cls yJx4a65c_add_72be8 (Cond.code yJx4a65c_add_72be8 cJx4a65c_add_72be8 4 none :: TT)) := goodTV (tB 3 rfl rfl) (tB 5 rfl rfl) (tP 2 rfl) (tA 4 rfl rfl) (tB 6 rfl rfl)
theorem hyJx4a65c_add_72be8 : yJx4a65c_add_72be8.cls ≠ "java/lang/invoke/MethodHandle" ∧ yJx4a65c_add_72be8.cls ≠ "java/lang/invoke/VarHandle" ∧ (parseMethodDescriptor yJx4a65c_add_72be8.desc).map (fun d => d.parameters.length) = some 3 := by decide +kernel
set_option maxRecDepth 100000 in
set_option maxHeartbeats 4000000 in
theorem cl_size (l : Launch) (D : va_G) (Y : Nat → Nat) (A : Nat → Prop) (sg : Sg) (al : Nat → Nat → Nat) (X : va_W) (L : Nat) (hL : L < 4)  : CT l yJx4a65c_size_8abf5 (Cond.code yJx4a65c_size_8abf5 cJx4a65c_size_8abf5 1 (some .int)) 0 0 D Y A [.ref (al 9 L)] (WX D Y A sg al X) (fun _ : Unit => some (.int (nI (sg.2 21 L 0)))) (fun _ : Unit => WX D Y A sg al X) noX 0 0 := by
  refine CT.of (by decide) (Nat.le_of_ble_eq_true rfl) ?_
  intro p_ e_ s_ m_ below_ meth_ c_ C0 K0 hr hlk htab hnm_
  refine k_aload_n C0 dJx4a65c_size_8abf5_0 0 rfl ?_
  refine c_get C0 K0 9 L hL rfl inJx4a65c rfl 2 (.int (nI (sg.2 21 L 0))) (by decide) dJx4a65c_size_8abf5_1 (tA 47 rfl rfl) (fun _ h => h) rfl ?_
  exact k_iret C0 dJx4a65c_size_8abf5_4 hr hlk (Nat.le_of_ble_eq_true rfl) (Nat.le_of_ble_eq_true rfl) () rfl (fun H h => h)
set_option maxRecDepth 100000 in
set_option maxHeartbeats 4000000 in
theorem cj_check3 (l : Launch) (D : va_G) (Y : Nat → Nat) (A : Nat → Prop) (V : Heap → Prop) (x y : Int32) (h0 : ¬ x < 0) (h : x < y) : CT l yJ3_checkIndex_8e157 (Cond.code yJ3_checkIndex_8e157 cJ3_checkIndex_8e157 3 (some .int)) 0 0 D Y A [.int x, .int y, .null] V (fun _ : Unit => some (.int x)) (fun _ : Unit => V) noX 0 0 := by
  refine CT.of (by decide) (Nat.le_of_ble_eq_true rfl) ?_
  intro p_ e_ s_ m_ below_ meth_ c_ C0 K0 hr hlk htab hnm_
  refine k_iload_n C0 dJ3_checkIndex_8e157_0 0 rfl ?_
  refine k_if_lt C0 9 dJ3_checkIndex_8e157_1 (by decide) (fun zz => absurd zz h0) (fun _ => ?_)
  refine k_iload_n C0 dJ3_checkIndex_8e157_4 0 rfl ?_
  refine k_iload_n C0 dJ3_checkIndex_8e157_5 1 rfl ?_
  refine k_icmp_lt C0 16 dJ3_checkIndex_8e157_6 (by decide) (fun _ => ?_) (fun zz => absurd h zz)
  refine k_iload_n C0 dJ3_checkIndex_8e157_16 0 rfl ?_
  exact k_iret C0 dJ3_checkIndex_8e157_17 hr hlk (Nat.le_of_ble_eq_true rfl) (Nat.le_of_ble_eq_true rfl) () rfl (fun H h => h)
set_option maxRecDepth 100000 in
set_option maxHeartbeats 4000000 in
theorem cj_check (l : Launch) (D : va_G) (Y : Nat → Nat) (A : Nat → Prop) (V : Heap → Prop) (x y : Int32) (h0 : ¬ x < 0) (h : x < y) : CT l yJ15_checkIndex_7cf53 (Cond.code yJ15_checkIndex_7cf53 cJ15_checkIndex_7cf53 2 (some .int)) 1 22 D Y A [.int x, .int y] V (fun _ : Unit => some (.int x)) (fun _ : Unit => V) noX 0 0 := by
  refine CT.of (by decide) (Nat.le_of_ble_eq_true rfl) ?_
  intro p_ e_ s_ m_ below_ meth_ c_ C0 K0 hr hlk htab hnm_
  refine k_iload_n C0 dJ15_checkIndex_7cf53_0 0 rfl ?_
  refine k_iload_n C0 dJ15_checkIndex_7cf53_1 1 rfl ?_
  refine k_null C0 dJ15_checkIndex_7cf53_2 ?_
  refine k_callS C0 K0 dJ15_checkIndex_7cf53_3 (cj_check3 l D Y A V x y h0 h) gkJ15_105 hyJ3_checkIndex_8e157 rfl (by exact Nat.le_of_ble_eq_true rfl) ⟨Nat.le_of_ble_eq_true rfl, Nat.le_of_ble_eq_true rfl⟩ ⟨Nat.le_of_ble_eq_true rfl, Nat.le_of_ble_eq_true rfl⟩ (fun E => kX_no E) (fun _ => ?_)
  exact k_iret C0 dJ15_checkIndex_7cf53_6 hr hlk (Nat.le_of_ble_eq_true rfl) (Nat.le_of_ble_eq_true rfl) () rfl (fun H h => h)
set_option maxRecDepth 100000 in
set_option maxHeartbeats 4000000 in
theorem cj_newLen (l : Launch) (D : va_G) (Y : Nat → Nat) (A : Nat → Prop) (V : Heap → Prop) (x y z : Int32) (h : y < z) (h1 : 0 < x + z) (h2 : x + z ≤ 2147483639) : CT l yJ8_newLength_cabcc (Cond.code yJ8_newLength_cabcc cJ8_newLength_cabcc 4 (some .int)) 1 14 D Y A [.int x, .int y, .int z] V (fun _ : Unit => some (.int (x + z))) (fun _ : Unit => V) noX 0 0 := by
  refine CT.of (by decide) (Nat.le_of_ble_eq_true rfl) ?_
  intro p_ e_ s_ m_ below_ meth_ c_ C0 K0 hr hlk htab hnm_
  refine k_iload_n C0 dJ8_newLength_cabcc_0 0 rfl ?_
  refine k_iload_n C0 dJ8_newLength_cabcc_1 1 rfl ?_
  refine k_iload_n C0 dJ8_newLength_cabcc_2 2 rfl ?_
  refine k_mmax C0 dJ8_newLength_cabcc_3 (tB 18 rfl rfl) (tB 19 rfl rfl) (tA 16 rfl rfl) (tB 20 rfl rfl) (Nat.le_of_ble_eq_true rfl) (Nat.le_of_ble_eq_true rfl) (Nat.le_of_ble_eq_true rfl) (Nat.le_of_ble_eq_true rfl) z (if_pos h) ?_
  refine k_iadd C0 dJ8_newLength_cabcc_6 ?_
  refine k_istore_n C0 [(3, _), (0, _), (1, _), (2, _)] dJ8_newLength_cabcc_7 (by decide) rfl ?_
  refine k_iconst C0 0 dJ8_newLength_cabcc_8 (by decide) ?_
  refine k_iload_n C0 dJ8_newLength_cabcc_9 0 rfl ?_
  refine k_icmp_ge C0 21 dJ8_newLength_cabcc_10 (by decide) (fun zz => absurd zz (Int32.not_le.mpr h1)) (fun _ => ?_)
  refine k_iload_n C0 dJ8_newLength_cabcc_13 0 rfl ?_
  refine k_ldc C0 (v := 2147483639) dJ8_newLength_cabcc_14 (tB 21 rfl rfl) ?_
  refine k_icmp_gt C0 21 dJ8_newLength_cabcc_16 (by decide) (fun zz => absurd zz (Int32.not_lt.mpr h2)) (fun _ => ?_)
  refine k_iload_n C0 dJ8_newLength_cabcc_19 0 rfl ?_
  exact k_iret C0 dJ8_newLength_cabcc_20 hr hlk (Nat.le_of_ble_eq_true rfl) (Nat.le_of_ble_eq_true rfl) () rfl (fun H h => h)
set_option maxRecDepth 100000 in
set_option maxHeartbeats 4000000 in
theorem cl_el (l : Launch) (D : va_G) (Y : Nat → Nat) (A : Nat → Prop) (sg : Sg) (al : Nat → Nat → Nat) (X : va_W) (L : Nat) (hL : L < 4) (i : Nat) (hi : i < sF sg L) (hc : sF sg L ≤ sC sg L) (hb : sC sg L < 2 ^ 31) : CT l yJx4a65c_elementData_915e3 (Cond.code yJx4a65c_elementData_915e3 cJx4a65c_elementData_915e3 2 (some (.object "java/lang/Object"))) 0 0 D Y A [.ref (al 9 L), .int (nI i)] (WX D Y A sg al X) (fun _ : Unit => some (.ref (al (2 + L) i))) (fun _ : Unit => WX D Y A sg al X) noX 0 0 := by
  refine CT.of (by decide) (Nat.le_of_ble_eq_true rfl) ?_
  intro p_ e_ s_ m_ below_ meth_ c_ C0 K0 hr hlk htab hnm_
  refine k_aload_n C0 dJx4a65c_elementData_915e3_0 0 rfl ?_
  refine c_get C0 K0 9 L hL rfl inJx4a65c rfl 1 (.ref (al 10 L)) (by decide) dJx4a65c_elementData_915e3_1 (tA 46 rfl rfl) (fun _ h => h) rfl ?_
  refine k_iload_n C0 dJx4a65c_elementData_915e3_4 1 rfl ?_
  refine c_aald C0 K0 10 L ⟨hL, (show 0 < sC sg L by omega)⟩ (v := al (2 + L) i) rfl 3 rfl (vp_in_nI (show i < sC sg L by omega) (by omega)) dJx4a65c_elementData_915e3_5 (by rw [nI_clamp (by omega)]; exact if_pos hi) ?_
  exact k_aret C0 dJx4a65c_elementData_915e3_6 hr (Or.inl ⟨_, rfl⟩) hlk (Nat.le_of_ble_eq_true rfl) (Nat.le_of_ble_eq_true rfl) () rfl (fun H h => h)
set_option maxRecDepth 100000 in
set_option maxHeartbeats 4000000 in
theorem cl_get (l : Launch) (D : va_G) (Y : Nat → Nat) (A : Nat → Prop) (sg : Sg) (al : Nat → Nat → Nat) (X : va_W) (L : Nat) (hL : L < 4) (i : Nat) (hz : i < sZ sg L) (hi : i < sF sg L) (hc : sF sg L ≤ sC sg L) (hb : sC sg L < 2 ^ 31) (hzb : sZ sg L < 2 ^ 31) : CT l yJx4a65c_get_915e3 (Cond.code yJx4a65c_get_915e3 cJx4a65c_get_915e3 2 (some (.object "java/lang/Object"))) 2 43 D Y A [.ref (al 9 L), .int (nI i)] (WX D Y A sg al X) (fun _ : Unit => some (.ref (al (2 + L) i))) (fun _ : Unit => WX D Y A sg al X) noX 0 0 := by
  refine CT.of (by decide) (Nat.le_of_ble_eq_true rfl) ?_
  intro p_ e_ s_ m_ below_ meth_ c_ C0 K0 hr hlk htab hnm_
  refine k_iload_n C0 dJx4a65c_get_915e3_0 1 rfl ?_
  refine k_aload_n C0 dJx4a65c_get_915e3_1 0 rfl ?_
  refine c_get C0 K0 9 L hL rfl inJx4a65c rfl 2 (.int (nI (sg.2 21 L 0))) (by decide) dJx4a65c_get_915e3_2 (tA 47 rfl rfl) (fun _ h => h) rfl ?_
  refine k_callS C0 K0 dJx4a65c_get_915e3_5 (cj_check l D Y A (WX D Y A sg al X) (nI i) (nI (sZ sg L)) (nI_pos (by omega)) ((nI_ltI (by omega) (by omega)).mpr hz)) gkJx4a65c_118 hyJ15_checkIndex_7cf53 rfl (by exact Nat.le_of_ble_eq_true rfl) ⟨Nat.le_of_ble_eq_true rfl, Nat.le_of_ble_eq_true rfl⟩ ⟨Nat.le_of_ble_eq_true rfl, Nat.le_of_ble_eq_true rfl⟩ (fun E => kX_no E) (fun _ => ?_)
  refine k_pop C0 dJx4a65c_get_915e3_8 rfl ?_
  refine k_aload_n C0 dJx4a65c_get_915e3_9 0 rfl ?_
  refine k_iload_n C0 dJx4a65c_get_915e3_10 1 rfl ?_
  refine k_callV C0 K0 dJx4a65c_get_915e3_11 (cl_el l D Y A sg al X L hL i hi hc hb) gkJx4a65c_123 hyJx4a65c_elementData_915e3 (c_recv (sg := sg) (al := al) K0 9 L hL rfl rfl) rfl (by exact Nat.le_of_ble_eq_true rfl) ⟨Nat.le_of_ble_eq_true rfl, Nat.le_of_ble_eq_true rfl⟩ ⟨Nat.le_of_ble_eq_true rfl, Nat.le_of_ble_eq_true rfl⟩ (fun E => kX_no E) (fun _ => ?_)
  exact k_aret C0 dJx4a65c_get_915e3_14 hr (Or.inl ⟨_, rfl⟩) hlk (Nat.le_of_ble_eq_true rfl) (Nat.le_of_ble_eq_true rfl) () rfl (fun H h => h)
set_option maxRecDepth 100000 in
set_option maxHeartbeats 4000000 in
theorem cj_copy3 (l : Launch) (D : va_G) (Y : Nat → Nat) (A : Nat → Prop) (sg : Sg) (al : Nat → Nat → Nat) (X : va_W) (L : Nat) (hL : L < 4) (N : Nat) (h1 : 0 < sC sg L) (h2 : sF sg L ≤ sC sg L) (h3 : sC sg L ≤ N) (hN : N ≤ 100000) (h5 : sF sg L ≤ sN sg (2 + L)) : CT l yJ7_copyOf_6403c (Cond.code yJ7_copyOf_6403c cJ7_copyOf_6403c 4 (some (.array (.object "java/lang/Object")))) 3 80 D Y A [.ref (al 10 L), .int (nI N), .ref (Y 5)] (WX D Y A sg al X) (fun q : Nat => some (.ref q)) (fun q : Nat => WX D Y A sg al (X ++ [(q, .inl (Y 3, N, .inr (.inr (.inr (.inr (lEl (sF sg L) (al (2 + L))))))))])) noX 1 N := by
  refine CT.of (by decide) (Nat.le_of_ble_eq_true rfl) ?_
  intro p_ e_ s_ m_ below_ meth_ c_ C0 K0 hr hlk htab hnm_
  refine k_aload_n C0 dJ7_copyOf_6403c_0 2 rfl ?_
  refine k_ldcM C0 K0 dJ7_copyOf_6403c_1 (tB 45 rfl rfl) ?_
  refine k_acmp_ne C0 13 dJ7_copyOf_6403c_3 (by decide) (fun zz => absurd rfl zz) (fun _ => ?_)
  refine k_iload_n C0 dJ7_copyOf_6403c_6 1 rfl ?_
  refine x_newq C0 K0 N (tB 47 rfl rfl) K0.1.2.2.2.2.2.2.2.1 (t0 := 3) rfl (nI_pos (by omega)) (nI_clamp (by omega)) hN (Nat.le_of_eq (Nat.zero_add _)) (Nat.le_of_eq (Nat.zero_add _)) dJ7_copyOf_6403c_7 (fun q1 => ?_)
  refine k_goto C0 24 dJ7_copyOf_6403c_10 (by decide) ?_
  refine k_astore_n C0 [(3, _), (0, _), (1, _), (2, _)] dJ7_copyOf_6403c_24 (by decide) rfl ?_
  refine k_aload_n C0 dJ7_copyOf_6403c_25 1 rfl ?_
  refine k_iconst C0 0 dJ7_copyOf_6403c_26 (by decide) ?_
  refine k_aload_n C0 dJ7_copyOf_6403c_27 0 rfl ?_
  refine k_iconst C0 0 dJ7_copyOf_6403c_28 (by decide) ?_
  refine k_aload_n C0 dJ7_copyOf_6403c_29 1 rfl ?_
  refine c_alen C0 K0 10 L ⟨hL, h1⟩ rfl 3 rfl (nI (sg.2 22 L 0)) rfl dJ7_copyOf_6403c_30 ?_
  refine k_iload_n C0 dJ7_copyOf_6403c_31 2 rfl ?_
  refine k_mmin C0 dJ7_copyOf_6403c_32 (tB 48 rfl rfl) (tB 49 rfl rfl) (tA 16 rfl rfl) (tB 50 rfl rfl) (Nat.le_of_ble_eq_true rfl) (Nat.le_of_ble_eq_true rfl) (Nat.le_of_ble_eq_true rfl) (Nat.le_of_eq (Nat.zero_add _)) (nI (sC sg L)) (if_neg (nI_nlt h3 (by omega))) ?_
  refine l_copy C0 K0 L hL h1 h2 h3 (by omega) h5 dJ7_copyOf_6403c_35 (tB 51 rfl rfl) (tB 53 rfl rfl) (tB 52 rfl rfl) (tA 18 rfl rfl) (Nat.le_of_ble_eq_true rfl) (by show 0 + (nativeFrameWords "java/lang/System" "arraycopy" 5 + 11) ≤ 80; decide +kernel) ?_
  refine k_aload_n C0 dJ7_copyOf_6403c_38 0 rfl ?_
  exact k_aret C0 dJ7_copyOf_6403c_39 hr (Or.inr ⟨_, rfl⟩) hlk (Nat.le_of_eq (Nat.zero_add _)) (Nat.le_of_eq (Nat.zero_add _)) q1 rfl (fun H h => h)
set_option maxRecDepth 100000 in
set_option maxHeartbeats 4000000 in
theorem cj_copy2 (l : Launch) (D : va_G) (Y : Nat → Nat) (A : Nat → Prop) (sg : Sg) (al : Nat → Nat → Nat) (X : va_W) (L : Nat) (hL : L < 4) (N : Nat) (h1 : 0 < sC sg L) (h2 : sF sg L ≤ sC sg L) (h3 : sC sg L ≤ N) (hN : N ≤ 100000) (h5 : sF sg L ≤ sN sg (2 + L)) : CT l yJ7_copyOf_1904c (Cond.code yJ7_copyOf_1904c cJ7_copyOf_1904c 2 (some (.array (.object "java/lang/Object")))) 4 103 D Y A [.ref (al 10 L), .int (nI N)] (WX D Y A sg al X) (fun q : Nat => some (.ref q)) (fun q : Nat => WX D Y A sg al (X ++ [(q, .inl (Y 3, N, .inr (.inr (.inr (.inr (lEl (sF sg L) (al (2 + L))))))))])) noX 1 N := by
  refine CT.of (by decide) (Nat.le_of_ble_eq_true rfl) ?_
  intro p_ e_ s_ m_ below_ meth_ c_ C0 K0 hr hlk htab hnm_
  refine k_aload_n C0 dJ7_copyOf_1904c_0 0 rfl ?_
  refine k_iload_n C0 dJ7_copyOf_1904c_1 1 rfl ?_
  refine k_aload_n C0 dJ7_copyOf_1904c_2 0 rfl ?_
  refine l_getC C0 K0 L ⟨hL, h1⟩ dJ7_copyOf_1904c_3 (tB 28 rfl rfl) (tC 166 rfl rfl) (tB 29 rfl rfl) (tB 41 rfl rfl) (Nat.le_of_ble_eq_true rfl) (Nat.le_of_ble_eq_true rfl) ?_
  refine k_callS C0 K0 dJ7_copyOf_1904c_6 (cj_copy3 l D Y A sg al X L hL N h1 h2 h3 hN h5) gkJ7_300 hyJ7_copyOf_6403c rfl (by exact Nat.le_of_ble_eq_true rfl) ⟨Nat.le_of_ble_eq_true rfl, Nat.le_of_ble_eq_true rfl⟩ ⟨Nat.le_of_eq rfl, Nat.le_of_eq (Nat.zero_add _)⟩ (fun E => kX_no E) (fun q1 => ?_)
  exact k_aret C0 dJ7_copyOf_1904c_9 hr (Or.inr ⟨_, rfl⟩) hlk (Nat.le_of_eq (Nat.zero_add _)) (Nat.le_of_eq (Nat.zero_add _)) q1 rfl (fun H h => h)
set_option maxRecDepth 100000 in
set_option maxHeartbeats 4000000 in
theorem cl_growF (l : Launch) (D : va_G) (Y : Nat → Nat) (A : Nat → Prop) (sg : Sg) (al : Nat → Nat → Nat) (X : va_W) (L : Nat) (hL : L < 4) (h10 : 10 ≤ sC sg L) (h2 : sF sg L ≤ sC sg L) (hb : sC sg L ≤ 60000) (h5 : sF sg L ≤ sN sg (2 + L))  : CT l yJx4a65c_grow_92f84 (Cond.code yJx4a65c_grow_92f84 cJx4a65c_grow_92f84 4 (some (.array (.object "java/lang/Object")))) 5 124 D Y A [.ref (al 9 L), .int (nI (sC sg L) + 1)] (WX D Y A sg al X) (fun q : Nat => some (.ref q)) (fun q : Nat => WX D Y A (sP sg 22 L 0 (sC sg L + sC sg L / 2)) (aU al 10 L q) X) noX 1 (sC sg L + sC sg L / 2) := by
  refine CT.of (by decide) (Nat.le_of_ble_eq_true rfl) ?_
  intro p_ e_ s_ m_ below_ meth_ c_ C0 K0 hr hlk htab hnm_
  refine k_aload_n C0 dJx4a65c_grow_92f84_0 0 rfl ?_
  refine c_get C0 K0 9 L hL rfl inJx4a65c rfl 1 (.ref (al 10 L)) (by decide) dJx4a65c_grow_92f84_1 (tA 46 rfl rfl) (fun _ h => h) rfl ?_
  refine c_alen C0 K0 10 L ⟨hL, (show 0 < sC sg L by omega)⟩ rfl 3 rfl (nI (sg.2 22 L 0)) rfl dJx4a65c_grow_92f84_4 ?_
  refine k_istore_n C0 [(2, _), (0, _), (1, _)] dJx4a65c_grow_92f84_5 (by decide) rfl ?_
  refine k_iload_n C0 dJx4a65c_grow_92f84_6 0 rfl ?_
  refine k_if_gt C0 20 dJx4a65c_grow_92f84_7 (by decide) (fun _ => ?_) (fun zz => absurd (Int32.not_le.mp (nI_nle (n := sC sg L) (by omega) (by omega))) zz)
  refine k_iload_n C0 dJx4a65c_grow_92f84_20 0 rfl ?_
  refine k_iload_n C0 dJx4a65c_grow_92f84_21 2 rfl ?_
  refine k_iload_n C0 dJx4a65c_grow_92f84_22 0 rfl ?_
  refine k_isub C0 dJx4a65c_grow_92f84_23 ?_
  refine k_iload_n C0 dJx4a65c_grow_92f84_24 0 rfl ?_
  refine k_iconst C0 1 dJx4a65c_grow_92f84_25 (by decide) ?_
  refine k_ishr C0 dJx4a65c_grow_92f84_26 ?_
  rw [i32_as (nI (sC sg L)) 1, nI_half (sC sg L) (by omega)]
  refine k_callS C0 K0 dJx4a65c_grow_92f84_27 (cj_newLen l D Y A (WX D Y A sg al X) (nI (sC sg L)) 1 (nI (sC sg L / 2)) (newLen_ok _ h10 hb).1 (newLen_ok _ h10 hb).2.1 (newLen_ok _ h10 hb).2.2) gkJx4a65c_73 hyJ8_newLength_cabcc rfl (by exact Nat.le_of_ble_eq_true rfl) ⟨Nat.le_of_ble_eq_true rfl, Nat.le_of_ble_eq_true rfl⟩ ⟨Nat.zero_le _, Nat.zero_le _⟩ (fun E => kX_no E) (fun _ => ?_)
  rw [nI_add]
  refine k_istore_n C0 [(3, _), (2, _), (0, _), (1, _)] dJx4a65c_grow_92f84_30 (by decide) rfl ?_
  refine k_aload_n C0 dJx4a65c_grow_92f84_31 2 rfl ?_
  refine k_aload_n C0 dJx4a65c_grow_92f84_32 2 rfl ?_
  refine c_get C0 K0 9 L hL rfl inJx4a65c rfl 1 (.ref (al 10 L)) (by decide) dJx4a65c_grow_92f84_33 (tA 46 rfl rfl) (fun _ h => h) rfl ?_
  refine k_iload_n C0 dJx4a65c_grow_92f84_36 0 rfl ?_
  refine k_callS C0 K0 dJx4a65c_grow_92f84_37 (cj_copy2 l D Y A sg al X L hL (sC sg L + sC sg L / 2) (by omega) h2 (by omega) (by omega) h5) gkJx4a65c_66 hyJ7_copyOf_1904c rfl (by exact Nat.le_of_ble_eq_true rfl) ⟨Nat.le_of_ble_eq_true rfl, Nat.le_of_ble_eq_true rfl⟩ ⟨Nat.le_of_eq rfl, (Nat.le_of_eq (Nat.zero_add _))⟩ (fun E => kX_no E) (fun q1 => ?_)
  refine k_dup_x1 C0 dJx4a65c_grow_92f84_40 rfl rfl ?_
  refine l_putEd (sg := sg) (al := al) C0 K0 L hL (N := (sC sg L + sC sg L / 2)) (by omega) rfl dJx4a65c_grow_92f84_41 (tA 46 rfl rfl) (fun _ h => h) ?_
  exact k_aret C0 dJx4a65c_grow_92f84_44 hr (Or.inr ⟨_, rfl⟩) hlk (Nat.le_of_eq (Nat.zero_add _)) (Nat.le_of_eq (Nat.zero_add _)) q1 rfl (fun H h => h)
set_option maxRecDepth 100000 in
set_option maxHeartbeats 4000000 in
theorem cl_grow0 (l : Launch) (D : va_G) (Y : Nat → Nat) (A : Nat → Prop) (sg : Sg) (al : Nat → Nat → Nat) (X : va_W) (L : Nat) (hL : L < 4) (h0 : sC sg L = 0) (hf : sF sg L = 0)  : CT l yJx4a65c_grow_92f84 (Cond.code yJx4a65c_grow_92f84 cJx4a65c_grow_92f84 4 (some (.array (.object "java/lang/Object")))) 1 14 D Y A [.ref (al 9 L), .int 1] (WX D Y A sg al X) (fun q : Nat => some (.ref q)) (fun q : Nat => WX D Y A (sP sg 22 L 0 10) (aU al 10 L q) X) noX 1 10 := by
  refine CT.of (by decide) (Nat.le_of_ble_eq_true rfl) ?_
  intro p_ e_ s_ m_ below_ meth_ c_ C0 K0 hr hlk htab hnm_
  refine k_ex (fun H hV => hV.2.2.1 L hL h0) (fun e4 => ?_)
  refine k_aload_n C0 dJx4a65c_grow_92f84_0 0 rfl ?_
  refine c_get C0 K0 9 L hL rfl inJx4a65c rfl 1 (.ref (Y 4)) (by decide) dJx4a65c_grow_92f84_1 (tA 46 rfl rfl) (fun _ h => h) (congrArg (fun z => some (Value.ref z)) e4) ?_
  refine l_alenE C0 K0 rfl dJx4a65c_grow_92f84_4 ?_
  refine k_istore_n C0 [(2, _), (0, _), (1, _)] dJx4a65c_grow_92f84_5 (by decide) rfl ?_
  refine k_iload_n C0 dJx4a65c_grow_92f84_6 0 rfl ?_
  refine k_if_gt C0 20 dJx4a65c_grow_92f84_7 (by decide) (fun zz => absurd zz (by decide)) (fun _ => ?_)
  refine k_aload_n C0 dJx4a65c_grow_92f84_10 1 rfl ?_
  refine c_get C0 K0 9 L hL rfl inJx4a65c rfl 1 (.ref (Y 4)) (by decide) dJx4a65c_grow_92f84_11 (tA 46 rfl rfl) (fun _ h => h) (congrArg (fun z => some (Value.ref z)) e4) ?_
  refine l_gets C0 K0 dJx4a65c_grow_92f84_14 (tA 44 rfl rfl) rfl ?_
  refine k_acmp_eq C0 45 dJx4a65c_grow_92f84_17 (by decide) (fun _ => ?_) (fun zz => absurd rfl zz)
  refine k_aload_n C0 dJx4a65c_grow_92f84_45 1 rfl ?_
  refine k_bipush C0 10 dJx4a65c_grow_92f84_46 (by decide) ?_
  refine k_iload_n C0 dJx4a65c_grow_92f84_48 2 rfl ?_
  refine k_mmax C0 dJx4a65c_grow_92f84_49 (tB 54 rfl rfl) (tB 19 rfl rfl) (tA 16 rfl rfl) (tB 20 rfl rfl) (Nat.le_of_ble_eq_true rfl) (Nat.le_of_ble_eq_true rfl) (Nat.le_of_ble_eq_true rfl) (Nat.le_of_ble_eq_true rfl) 10 (by decide) ?_
  refine x_newq C0 K0 10 (tB 55 rfl rfl) K0.1.2.2.2.2.2.2.2.1 (t0 := 3) rfl (by decide) (by decide) (by decide) (Nat.le_of_ble_eq_true rfl) (Nat.le_of_ble_eq_true rfl) dJx4a65c_grow_92f84_52 (fun q1 => ?_)
  refine k_dup_x1 C0 dJx4a65c_grow_92f84_55 rfl rfl ?_
  refine l_putEd (sg := sg) (al := al) C0 K0 L hL (N := 10) (by omega) (hf ▸ lEl_0 _) dJx4a65c_grow_92f84_56 (tA 46 rfl rfl) (fun _ h => h) ?_
  exact k_aret C0 dJx4a65c_grow_92f84_59 hr (Or.inr ⟨_, rfl⟩) hlk (Nat.le_of_ble_eq_true rfl) (Nat.le_of_ble_eq_true rfl) q1 rfl (fun H h => h)
set_option maxRecDepth 100000 in
set_option maxHeartbeats 4000000 in
theorem cl_growF_ (l : Launch) (D : va_G) (Y : Nat → Nat) (A : Nat → Prop) (sg : Sg) (al : Nat → Nat → Nat) (X : va_W) (L : Nat) (hL : L < 4) (h10 : 10 ≤ sC sg L) (h2 : sF sg L ≤ sC sg L) (hb : sC sg L ≤ 60000) (h5 : sF sg L ≤ sN sg (2 + L)) (hz : sZ sg L = sC sg L) : CT l yJx4a65c_grow_d5877 (Cond.code yJx4a65c_grow_d5877 cJx4a65c_grow_d5877 1 (some (.array (.object "java/lang/Object")))) 6 147 D Y A [.ref (al 9 L)] (WX D Y A sg al X) (fun q : Nat => some (.ref q)) (fun q : Nat => WX D Y A (sP sg 22 L 0 (sC sg L + sC sg L / 2)) (aU al 10 L q) X) noX 1 (sC sg L + sC sg L / 2) := by
  refine CT.of (by decide) (Nat.le_of_ble_eq_true rfl) ?_
  intro p_ e_ s_ m_ below_ meth_ c_ C0 K0 hr hlk htab hnm_
  refine k_aload_n C0 dJx4a65c_grow_d5877_0 0 rfl ?_
  refine k_aload_n C0 dJx4a65c_grow_d5877_1 0 rfl ?_
  refine c_get C0 K0 9 L hL rfl inJx4a65c rfl 2 (.int (nI (sg.2 21 L 0))) (by decide) dJx4a65c_grow_d5877_2 (tA 47 rfl rfl) (fun _ h => h) rfl ?_
  refine k_iconst C0 1 dJx4a65c_grow_d5877_5 (by decide) ?_
  refine k_iadd C0 dJx4a65c_grow_d5877_6 ?_
  rw [show nI (sg.2 21 L 0) + 1 = nI (sC sg L) + 1 from by rw [show sg.2 21 L 0 = sC sg L from hz]]
  refine k_callV C0 K0 dJx4a65c_grow_d5877_7 (cl_growF l D Y A sg al X L hL h10 h2 hb h5) gkJx4a65c_69 hyJx4a65c_grow_92f84 (c_recv (sg := sg) (al := al) K0 9 L hL rfl rfl) rfl (by exact Nat.le_of_ble_eq_true rfl) ⟨Nat.le_of_ble_eq_true rfl, Nat.le_of_ble_eq_true rfl⟩ ⟨Nat.le_of_eq rfl, (Nat.le_of_eq (Nat.zero_add _))⟩ (fun E => kX_no E) (fun q1 => ?_)
  exact k_aret C0 dJx4a65c_grow_d5877_10 hr (Or.inr ⟨_, rfl⟩) hlk (Nat.le_of_eq (Nat.zero_add _)) (Nat.le_of_eq (Nat.zero_add _)) q1 rfl (fun H h => h)
set_option maxRecDepth 100000 in
set_option maxHeartbeats 4000000 in
theorem cl_grow0_ (l : Launch) (D : va_G) (Y : Nat → Nat) (A : Nat → Prop) (sg : Sg) (al : Nat → Nat → Nat) (X : va_W) (L : Nat) (hL : L < 4) (h0 : sC sg L = 0) (hf : sF sg L = 0) (hz : sZ sg L = 0) : CT l yJx4a65c_grow_d5877 (Cond.code yJx4a65c_grow_d5877 cJx4a65c_grow_d5877 1 (some (.array (.object "java/lang/Object")))) 2 37 D Y A [.ref (al 9 L)] (WX D Y A sg al X) (fun q : Nat => some (.ref q)) (fun q : Nat => WX D Y A (sP sg 22 L 0 10) (aU al 10 L q) X) noX 1 10 := by
  refine CT.of (by decide) (Nat.le_of_ble_eq_true rfl) ?_
  intro p_ e_ s_ m_ below_ meth_ c_ C0 K0 hr hlk htab hnm_
  refine k_aload_n C0 dJx4a65c_grow_d5877_0 0 rfl ?_
  refine k_aload_n C0 dJx4a65c_grow_d5877_1 0 rfl ?_
  refine c_get C0 K0 9 L hL rfl inJx4a65c rfl 2 (.int (nI (sg.2 21 L 0))) (by decide) dJx4a65c_grow_d5877_2 (tA 47 rfl rfl) (fun _ h => h) rfl ?_
  refine k_iconst C0 1 dJx4a65c_grow_d5877_5 (by decide) ?_
  refine k_iadd C0 dJx4a65c_grow_d5877_6 ?_
  rw [show nI (sg.2 21 L 0) + 1 = 1 from by rw [show sg.2 21 L 0 = 0 from hz]; rfl]
  refine k_callV C0 K0 dJx4a65c_grow_d5877_7 (cl_grow0 l D Y A sg al X L hL h0 hf) gkJx4a65c_69 hyJx4a65c_grow_92f84 (c_recv (sg := sg) (al := al) K0 9 L hL rfl rfl) rfl (by exact Nat.le_of_ble_eq_true rfl) ⟨Nat.le_of_ble_eq_true rfl, Nat.le_of_ble_eq_true rfl⟩ ⟨Nat.le_of_ble_eq_true rfl, Nat.le_of_ble_eq_true rfl⟩ (fun E => kX_no E) (fun q1 => ?_)
  exact k_aret C0 dJx4a65c_grow_d5877_10 hr (Or.inr ⟨_, rfl⟩) hlk (Nat.le_of_ble_eq_true rfl) (Nat.le_of_ble_eq_true rfl) q1 rfl (fun H h => h)
set_option maxRecDepth 100000 in
set_option maxHeartbeats 4000000 in
theorem cl_add3r (l : Launch) (D : va_G) (Y : Nat → Nat) (A : Nat → Prop) (sg : Sg) (al : Nat → Nat → Nat) (X : va_W) (L : Nat) (hL : L < 4) (h1 : 0 < sC sg L) (hr_ : sF sg L < sC sg L) (hb : sC sg L ≤ 60000) (hf : sF sg L < sN sg (2 + L)) : CT l yJx4a65c_add_72be8 (Cond.code yJx4a65c_add_72be8 cJx4a65c_add_72be8 4 none) 0 0 D Y A [.ref (al 9 L), .ref (al (2 + L) (sF sg L)), .ref (al 10 L), .int (nI (sF sg L))] (WX D Y A sg al X) (fun _ : Unit => none) (fun _ : Unit => WX D Y A (sP (sP sg 23 L 0 (sF sg L + 1)) 21 L 0 (sF sg L + 1)) al X) noX 0 0 := by
  refine CT.of (by decide) (Nat.le_of_ble_eq_true rfl) ?_
  intro p_ e_ s_ m_ below_ meth_ c_ C0 K0 hr hlk htab hnm_
  refine k_iload_n C0 dJx4a65c_add_72be8_0 3 rfl ?_
  refine k_aload_n C0 dJx4a65c_add_72be8_1 2 rfl ?_
  refine c_alen C0 K0 10 L ⟨hL, h1⟩ rfl 3 rfl (nI (sg.2 22 L 0)) rfl dJx4a65c_add_72be8_2 ?_
  refine k_icmp_ne C0 11 dJx4a65c_add_72be8_3 (by decide) (fun _ => ?_) (fun zz => absurd zz (fun z => by have := (nI_eq (show sF sg L < 2 ^ 31 by omega) (show sC sg L < 2 ^ 31 by omega)).mp z; omega))
  refine k_aload_n C0 dJx4a65c_add_72be8_11 2 rfl ?_
  refine k_iload_n C0 dJx4a65c_add_72be8_12 3 rfl ?_
  refine k_aload_n C0 dJx4a65c_add_72be8_13 1 rfl ?_
  refine l_aastE (sg := sg) (al := al) C0 K0 L hL rfl rfl rfl hr_ (by omega) hf dJx4a65c_add_72be8_14 ?_
  refine k_aload_n C0 dJx4a65c_add_72be8_15 0 rfl ?_
  refine k_iload_n C0 dJx4a65c_add_72be8_16 3 rfl ?_
  refine k_iconst C0 1 dJx4a65c_add_72be8_17 (by decide) ?_
  refine k_iadd C0 dJx4a65c_add_72be8_18 ?_
  rw [nI_1]
  refine l_putSz (sg := sP sg 23 L 0 (sF sg L + 1)) (al := al) C0 K0 L (sF sg L + 1) hL dJx4a65c_add_72be8_19 (tA 47 rfl rfl) (fun _ h => h) ?_
  exact k_vret C0 dJx4a65c_add_72be8_22 hr hlk (Nat.le_of_ble_eq_true rfl) (Nat.le_of_ble_eq_true rfl) () rfl (fun H h => h)
set_option maxRecDepth 100000 in
set_option maxHeartbeats 4000000 in
theorem cl_add3f (l : Launch) (D : va_G) (Y : Nat → Nat) (A : Nat → Prop) (sg : Sg) (al : Nat → Nat → Nat) (X : va_W) (L : Nat) (hL : L < 4) (h10 : 10 ≤ sC sg L) (h2 : sF sg L ≤ sC sg L) (hb : sC sg L ≤ 60000) (h5 : sF sg L ≤ sN sg (2 + L)) (hz : sZ sg L = sC sg L) (hzf : sF sg L = sC sg L) (hf : sF sg L < sN sg (2 + L)) : CT l yJx4a65c_add_72be8 (Cond.code yJx4a65c_add_72be8 cJx4a65c_add_72be8 4 none) 7 167 D Y A [.ref (al 9 L), .ref (al (2 + L) (sF sg L)), .ref (al 10 L), .int (nI (sF sg L))] (WX D Y A sg al X) (fun _ : Nat => none) (fun q : Nat => WX D Y A (sP (sP (sP sg 22 L 0 (sC sg L + sC sg L / 2)) 23 L 0 (sF sg L + 1)) 21 L 0 (sF sg L + 1)) (aU al 10 L q) X) noX 1 (sC sg L + sC sg L / 2) := by
  refine CT.of (by decide) (Nat.le_of_ble_eq_true rfl) ?_
  intro p_ e_ s_ m_ below_ meth_ c_ C0 K0 hr hlk htab hnm_
  refine k_iload_n C0 dJx4a65c_add_72be8_0 3 rfl ?_
  refine k_aload_n C0 dJx4a65c_add_72be8_1 2 rfl ?_
  refine c_alen C0 K0 10 L ⟨hL, (show 0 < sC sg L by omega)⟩ rfl 3 rfl (nI (sg.2 22 L 0)) rfl dJx4a65c_add_72be8_2 ?_
  refine k_icmp_ne C0 11 dJx4a65c_add_72be8_3 (by decide) (fun zz => absurd (congrArg nI hzf) zz) (fun _ => ?_)
  refine k_aload_n C0 dJx4a65c_add_72be8_6 0 rfl ?_
  refine k_callV C0 K0 dJx4a65c_add_72be8_7 (cl_growF_ l D Y A sg al X L hL h10 h2 hb h5 hz) gkJx4a65c_129 hyJx4a65c_grow_d5877 (c_recv (sg := sg) (al := al) K0 9 L hL rfl rfl) rfl (by exact Nat.le_of_ble_eq_true rfl) ⟨Nat.le_of_ble_eq_true rfl, Nat.le_of_ble_eq_true rfl⟩ ⟨Nat.le_of_eq rfl, (Nat.le_of_eq (Nat.zero_add _))⟩ (fun E => kX_no E) (fun q1 => ?_)
  refine k_astore_n C0 [(2, _), (0, _), (1, _), (3, _)] dJx4a65c_add_72be8_10 (by decide) rfl ?_
  refine k_aload_n C0 dJx4a65c_add_72be8_11 0 rfl ?_
  refine k_iload_n C0 dJx4a65c_add_72be8_12 3 rfl ?_
  refine k_aload_n C0 dJx4a65c_add_72be8_13 2 rfl ?_
  refine l_aastE (sg := sP sg 22 L 0 (sC sg L + sC sg L / 2)) (al := (aU al 10 L q1)) C0 K0 L hL aU_at.symm (aU_ne (fun z => absurd z.1 (by omega))).symm rfl (by show sF sg L < (sP sg 22 L 0 (sC sg L + sC sg L / 2)).2 22 L 0; rw [(show (sP sg 22 L 0 (sC sg L + sC sg L / 2)).2 22 L 0 = (sC sg L + sC sg L / 2) from up3_at)]; omega) (by show (sP sg 22 L 0 (sC sg L + sC sg L / 2)).2 22 L 0 < _; rw [(show (sP sg 22 L 0 (sC sg L + sC sg L / 2)).2 22 L 0 = (sC sg L + sC sg L / 2) from up3_at)]; omega) hf dJx4a65c_add_72be8_14 ?_
  refine k_aload_n C0 dJx4a65c_add_72be8_15 1 rfl ?_
  refine k_iload_n C0 dJx4a65c_add_72be8_16 3 rfl ?_
  refine k_iconst C0 1 dJx4a65c_add_72be8_17 (by decide) ?_
  refine k_iadd C0 dJx4a65c_add_72be8_18 ?_
  rw [nI_1]
  refine l_putSz (sg := sP (sP sg 22 L 0 (sC sg L + sC sg L / 2)) 23 L 0 (sF sg L + 1)) (al := (aU al 10 L q1)) C0 K0 L (sF sg L + 1) hL dJx4a65c_add_72be8_19 (tA 47 rfl rfl) (fun _ h => h) ?_
  exact k_vret C0 dJx4a65c_add_72be8_22 hr hlk (Nat.le_of_eq (Nat.zero_add _)) (Nat.le_of_eq (Nat.zero_add _)) q1 rfl (fun H h => h)
set_option maxRecDepth 100000 in
set_option maxHeartbeats 4000000 in
theorem cl_add30 (l : Launch) (D : va_G) (Y : Nat → Nat) (A : Nat → Prop) (sg : Sg) (al : Nat → Nat → Nat) (X : va_W) (L : Nat) (hL : L < 4) (h0 : sC sg L = 0) (hf : sF sg L = 0) (hz : sZ sg L = 0) (hff : 0 < sN sg (2 + L)) : CT l yJx4a65c_add_72be8 (Cond.code yJx4a65c_add_72be8 cJx4a65c_add_72be8 4 none) 3 57 D Y A [.ref (al 9 L), .ref (al (2 + L) (sF sg L)), .ref (al 10 L), .int (nI (sF sg L))] (WX D Y A sg al X) (fun _ : Nat => none) (fun q : Nat => WX D Y A (sP (sP (sP sg 22 L 0 10) 23 L 0 (sF sg L + 1)) 21 L 0 (sF sg L + 1)) (aU al 10 L q) X) noX 1 10 := by
  refine CT.of (by decide) (Nat.le_of_ble_eq_true rfl) ?_
  intro p_ e_ s_ m_ below_ meth_ c_ C0 K0 hr hlk htab hnm_
  refine k_ex (fun H hV => hV.2.2.1 L hL h0) (fun e4 => ?_)
  refine k_iload_n C0 dJx4a65c_add_72be8_0 3 rfl ?_
  refine k_aload_n C0 dJx4a65c_add_72be8_1 2 rfl ?_
  refine l_alenE C0 K0 e4 dJx4a65c_add_72be8_2 ?_
  refine k_icmp_ne C0 11 dJx4a65c_add_72be8_3 (by decide) (fun zz => absurd (by rw [hf]; rfl) zz) (fun _ => ?_)
  refine k_aload_n C0 dJx4a65c_add_72be8_6 0 rfl ?_
  refine k_callV C0 K0 dJx4a65c_add_72be8_7 (cl_grow0_ l D Y A sg al X L hL h0 hf hz) gkJx4a65c_129 hyJx4a65c_grow_d5877 (c_recv (sg := sg) (al := al) K0 9 L hL rfl rfl) rfl (by exact Nat.le_of_ble_eq_true rfl) ⟨Nat.le_of_ble_eq_true rfl, Nat.le_of_ble_eq_true rfl⟩ ⟨Nat.le_of_ble_eq_true rfl, Nat.le_of_ble_eq_true rfl⟩ (fun E => kX_no E) (fun q1 => ?_)
  refine k_astore_n C0 [(2, _), (0, _), (1, _), (3, _)] dJx4a65c_add_72be8_10 (by decide) rfl ?_
  refine k_aload_n C0 dJx4a65c_add_72be8_11 0 rfl ?_
  refine k_iload_n C0 dJx4a65c_add_72be8_12 3 rfl ?_
  refine k_aload_n C0 dJx4a65c_add_72be8_13 2 rfl ?_
  refine l_aastE (sg := sP sg 22 L 0 10) (al := (aU al 10 L q1)) C0 K0 L hL aU_at.symm (aU_ne (fun z => absurd z.1 (by omega))).symm rfl (by show sF sg L < (sP sg 22 L 0 10).2 22 L 0; rw [(show (sP sg 22 L 0 10).2 22 L 0 = 10 from up3_at)]; omega) (by show (sP sg 22 L 0 10).2 22 L 0 < _; rw [(show (sP sg 22 L 0 10).2 22 L 0 = 10 from up3_at)]; omega) (show sF sg L < sN sg (2 + L) by omega) dJx4a65c_add_72be8_14 ?_
  refine k_aload_n C0 dJx4a65c_add_72be8_15 1 rfl ?_
  refine k_iload_n C0 dJx4a65c_add_72be8_16 3 rfl ?_
  refine k_iconst C0 1 dJx4a65c_add_72be8_17 (by decide) ?_
  refine k_iadd C0 dJx4a65c_add_72be8_18 ?_
  rw [nI_1]
  refine l_putSz (sg := sP (sP sg 22 L 0 10) 23 L 0 (sF sg L + 1)) (al := (aU al 10 L q1)) C0 K0 L (sF sg L + 1) hL dJx4a65c_add_72be8_19 (tA 47 rfl rfl) (fun _ h => h) ?_
  exact k_vret C0 dJx4a65c_add_72be8_22 hr hlk (Nat.le_of_ble_eq_true rfl) (Nat.le_of_ble_eq_true rfl) q1 rfl (fun H h => h)
set_option maxRecDepth 100000 in
set_option maxHeartbeats 4000000 in
theorem cl_add (l : Launch) (D : va_G) (Y : Nat → Nat) (A : Nat → Prop) (sg : Sg) (al : Nat → Nat → Nat) (X : va_W) (L : Nat) (hL : L < 4) (hz : sZ sg L = sF sg L) (hc : sF sg L ≤ sC sg L) (hcc : sC sg L = 0 ∨ 10 ≤ sC sg L) (hb : sC sg L ≤ 60000) (hf : sF sg L < sN sg (2 + L)) : CT l yJx4a65c_add_9ea2d (Cond.code yJx4a65c_add_9ea2d cJx4a65c_add_9ea2d 2 (some .boolean)) 8 190 D Y A [.ref (al 9 L), .ref (al (2 + L) (sF sg L))] (WX D Y A sg al X) (fun _ : Nat => some (.int 1)) (fun q : Nat => WX D Y A (c_add sg L) (aU al 10 L q) X) noX (capN sg L - sC sg L) (4 * (capN sg L - sC sg L)) := by
  refine CT.of (by decide) (Nat.le_of_ble_eq_true rfl) ?_
  intro p_ e_ s_ m_ below_ meth_ c_ C0 K0 hr hlk htab hnm_
  rcases (show sF sg L < sC sg L ∨ (10 ≤ sC sg L ∧ sF sg L = sC sg L) ∨ sC sg L = 0 by omega) with hr_ | ⟨h10, hzf⟩ | h0
  ·
    refine k_aload_n C0 dJx4a65c_add_9ea2d_0 0 rfl ?_
    refine k_dup C0 dJx4a65c_add_9ea2d_1 rfl ?_
    refine c_getI C0 K0 9 L hL rfl inJx4a65c rfl 0 (sg.1 9 L 0) (by decide) dJx4a65c_add_9ea2d_2 (tA 49 rfl rfl) (fun x h => u_same (C0.2.2.2.2 _ (tA 50 rfl rfl)) x h) rfl rfl ?_
    refine k_iconst C0 1 dJx4a65c_add_9ea2d_5 (by decide) ?_
    refine k_iadd C0 dJx4a65c_add_9ea2d_6 ?_
    refine c_putI C0 K0 9 L hL (ty := .int) rfl inJx4a65c rfl tyJx4a65c tyJx4a65c_ok nmJx4a65c 0 (by decide) dJx4a65c_add_9ea2d_7 (tA 49 rfl rfl) (fun x h => u_same (C0.2.2.2.2 _ (tA 50 rfl rfl)) x h) rfl (by decide +kernel) rfl rfl (Nat.le_of_ble_eq_true rfl) rfl ?_
    refine k_aload_n C0 dJx4a65c_add_9ea2d_10 0 rfl ?_
    refine k_aload_n C0 dJx4a65c_add_9ea2d_11 1 rfl ?_
    refine k_aload_n C0 dJx4a65c_add_9ea2d_12 0 rfl ?_
    refine c_get (sg := sI sg 9 L 0 ((sg.1 9 L 0) + 1)) C0 K0 9 L hL rfl inJx4a65c rfl 1 (.ref (al 10 L)) (by decide) dJx4a65c_add_9ea2d_13 (tA 46 rfl rfl) (fun _ h => h) rfl ?_
    refine k_aload_n C0 dJx4a65c_add_9ea2d_16 0 rfl ?_
    refine c_get (sg := sI sg 9 L 0 ((sg.1 9 L 0) + 1)) C0 K0 9 L hL rfl inJx4a65c rfl 2 (.int (nI (sg.2 21 L 0))) (by decide) dJx4a65c_add_9ea2d_17 (tA 47 rfl rfl) (fun _ h => h) rfl ?_
    rw [show nI (sg.2 21 L 0) = nI (sF sg L) from congrArg nI hz]
    refine k_callV C0 K0 dJx4a65c_add_9ea2d_20 (cl_add3r l D Y A (sI sg 9 L 0 ((sg.1 9 L 0) + 1)) al X L hL (show 0 < sC sg L by omega) hr_ hb hf) gkJx4a65c_131 hyJx4a65c_add_72be8 (c_recv (sg := sI sg 9 L 0 ((sg.1 9 L 0) + 1)) (al := al) K0 9 L hL rfl rfl) rfl (by exact Nat.le_of_ble_eq_true rfl) ⟨Nat.le_of_ble_eq_true rfl, Nat.le_of_ble_eq_true rfl⟩ ⟨Nat.zero_le _, Nat.zero_le _⟩ (fun E => kX_no E) (fun _ => ?_)
    refine k_iconst C0 1 dJx4a65c_add_9ea2d_23 (by decide) ?_
    exact k_zret C0 dJx4a65c_add_9ea2d_24 hr rfl hlk (Nat.zero_le _) (Nat.zero_le _) (al 10 L) rfl (fun H h => by rw [← (c_add_r hr_).1, aU_same]; exact h)
  ·
    refine k_aload_n C0 dJx4a65c_add_9ea2d_0 0 rfl ?_
    refine k_dup C0 dJx4a65c_add_9ea2d_1 rfl ?_
    refine c_getI C0 K0 9 L hL rfl inJx4a65c rfl 0 (sg.1 9 L 0) (by decide) dJx4a65c_add_9ea2d_2 (tA 49 rfl rfl) (fun x h => u_same (C0.2.2.2.2 _ (tA 50 rfl rfl)) x h) rfl rfl ?_
    refine k_iconst C0 1 dJx4a65c_add_9ea2d_5 (by decide) ?_
    refine k_iadd C0 dJx4a65c_add_9ea2d_6 ?_
    refine c_putI C0 K0 9 L hL (ty := .int) rfl inJx4a65c rfl tyJx4a65c tyJx4a65c_ok nmJx4a65c 0 (by decide) dJx4a65c_add_9ea2d_7 (tA 49 rfl rfl) (fun x h => u_same (C0.2.2.2.2 _ (tA 50 rfl rfl)) x h) rfl (by decide +kernel) rfl rfl (Nat.le_of_ble_eq_true rfl) rfl ?_
    refine k_aload_n C0 dJx4a65c_add_9ea2d_10 0 rfl ?_
    refine k_aload_n C0 dJx4a65c_add_9ea2d_11 1 rfl ?_
    refine k_aload_n C0 dJx4a65c_add_9ea2d_12 0 rfl ?_
    refine c_get (sg := sI sg 9 L 0 ((sg.1 9 L 0) + 1)) C0 K0 9 L hL rfl inJx4a65c rfl 1 (.ref (al 10 L)) (by decide) dJx4a65c_add_9ea2d_13 (tA 46 rfl rfl) (fun _ h => h) rfl ?_
    refine k_aload_n C0 dJx4a65c_add_9ea2d_16 0 rfl ?_
    refine c_get (sg := sI sg 9 L 0 ((sg.1 9 L 0) + 1)) C0 K0 9 L hL rfl inJx4a65c rfl 2 (.int (nI (sg.2 21 L 0))) (by decide) dJx4a65c_add_9ea2d_17 (tA 47 rfl rfl) (fun _ h => h) rfl ?_
    rw [show nI (sg.2 21 L 0) = nI (sF sg L) from congrArg nI hz]
    refine k_callV C0 K0 dJx4a65c_add_9ea2d_20 (cl_add3f l D Y A (sI sg 9 L 0 ((sg.1 9 L 0) + 1)) al X L hL h10 hc hb (by exact Nat.le_of_lt hf) (hz.trans hzf) hzf hf) gkJx4a65c_131 hyJx4a65c_add_72be8 (c_recv (sg := sI sg 9 L 0 ((sg.1 9 L 0) + 1)) (al := al) K0 9 L hL rfl rfl) rfl (by exact Nat.le_of_ble_eq_true rfl) ⟨Nat.le_of_ble_eq_true rfl, Nat.le_of_ble_eq_true rfl⟩ ⟨by show 0 + 1 ≤ capN sg L - sC sg L; rw [c_add_f hzf h10]; omega, by show 0 + (sC sg L + sC sg L / 2) ≤ 4 * (capN sg L - sC sg L); rw [c_add_f hzf h10]; omega⟩ (fun E => kX_no E) (fun q1 => ?_)
    refine k_iconst C0 1 dJx4a65c_add_9ea2d_23 (by decide) ?_
    exact k_zret C0 dJx4a65c_add_9ea2d_24 hr rfl hlk (by show 0 + 1 ≤ capN sg L - sC sg L; rw [c_add_f hzf h10]; omega) (by show 0 + (sC sg L + sC sg L / 2) ≤ 4 * (capN sg L - sC sg L); rw [c_add_f hzf h10]; omega) q1 rfl (fun H h => by unfold c_add; rw [c_add_f hzf h10]; exact h)
  ·
    refine k_aload_n C0 dJx4a65c_add_9ea2d_0 0 rfl ?_
    refine k_dup C0 dJx4a65c_add_9ea2d_1 rfl ?_
    refine c_getI C0 K0 9 L hL rfl inJx4a65c rfl 0 (sg.1 9 L 0) (by decide) dJx4a65c_add_9ea2d_2 (tA 49 rfl rfl) (fun x h => u_same (C0.2.2.2.2 _ (tA 50 rfl rfl)) x h) rfl rfl ?_
    refine k_iconst C0 1 dJx4a65c_add_9ea2d_5 (by decide) ?_
    refine k_iadd C0 dJx4a65c_add_9ea2d_6 ?_
    refine c_putI C0 K0 9 L hL (ty := .int) rfl inJx4a65c rfl tyJx4a65c tyJx4a65c_ok nmJx4a65c 0 (by decide) dJx4a65c_add_9ea2d_7 (tA 49 rfl rfl) (fun x h => u_same (C0.2.2.2.2 _ (tA 50 rfl rfl)) x h) rfl (by decide +kernel) rfl rfl (Nat.le_of_ble_eq_true rfl) rfl ?_
    refine k_aload_n C0 dJx4a65c_add_9ea2d_10 0 rfl ?_
    refine k_aload_n C0 dJx4a65c_add_9ea2d_11 1 rfl ?_
    refine k_aload_n C0 dJx4a65c_add_9ea2d_12 0 rfl ?_
    refine c_get (sg := sI sg 9 L 0 ((sg.1 9 L 0) + 1)) C0 K0 9 L hL rfl inJx4a65c rfl 1 (.ref (al 10 L)) (by decide) dJx4a65c_add_9ea2d_13 (tA 46 rfl rfl) (fun _ h => h) rfl ?_
    refine k_aload_n C0 dJx4a65c_add_9ea2d_16 0 rfl ?_
    refine c_get (sg := sI sg 9 L 0 ((sg.1 9 L 0) + 1)) C0 K0 9 L hL rfl inJx4a65c rfl 2 (.int (nI (sg.2 21 L 0))) (by decide) dJx4a65c_add_9ea2d_17 (tA 47 rfl rfl) (fun _ h => h) rfl ?_
    rw [show nI (sg.2 21 L 0) = nI (sF sg L) from congrArg nI hz]
    refine k_callV C0 K0 dJx4a65c_add_9ea2d_20 (cl_add30 l D Y A (sI sg 9 L 0 ((sg.1 9 L 0) + 1)) al X L hL h0 (show sF sg L = 0 by omega) (show sZ sg L = 0 by omega) (show 0 < sN sg (2 + L) by omega)) gkJx4a65c_131 hyJx4a65c_add_72be8 (c_recv (sg := sI sg 9 L 0 ((sg.1 9 L 0) + 1)) (al := al) K0 9 L hL rfl rfl) rfl (by exact Nat.le_of_ble_eq_true rfl) ⟨Nat.le_of_ble_eq_true rfl, Nat.le_of_ble_eq_true rfl⟩ ⟨by show 0 + 1 ≤ capN sg L - sC sg L; rw [c_add_0 h0]; omega, by show 0 + 10 ≤ 4 * (capN sg L - sC sg L); rw [c_add_0 h0]; omega⟩ (fun E => kX_no E) (fun q1 => ?_)
    refine k_iconst C0 1 dJx4a65c_add_9ea2d_23 (by decide) ?_
    exact k_zret C0 dJx4a65c_add_9ea2d_24 hr rfl hlk (by show 0 + 1 ≤ capN sg L - sC sg L; rw [c_add_0 h0]; omega) (by show 0 + 10 ≤ 4 * (capN sg L - sC sg L); rw [c_add_0 h0]; omega) q1 rfl (fun H h => by unfold c_add; rw [c_add_0 h0]; exact h)
