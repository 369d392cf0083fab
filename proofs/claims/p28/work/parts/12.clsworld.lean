/-! the class's world: kinds and indices. Kinds: 0 the shop, 1 lands, 2 makers, 3 products, 4 sales, 5 subscriptions, 6 payouts, 7 prices, 8 the lands' array, 9 the lists (0 makers, 1 products, 2 sales, 3 subscriptions), 10 the lists' arrays. sg.1: ints by kind, index, field; sg.2: numbers: references by index; 20 k: how many of kind k; 21 L: a list's size; 22 L: its capacity; 23 L: how many places are filled. al: addresses -/
abbrev Sg : Type := (Nat → Nat → Nat → Int32) × (Nat → Nat → Nat → Nat)
def up3 {α : Type} (f : Nat → Nat → Nat → α) (k i j : Nat) (v : α) : Nat → Nat → Nat → α := fun k' i' j' => if k' = k ∧ i' = i ∧ j' = j then v else f k' i' j'
def sI (sg : Sg) (k i j : Nat) (v : Int32) : Sg := (up3 sg.1 k i j v, sg.2)
def sP (sg : Sg) (k i j : Nat) (v : Nat) : Sg := (sg.1, up3 sg.2 k i j v)
def aU (al : Nat → Nat → Nat) (k i q : Nat) : Nat → Nat → Nat := fun k' i' => if k' = k then (if i' = i then q else al k' i') else al k' i'
theorem up3_at {α : Type} {f : Nat → Nat → Nat → α} {k i j : Nat} {v : α} : up3 f k i j v k i j = v := if_pos ⟨rfl, rfl, rfl⟩
theorem up3_k {α : Type} {f : Nat → Nat → Nat → α} {k i j k' i' j' : Nat} {v w : α} (h : k' ≠ k) (e : f k' i' j' = w) : up3 f k i j v k' i' j' = w := (if_neg (fun z => h z.1)).trans e
theorem up3_i {α : Type} {f : Nat → Nat → Nat → α} {k i j k' i' j' : Nat} {v w : α} (h : i' ≠ i) (e : f k' i' j' = w) : up3 f k i j v k' i' j' = w := (if_neg (fun z => h z.2.1)).trans e
theorem up3_j {α : Type} {f : Nat → Nat → Nat → α} {k i j k' i' j' : Nat} {v w : α} (h : j' ≠ j) (e : f k' i' j' = w) : up3 f k i j v k' i' j' = w := (if_neg (fun z => h z.2.2)).trans e
theorem up3_row {f : Nat → Nat → Nat → Int32} {k i j : Nat} {v : Int32} : up3 f k i j v k i = upd (f k i) j v := by
  funext j'
  by_cases h : j' = j
  · subst h; simp [up3, upd]
  · simp [up3, upd, h]
theorem up3_row_ne {α : Type} {f : Nat → Nat → Nat → α} {k i j k' i' : Nat} {v : α} (h : ¬ (k' = k ∧ i' = i)) : up3 f k i j v k' i' = f k' i' := by
  funext j'
  exact if_neg (fun z => h ⟨z.1, z.2.1⟩)
abbrev sN (sg : Sg) (k : Nat) : Nat := sg.2 20 k 0
abbrev sZ (sg : Sg) (L : Nat) : Nat := sg.2 21 L 0
abbrev sC (sg : Sg) (L : Nat) : Nat := sg.2 22 L 0
abbrev sF (sg : Sg) (L : Nat) : Nat := sg.2 23 L 0
def live (sg : Sg) (k i : Nat) : Prop := match k with
  | 0 => i = 0
  | 1 => i < 5
  | 2 => i < sN sg 2
  | 3 => i < sN sg 3
  | 4 => i < sN sg 4
  | 5 => i < sN sg 5
  | 6 => i < sN sg 2
  | 7 => i < sN sg 3
  | 8 => i = 0
  | 9 => i < 4
  | 10 => i < 4 ∧ 0 < sC sg i
  | _ => False
def lEl (fz : Nat) (ad : Nat → Nat) : Nat → Option Nat := fun j => if j < fz then some (ad j) else none
/-- what a cell holds: f its ints, P the numbers -/
def celF (Y : Nat → Nat) (f : Nat → Int32) (P : Nat → Nat → Nat → Nat) (al : Nat → Nat → Nat) (k i : Nat) : va_E := match k with
  | 0 => .inr (6, [.ref (al 8 0), .ref (al 9 0), .ref (al 9 1), .ref (al 9 2), .ref (al 9 3), .int (f 5), .int (f 6), .int (f 7)])
  | 1 => .inr (1, [.int (nI i), .int (f 1), .int (f 2), .int (f 3)])
  | 2 => .inr (2, [.int (f 0), .ref (al 6 i), .int (f 2), .int (f 3), .int (f 4)])
  | 3 => .inr (3, [.int (nI i), .ref (al 2 (P 3 i 1)), .ref (al 7 i)])
  | 4 => .inr (4, [.ref (al 2 (P 4 i 0)), .ref (al 1 (P 4 i 1)), .int (f 2), .int (f 3), .int (f 4), .int (f 5), .int (f 6), .int (f 7), .int (f 8)])
  | 5 => .inr (5, [.ref (al 1 (P 5 i 0)), .int (f 1), .ref (al 3 (P 5 i 2)), .int (f 3), .int (f 4), .int (f 5), .int (f 6)])
  | 6 => .inl (Y 0, 120, .inl f)
  | 7 => .inl (Y 0, 5, .inl f)
  | 8 => .inl (Y 2, 5, .inr (.inr (.inr (.inr (fun j => some (al 1 j))))))
  | 9 => .inr (0, [.int (f 0), .ref (al 10 i), .int (nI (P 21 i 0))])
  | _ => .inl (Y 3, P 22 i 0, .inr (.inr (.inr (.inr (lEl (P 23 i 0) (al (2 + i)))))))
abbrev cel (Y : Nat → Nat) (sg : Sg) (al : Nat → Nat → Nat) (k i : Nat) : va_E := celF Y (sg.1 k i) sg.2 al k i
def WX (D : va_G) (Y : Nat → Nat) (A : Nat → Prop) (sg : Sg) (al : Nat → Nat → Nat) (X : va_W) (H : Heap) : Prop :=
  (∀ k i, live sg k i → va_at D vwCl (al k i, cel Y sg al k i) H ∧ A (al k i)) ∧ (∀ k i k' i', live sg k i → live sg k' i' → al k i = al k' i' → k = k' ∧ i = i') ∧ (∀ L, L < 4 → sC sg L = 0 → al 10 L = Y 4) ∧ (∀ (j : Nat) (x : Nat × va_E), X[j]? = some x → va_at D vwCl x H ∧ A x.1 ∧ ∀ k i, live sg k i → al k i ≠ x.1) ∧ (∀ (i j : Nat) (x y : Nat × va_E), X[i]? = some x → X[j]? = some y → x.1 = y.1 → i = j)
section KW
variable {D : va_G} {Y : Nat → Nat} {A : Nat → Prop} {sg sg' : Sg} {al al' : Nat → Nat → Nat} {X : va_W} {H H' : Heap}
/-- one cell of a kind changes -/
theorem WX.put (h : WX D Y A sg al X H) (k i : Nat) (hl : live sg k i) (hlv : ∀ k' i', live sg' k' i' ↔ live sg k' i') (hC : ∀ L, L < 4 → sC sg' L = sC sg L) (hs : ∀ k' i', live sg k' i' → ¬ (k' = k ∧ i' = i) → cel Y sg' al k' i' = cel Y sg al k' i') (h1 : va_at D vwCl (al k i, cel Y sg' al k i) H') (oq : ∀ q, q ≠ al k i → H'[q]? = H[q]?) : WX D Y A sg' al X H' := by
  refine ⟨fun k' i' hl' => ?_, fun a b c d ha hb => h.2.1 a b c d ((hlv a b).mp ha) ((hlv c d).mp hb), fun L hL hz => h.2.2.1 L hL ((hC L hL).symm.trans hz), fun j x hx => ?_, h.2.2.2.2⟩
  · have hl2 := (hlv k' i').mp hl'
    refine ⟨?_, (h.1 k' i' hl2).2⟩
    by_cases e : k' = k ∧ i' = i
    · obtain ⟨rfl, rfl⟩ := e
      exact h1
    · rw [hs k' i' hl2 e]
      exact (h.1 k' i' hl2).1.kept (oq _ (fun z => e (h.2.1 _ _ _ _ hl2 hl z)))
  · obtain ⟨g1, g2, g3⟩ := h.2.2.2.1 j x hx
    exact ⟨g1.kept (oq _ (fun z => g3 k i hl z.symm)), g2, fun a b hab => g3 a b ((hlv a b).mp hab)⟩
theorem live_I {k i j : Nat} {v : Int32} (k' i' : Nat) : live (sI sg k i j v) k' i' ↔ live sg k' i' := Iff.rfl
theorem WX.putI (h : WX D Y A sg al X H) (k i j : Nat) (v : Int32) (hl : live sg k i) (h1 : va_at D vwCl (al k i, celF Y (upd (sg.1 k i) j v) sg.2 al k i) H') (oq : ∀ q, q ≠ al k i → H'[q]? = H[q]?) : WX D Y A (sI sg k i j v) al X H' :=
  h.put k i hl live_I (fun _ _ => rfl) (fun k' i' _ hne => congrArg (fun f => celF Y f sg.2 al k' i') (up3_row_ne hne)) ((congrArg (fun f => va_at D vwCl (al k i, celF Y f sg.2 al k i) H') (up3_row (f := sg.1))).mpr h1) oq
/-- a cell beside the kinds changes -/
theorem WX.putX (h : WX D Y A sg al X H) (j : Nat) {q : Nat} {e0 e : va_E} (hj : X[j]? = some (q, e0)) (h1 : va_at D vwCl (q, e) H') (oq : ∀ x, x ≠ q → H'[x]? = H[x]?) : WX D Y A sg al (X.set j (q, e)) H' := by
  have hjl := (List.getElem?_eq_some_iff.mp hj).1
  have key : ∀ (k : Nat) (x : Nat × va_E), (X.set j (q, e))[k]? = some x → (k = j ∧ x = (q, e)) ∨ (k ≠ j ∧ X[k]? = some x) := by
    intro k x hx
    by_cases hk : k = j
    · subst hk
      rw [List.getElem?_set_self hjl] at hx
      cases hx
      exact Or.inl ⟨rfl, rfl⟩
    · rw [List.getElem?_set_ne (Ne.symm hk)] at hx
      exact Or.inr ⟨hk, hx⟩
  have hX := h.2.2.2.1 j _ hj
  refine ⟨fun k i hl => ⟨(h.1 k i hl).1.kept (oq _ (hX.2.2 k i hl)), (h.1 k i hl).2⟩, h.2.1, h.2.2.1, fun k x hx => ?_, fun a b x y hx hy hxy => ?_⟩
  · rcases key k x hx with ⟨rfl, rfl⟩ | ⟨hk, hx⟩
    · exact ⟨h1, hX.2⟩
    · obtain ⟨g1, g2, g3⟩ := h.2.2.2.1 k x hx
      exact ⟨g1.kept (oq _ (fun z => hk (h.2.2.2.2 k j x _ hx hj z))), g2, g3⟩
  · have f : ∀ (k : Nat) (x : Nat × va_E), (X.set j (q, e))[k]? = some x → ∃ x0, X[k]? = some x0 ∧ x0.1 = x.1 := by
      intro k x hx
      rcases key k x hx with ⟨rfl, rfl⟩ | ⟨hk, hx⟩
      · exact ⟨_, hj, rfl⟩
      · exact ⟨_, hx, rfl⟩
    obtain ⟨x0, p1, p2⟩ := f a x hx
    obtain ⟨y0, p3, p4⟩ := f b y hy
    exact h.2.2.2.2 a b x0 y0 p1 p3 (p2.trans (hxy.trans p4.symm))
theorem va_at.ltH {q : Nat × va_E} (h : va_at D vwCl q H) : q.1 < H.size := va_at.lt h
/-- a new cell beside the kinds -/
theorem WX.push (h : WX D Y A sg al X H) {e : va_E} (h1 : va_at D vwCl (H.size, e) H') (oq : ∀ x, x < H.size → H'[x]? = H[x]?) (hA : A H.size) : WX D Y A sg al (X ++ [(H.size, e)]) H' := by
  have key : ∀ (k : Nat) (x : Nat × va_E), (X ++ [(H.size, e)])[k]? = some x → (X[k]? = some x ∧ x.1 < H.size) ∨ (k = X.length ∧ x = (H.size, e)) := by
    intro k x hx
    by_cases hl : k < X.length
    · rw [List.getElem?_append_left hl] at hx
      exact Or.inl ⟨hx, (h.2.2.2.1 k x hx).1.ltH⟩
    · rw [List.getElem?_append_right (by omega)] at hx
      have hz : k - X.length < 1 := (List.getElem?_eq_some_iff.mp hx).1
      have hk0 : k = X.length := by omega
      subst hk0
      rw [Nat.sub_self] at hx
      cases hx
      exact Or.inr ⟨rfl, rfl⟩
  refine ⟨fun k i hl => ⟨(h.1 k i hl).1.kept (oq _ (h.1 k i hl).1.ltH), (h.1 k i hl).2⟩, h.2.1, h.2.2.1, fun k x hx => ?_, fun a b x y hx hy hxy => ?_⟩
  · rcases key k x hx with ⟨hx, hlt⟩ | ⟨rfl, rfl⟩
    · obtain ⟨g1, g2, g3⟩ := h.2.2.2.1 k x hx
      exact ⟨g1.kept (oq _ hlt), g2, g3⟩
    · exact ⟨h1, hA, fun k i hl z => absurd (h.1 k i hl).1.ltH (by show ¬ al k i < H.size; rw [z]; exact Nat.lt_irrefl _)⟩
  · rcases key a x hx with ⟨hx, l1⟩ | ⟨rfl, rfl⟩ <;> rcases key b y hy with ⟨hy, l2⟩ | ⟨rfl, rfl⟩
    · exact h.2.2.2.2 a b x y hx hy hxy
    · exact absurd l1 (by rw [hxy]; exact Nat.lt_irrefl _)
    · exact absurd l2 (by rw [← hxy]; exact Nat.lt_irrefl _)
    · rfl
/-- cells beside the kinds come to be of a kind -/
theorem WX.absorb (X0 : va_W) (nu : Nat → Nat × Nat) (h : WX D Y A sg al X H) (h0 : ∀ (j : Nat) (x : Nat × va_E), X0[j]? = some x → ∃ j' : Nat, X[j']? = some x ∧ ∀ k i, nu j' = (k, i) → ¬ live sg' k i) (hX0 : ∀ (i j : Nat) (x y : Nat × va_E), X0[i]? = some x → X0[j]? = some y → x.1 = y.1 → i = j) (hC : ∀ L, L < 4 → sC sg' L = 0 → sC sg L = 0 ∧ al' 10 L = al 10 L)
    (h1 : ∀ k i, live sg' k i → (live sg k i ∧ al' k i = al k i ∧ cel Y sg' al' k i = cel Y sg al k i) ∨ (∃ j : Nat, X[j]? = some (al' k i, cel Y sg' al' k i) ∧ nu j = (k, i))) : WX D Y A sg' al' X0 H := by
  refine ⟨fun k i hl => ?_, fun k i k' i' hl hl' he => ?_, fun L hL hz => ?_, fun j x hx => ?_, hX0⟩
  · rcases h1 k i hl with ⟨a, b, c⟩ | ⟨j, a, b⟩
    · rw [b, c]; exact h.1 k i a
    · obtain ⟨g1, g2, -⟩ := h.2.2.2.1 j _ a
      exact ⟨g1, g2⟩
  · rcases h1 k i hl with ⟨a, b, c⟩ | ⟨j, a, b⟩ <;> rcases h1 k' i' hl' with ⟨a', b', c'⟩ | ⟨j', a', b'⟩
    · exact h.2.1 k i k' i' a a' (by rw [← b, ← b']; exact he)
    · exact absurd ((b.symm.trans he)) ((h.2.2.2.1 j' _ a').2.2 k i a)
    · exact absurd ((b'.symm.trans he.symm)) ((h.2.2.2.1 j _ a).2.2 k' i' a')
    · have hj := h.2.2.2.2 j j' _ _ a a' he
      subst hj
      have := b.symm.trans b'
      exact ⟨congrArg Prod.fst this, congrArg Prod.snd this⟩
  · obtain ⟨a, b⟩ := hC L hL hz
    rw [b]; exact h.2.2.1 L hL a
  · obtain ⟨j', hj', hnu⟩ := h0 j x hx
    obtain ⟨g1, g2, g3⟩ := h.2.2.2.1 j' x hj'
    refine ⟨g1, g2, fun k i hl he => ?_⟩
    rcases h1 k i hl with ⟨a, b, c⟩ | ⟨j2, a, b⟩
    · exact g3 k i a (b.symm.trans he)
    · have hjj := h.2.2.2.2 j2 j' _ _ a hj' he
      subst hjj
      exact hnu k i b hl
end KW
section KWR
variable {p : Program} {l : Launch} {e : Env} {R : Room} {s : State} {m : MethodId} {args : Array Value} {below : List Frame} {meth : Method} {c : Code} {Q : State → Prop}
variable {A : Nat → Prop} {n nL pc kk0 : Nat} {lv : List (Nat × Value)} {st rest : List Value} {cc : ByteArray} {own : String} {D : va_G} {Y : Nat → Nat} {sg : Sg} {al : Nat → Nat → Nat} {X : va_W}
theorem c_get (C0 : CallFix p m c cc nL s args TT own) (K0 : PK D Y A s) (k i : Nat) (hl : live sg k i) {ref C : String} {T : u_T} {N ci index : Nat} {fs : List Value} (he : cel Y sg al k i = .inr (ci, fs)) (hin : ∀ w ∈ u_ws C T N, w ∈ TT) (hc : vwCl[ci]? = some (C, T, N)) (j : Nat) (v : Value) (hj : j < N) (d : decode cc pc = .ok (.getfield index, 3)) (hlink : Cond.fieldLink own index ref (T j).2.1 (T j).2.2.1 ∈ TT) (hsame : ∀ x, s.fieldFound? (T j).1 (T j).2.1 (T j).2.2.1 = some x → s.fieldFound? ref (T j).2.1 (T j).2.2.1 = some x) (hv : fs[j]? = some v)
    (g : kG p l e R s m args below meth c Q A nL (WX D Y A sg al X) kk0 n (pc + 3) lv (v :: st)) : kG p l e R s m args below meth c Q A nL (WX D Y A sg al X) kk0 n pc lv (.ref (al k i) :: st) :=
  k_get C0 K0 hin hc j hj d hlink hsame (fun H hV => he ▸ (hV.1 k i hl).1) hv g
/-- an int field: its value as you name it -/
theorem c_getI (C0 : CallFix p m c cc nL s args TT own) (K0 : PK D Y A s) (k i : Nat) (hl : live sg k i) {ref C : String} {T : u_T} {N ci index : Nat} {fs : List Value} (he : cel Y sg al k i = .inr (ci, fs)) (hin : ∀ w ∈ u_ws C T N, w ∈ TT) (hc : vwCl[ci]? = some (C, T, N)) (j : Nat) (v : Int32) (hj : j < N) (d : decode cc pc = .ok (.getfield index, 3)) (hlink : Cond.fieldLink own index ref (T j).2.1 (T j).2.2.1 ∈ TT) (hsame : ∀ x, s.fieldFound? (T j).1 (T j).2.1 (T j).2.2.1 = some x → s.fieldFound? ref (T j).2.1 (T j).2.2.1 = some x) (hg : fs[j]? = some (.int (sg.1 k i j))) (hv : sg.1 k i j = v)
    (g : kG p l e R s m args below meth c Q A nL (WX D Y A sg al X) kk0 n (pc + 3) lv (.int v :: st)) : kG p l e R s m args below meth c Q A nL (WX D Y A sg al X) kk0 n pc lv (.ref (al k i) :: st) :=
  c_get C0 K0 k i hl he hin hc j _ hj d hlink hsame hg (by rw [hv]; exact g)
theorem c_putI (C0 : CallFix p m c cc nL s args TT own) (K0 : PK D Y A s) (k i : Nat) (hl : live sg k i) {ref C : String} {T : u_T} {N ci index : Nat} {fs : List Value} {v : Int32} {ty : FieldType} (he : cel Y sg al k i = .inr (ci, fs)) (hin : ∀ w ∈ u_ws C T N, w ∈ TT) (hc : vwCl[ci]? = some (C, T, N)) (ty0 : Nat → FieldType) (hty : ∀ k, k < N → parseFieldDescriptor (T k).2.2.1 = some (ty0 k)) (hnm : ∀ a, a < N → ∀ b, b < N → a ≠ b → (T a).2.1 ≠ (T b).2.1) (j : Nat) (hj : j < N) (d : decode cc pc = .ok (.putfield index, 3)) (hlink : Cond.fieldLink own index ref (T j).2.1 (T j).2.2.1 ∈ TT) (hsame : ∀ x, s.fieldFound? (T j).1 (T j).2.1 (T j).2.2.1 = some x → s.fieldFound? ref (T j).2.1 (T j).2.2.1 = some x) (hfin : (T j).2.2.2 = false) (hd : parseFieldDescriptor (T j).2.2.1 = some ty) (hn : narrow ty (.int v) = .int v) (hfit : fits ty (.int v) = true) (hl2 : j < fs.length) (he2 : celF Y (upd (sg.1 k i) j v) sg.2 al k i = .inr (ci, fs.set j (.int v)))
    (g : kG p l e R s m args below meth c Q A nL (WX D Y A (sI sg k i j v) al X) kk0 n (pc + 3) lv st) : kG p l e R s m args below meth c Q A nL (WX D Y A sg al X) kk0 n pc lv (.int v :: .ref (al k i) :: st) :=
  k_put C0 K0 hin hc ty0 hty hnm j hj d hlink hsame hfin hd hn hfit hl2 (fun H hV => ⟨he ▸ (hV.1 k i hl).1, (hV.1 k i hl).2⟩) (fun H H' hV _ h1 oq => hV.putI k i j v hl (he2.symm ▸ h1) oq) g
theorem c_iald (C0 : CallFix p m c cc nL s args TT own) (K0 : PK D Y A s) (k i : Nat) (hl : live sg k i) {N : Nat} {x v : Int32} (he : cel Y sg al k i = .inl (Y 0, N, .inl (sg.1 k i))) (hx : vp_in x N) (d : decode cc pc = .ok (.iaload, 1)) (hv : sg.1 k i x.toNatClampNeg = v)
    (g : kG p l e R s m args below meth c Q A nL (WX D Y A sg al X) kk0 n (pc + 1) lv (.int v :: st)) : kG p l e R s m args below meth c Q A nL (WX D Y A sg al X) kk0 n pc lv (.int x :: .ref (al k i) :: st) :=
  k_iald C0 K0 hx d (fun H hV => he ▸ (hV.1 k i hl).1) (by rw [hv]; exact g)
theorem c_iast (C0 : CallFix p m c cc nL s args TT own) (K0 : PK D Y A s) (k i : Nat) (hl : live sg k i) {N : Nat} {x v : Int32} (he : cel Y sg al k i = .inl (Y 0, N, .inl (sg.1 k i))) (hx : vp_in x N) (d : decode cc pc = .ok (.iastore, 1)) (he2 : celF Y (upd (sg.1 k i) x.toNatClampNeg v) sg.2 al k i = .inl (Y 0, N, .inl (upd (sg.1 k i) x.toNatClampNeg v)))
    (g : kG p l e R s m args below meth c Q A nL (WX D Y A (sI sg k i x.toNatClampNeg v) al X) kk0 n (pc + 1) lv st) : kG p l e R s m args below meth c Q A nL (WX D Y A sg al X) kk0 n pc lv (.int v :: .int x :: .ref (al k i) :: st) :=
  k_iast C0 K0 hx d (fun H hV => ⟨he ▸ (hV.1 k i hl).1, (hV.1 k i hl).2⟩) (fun H H' hV _ h1 oq => hV.putI k i _ v hl (he2.symm ▸ h1) oq) g
theorem c_alen (C0 : CallFix p m c cc nL s args TT own) (K0 : PK D Y A s) (k i : Nat) (hl : live sg k i) {cA : ClassId} {x : vp_A} (he : cel Y sg al k i = .inl (cA, x)) (t0 : Nat) {ty : FieldType} (ht : (kTy Y)[t0]? = some (cA, ty)) (v : Int32) (hv : Int32.ofNat x.1 = v) (d : decode cc pc = .ok (.arraylength, 1))
    (g : kG p l e R s m args below meth c Q A nL (WX D Y A sg al X) kk0 n (pc + 1) lv (.int v :: st)) : kG p l e R s m args below meth c Q A nL (WX D Y A sg al X) kk0 n pc lv (.ref (al k i) :: st) :=
  k_alen C0 K0 t0 ht v hv d (fun H hV => he ▸ (hV.1 k i hl).1) g
theorem c_aald (C0 : CallFix p m c cc nL s args TT own) (K0 : PK D Y A s) (k i : Nat) (hl : live sg k i) {cA : ClassId} {N v : Nat} {C : String} {f : Nat → Option Nat} {x : Int32} (he : cel Y sg al k i = .inl (cA, N, .inr (.inr (.inr (.inr f))))) (t0 : Nat) (ht : (kTy Y)[t0]? = some (cA, .object C)) (hx : vp_in x N) (d : decode cc pc = .ok (.aaload, 1)) (hv : f x.toNatClampNeg = some v)
    (g : kG p l e R s m args below meth c Q A nL (WX D Y A sg al X) kk0 n (pc + 1) lv (.ref v :: st)) : kG p l e R s m args below meth c Q A nL (WX D Y A sg al X) kk0 n pc lv (.int x :: .ref (al k i) :: st) :=
  k_aald C0 K0 ht hx d (fun H hV => he ▸ (hV.1 k i hl).1) hv g
theorem c_recv (K0 : PK D Y A s) (k i : Nat) (hl : live sg k i) {ci : Nat} {q : vw_C} {fs : List Value} (he : cel Y sg al k i = .inr (ci, fs)) (hc : vwCl[ci]? = some q) : ∀ H, WX D Y A sg al X H → ∃ cell : Cell, H[al k i]? = some cell ∧ cell.vm.isStatics = false ∧ s.vm.findClass q.1 = some cell.cls := fun H hV => k_recv K0 hc (he ▸ (hV.1 k i hl).1)
theorem c_cast (C0 : CallFix p m c cc nL s args TT own) (K0 : PK D Y A s) (k i : Nat) (hl : live sg k i) {ci index : Nat} {q : vw_C} {fs : List Value} (he : cel Y sg al k i = .inr (ci, fs)) (hc : vwCl[ci]? = some q) (hlink : Cond.classLink own index q.1 ∈ TT) (d : decode cc pc = .ok (.checkcast index, 3))
    (g : kG p l e R s m args below meth c Q A nL (WX D Y A sg al X) kk0 n (pc + 3) lv (.ref (al k i) :: st)) : kG p l e R s m args below meth c Q A nL (WX D Y A sg al X) kk0 n pc lv (.ref (al k i) :: st) :=
  k_castS C0 K0 hc hlink d (fun H hV => he ▸ (hV.1 k i hl).1) g
theorem x_get (C0 : CallFix p m c cc nL s args TT own) (K0 : PK D Y A s) (jx : Nat) {q : Nat} {ref C : String} {T : u_T} {N ci index : Nat} {fs : List Value} (he : X[jx]? = some (q, .inr (ci, fs))) (hin : ∀ w ∈ u_ws C T N, w ∈ TT) (hc : vwCl[ci]? = some (C, T, N)) (j : Nat) (v : Value) (hj : j < N) (d : decode cc pc = .ok (.getfield index, 3)) (hlink : Cond.fieldLink own index ref (T j).2.1 (T j).2.2.1 ∈ TT) (hsame : ∀ x, s.fieldFound? (T j).1 (T j).2.1 (T j).2.2.1 = some x → s.fieldFound? ref (T j).2.1 (T j).2.2.1 = some x) (hv : fs[j]? = some v)
    (g : kG p l e R s m args below meth c Q A nL (WX D Y A sg al X) kk0 n (pc + 3) lv (v :: st)) : kG p l e R s m args below meth c Q A nL (WX D Y A sg al X) kk0 n pc lv (.ref q :: st) :=
  k_get C0 K0 hin hc j hj d hlink hsame (fun H hV => (hV.2.2.2.1 jx _ he).1) hv g
theorem x_put (C0 : CallFix p m c cc nL s args TT own) (K0 : PK D Y A s) (jx : Nat) {q : Nat} {ref C : String} {T : u_T} {N ci index : Nat} {fs : List Value} {v : Value} {ty : FieldType} (he : X[jx]? = some (q, .inr (ci, fs))) (hin : ∀ w ∈ u_ws C T N, w ∈ TT) (hc : vwCl[ci]? = some (C, T, N)) (ty0 : Nat → FieldType) (hty : ∀ k, k < N → parseFieldDescriptor (T k).2.2.1 = some (ty0 k)) (hnm : ∀ a, a < N → ∀ b, b < N → a ≠ b → (T a).2.1 ≠ (T b).2.1) (j : Nat) (hj : j < N) (d : decode cc pc = .ok (.putfield index, 3)) (hlink : Cond.fieldLink own index ref (T j).2.1 (T j).2.2.1 ∈ TT) (hsame : ∀ x, s.fieldFound? (T j).1 (T j).2.1 (T j).2.2.1 = some x → s.fieldFound? ref (T j).2.1 (T j).2.2.1 = some x) (hfin : (T j).2.2.2 = false) (hd : parseFieldDescriptor (T j).2.2.1 = some ty) (hn : narrow ty v = v) (hfit : fits ty v = true) (hl2 : j < fs.length) (X2 : va_W) (hX : X.set jx (q, .inr (ci, fs.set j v)) = X2)
    (g : kG p l e R s m args below meth c Q A nL (WX D Y A sg al X2) kk0 n (pc + 3) lv st) : kG p l e R s m args below meth c Q A nL (WX D Y A sg al X) kk0 n pc lv (v :: .ref q :: st) :=
  k_put C0 K0 hin hc ty0 hty hnm j hj d hlink hsame hfin hd hn hfit hl2 (fun H hV => ⟨(hV.2.2.2.1 jx _ he).1, (hV.2.2.2.1 jx _ he).2.1⟩) (fun H H' hV _ h1 oq => hX ▸ hV.putX jx he h1 oq) g
theorem x_putF (C0 : CallFix p m c cc nL s args TT own) (K0 : PK D Y A s) (hin2 : meth.name = "<init>") (jx : Nat) {q : Nat} {ref C : String} {T : u_T} {N ci index : Nat} {fs : List Value} {v : Value} {ty : FieldType} (he : X[jx]? = some (q, .inr (ci, fs))) (hin : ∀ w ∈ u_ws C T N, w ∈ TT) (hc : vwCl[ci]? = some (C, T, N)) (ty0 : Nat → FieldType) (hty : ∀ k, k < N → parseFieldDescriptor (T k).2.2.1 = some (ty0 k)) (hnm : ∀ a, a < N → ∀ b, b < N → a ≠ b → (T a).2.1 ≠ (T b).2.1) (j : Nat) (hj : j < N) (d : decode cc pc = .ok (.putfield index, 3)) (hlink : Cond.fieldLink own index ref (T j).2.1 (T j).2.2.1 ∈ TT) (hsame : ∀ x, s.fieldFound? (T j).1 (T j).2.1 (T j).2.2.1 = some x → s.fieldFound? ref (T j).2.1 (T j).2.2.1 = some x) (hfin : (T j).2.2.2 = true) (hdecl : (T j).1 = own) (hd : parseFieldDescriptor (T j).2.2.1 = some ty) (hn : narrow ty v = v) (hfit : fits ty v = true) (hl2 : j < fs.length) (X2 : va_W) (hX : X.set jx (q, .inr (ci, fs.set j v)) = X2)
    (g : kG p l e R s m args below meth c Q A nL (WX D Y A sg al X2) kk0 n (pc + 3) lv st) : kG p l e R s m args below meth c Q A nL (WX D Y A sg al X) kk0 n pc lv (v :: .ref q :: st) :=
  k_putF C0 K0 hin hc ty0 hty hnm j hj d hlink hsame hfin hin2 hdecl hd hn hfit hl2 (fun H hV => ⟨(hV.2.2.2.1 jx _ he).1, (hV.2.2.2.1 jx _ he).2.1⟩) (fun H H' hV _ h1 oq => hX ▸ hV.putX jx he h1 oq) g
theorem x_new (C0 : CallFix p m c cc nL s args TT own) (K0 : PK D Y A s) {C : String} {T : u_T} {N ci index : Nat} (fs : List Value) (hin : ∀ w ∈ u_ws C T N, w ∈ TT) (hc : vwCl[ci]? = some (C, T, N)) (ty : Nat → FieldType) (hty : ∀ k, k < N → parseFieldDescriptor (T k).2.2.1 = some (ty k)) (hcl : Cond.classLink own index C ∈ TT) (hinst : Cond.instantiable C N ∈ TT) (hini : Cond.initialized C ∈ TT) (hfs : ∀ j, j < N → defaultValue (ty j) = vp_V fs j) (hcells : kk0 + 1 ≤ R.cells) (hslots : n + N ≤ R.slots) (d : decode cc pc = .ok (.new index, 3))
    (g : ∀ q, kG p l e R s m args below meth c Q A nL (WX D Y A sg al (X ++ [(q, .inr (ci, fs))])) (kk0 + 1) (n + N) (pc + 3) lv (.ref q :: st)) : kG p l e R s m args below meth c Q A nL (WX D Y A sg al X) kk0 n pc lv st :=
  k_new C0 K0 hin hc ty hty hcl hinst hini hfs hcells hslots d (fun H H' hV _ h1 oq hA => hV.push h1 oq hA) g
theorem x_newai (C0 : CallFix p m c cc nL s args TT own) (K0 : PK D Y A s) {x : Int32} (N : Nat) (harr : Cond.arrayClass .int ∈ TT) (hx : ¬ x < 0) (hN : x.toNatClampNeg = N) (hb : N ≤ 100000) (hcells : kk0 + 1 ≤ R.cells) (hslots : n + N ≤ R.slots) (d : decode cc pc = .ok (.newarray .int, 2))
    (g : ∀ q, kG p l e R s m args below meth c Q A nL (WX D Y A sg al (X ++ [(q, .inl (Y 0, N, .inl (fun _ => 0)))])) (kk0 + 1) (n + N) (pc + 2) lv (.ref q :: st)) : kG p l e R s m args below meth c Q A nL (WX D Y A sg al X) kk0 n pc lv (.int x :: st) :=
  k_newai C0 K0 N harr hx hN hb hcells hslots d (fun H H' hV _ h1 oq hA => hV.push h1 oq hA) g
theorem x_newq (C0 : CallFix p m c cc nL s args TT own) (K0 : PK D Y A s) {C : String} {cA : ClassId} {index t0 : Nat} {x : Int32} (N : Nat) (hclink : Cond.classLink own index C ∈ TT) (hover : va_AO C s) (ht : (kTy Y)[t0]? = some (cA, .object C)) (hx : ¬ x < 0) (hN : x.toNatClampNeg = N) (hb : N ≤ 100000) (hcells : kk0 + 1 ≤ R.cells) (hslots : n + N ≤ R.slots) (d : decode cc pc = .ok (.anewarray index, 3))
    (g : ∀ q, kG p l e R s m args below meth c Q A nL (WX D Y A sg al (X ++ [(q, .inl (cA, N, .inr (.inr (.inr (.inr (fun _ => none))))))])) (kk0 + 1) (n + N) (pc + 3) lv (.ref q :: st)) : kG p l e R s m args below meth c Q A nL (WX D Y A sg al X) kk0 n pc lv (.int x :: st) :=
  k_newq C0 K0 N hclink hover ht hx hN hb hcells hslots d (fun H H' hV _ h1 oq hA => hV.push h1 oq hA) g
theorem x_iast (C0 : CallFix p m c cc nL s args TT own) (K0 : PK D Y A s) (jx : Nat) {q N : Nat} {f : Nat → Int32} {x v : Int32} (he : X[jx]? = some (q, .inl (Y 0, N, .inl f))) (hx : vp_in x N) (d : decode cc pc = .ok (.iastore, 1)) (X2 : va_W) (hX : X.set jx (q, .inl (Y 0, N, .inl (upd f x.toNatClampNeg v))) = X2)
    (g : kG p l e R s m args below meth c Q A nL (WX D Y A sg al X2) kk0 n (pc + 1) lv st) : kG p l e R s m args below meth c Q A nL (WX D Y A sg al X) kk0 n pc lv (.int v :: .int x :: .ref q :: st) :=
  k_iast C0 K0 hx d (fun H hV => ⟨(hV.2.2.2.1 jx _ he).1, (hV.2.2.2.1 jx _ he).2.1⟩) (fun H H' hV _ h1 oq => hX ▸ hV.putX jx he h1 oq) g
theorem x_alen (C0 : CallFix p m c cc nL s args TT own) (K0 : PK D Y A s) (jx : Nat) {q : Nat} {cA : ClassId} {x : vp_A} (he : X[jx]? = some (q, .inl (cA, x))) (t0 : Nat) {ty : FieldType} (ht : (kTy Y)[t0]? = some (cA, ty)) (v : Int32) (hv : Int32.ofNat x.1 = v) (d : decode cc pc = .ok (.arraylength, 1))
    (g : kG p l e R s m args below meth c Q A nL (WX D Y A sg al X) kk0 n (pc + 1) lv (.int v :: st)) : kG p l e R s m args below meth c Q A nL (WX D Y A sg al X) kk0 n pc lv (.ref q :: st) :=
  k_alen C0 K0 t0 ht v hv d (fun H hV => (hV.2.2.2.1 jx _ he).1) g
end KWR
