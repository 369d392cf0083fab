/-! lists: what a store of theirs does to the world -/
def sL (sg : Sg) (f L v : Nat) : Sg := sP sg f L 0 v
section KL
variable {D : va_G} {Y : Nat → Nat} {A : Nat → Prop} {sg : Sg} {al : Nat → Nat → Nat} {X : va_W} {H H' : Heap}
theorem cel_21 (L v : Nat) : ∀ (k i : Nat), ¬ (k = 9 ∧ i = L) → cel Y (sP sg 21 L 0 v) al k i = cel Y sg al k i
  | 0, _, _ => rfl | 1, _, _ => rfl | 2, _, _ => rfl | 3, _, _ => rfl | 4, _, _ => rfl | 5, _, _ => rfl | 6, _, _ => rfl | 7, _, _ => rfl | 8, _, _ => rfl
  | 9, i, h => by
    have e : (sP sg 21 L 0 v).2 21 i 0 = sg.2 21 i 0 := if_neg (fun z => h ⟨rfl, z.2.1⟩)
    show Sum.inr (0, [Value.int (sg.1 9 i 0), .ref (al 10 i), .int (nI ((sP sg 21 L 0 v).2 21 i 0))]) = _
    rw [e]
    rfl
  | _ + 10, _, _ => rfl
theorem cel_23 (L v : Nat) : ∀ (k i : Nat), ¬ (k = 10 ∧ i = L) → (k ≤ 10) → cel Y (sP sg 23 L 0 v) al k i = cel Y sg al k i
  | 0, _, _, _ => rfl | 1, _, _, _ => rfl | 2, _, _, _ => rfl | 3, _, _, _ => rfl | 4, _, _, _ => rfl | 5, _, _, _ => rfl | 6, _, _, _ => rfl | 7, _, _, _ => rfl | 8, _, _, _ => rfl | 9, _, _, _ => rfl
  | 10, i, h, _ => by
    have e : (sP sg 23 L 0 v).2 23 i 0 = sg.2 23 i 0 := if_neg (fun z => h ⟨rfl, z.2.1⟩)
    show (Sum.inl (Y 3, sg.2 22 i 0, .inr (.inr (.inr (.inr (lEl ((sP sg 23 L 0 v).2 23 i 0) (al (2 + i))))))) : va_E) = _
    rw [e]
    rfl
  | n + 11, _, _, h => by omega
theorem live_le {k i : Nat} (h : live sg k i) : k ≤ 10 := by
  rcases Nat.lt_or_ge 10 k with q | q
  · obtain ⟨n, rfl⟩ : ∃ n, k = n + 11 := ⟨k - 11, by omega⟩
    exact h.elim
  · exact q
theorem live_P {f L v : Nat} (hf : f = 21 ∨ f = 23 ∨ f = 5) : ∀ k' i', live (sP sg f L 0 v) k' i' ↔ live sg k' i' := by
  rcases hf with rfl | rfl | rfl <;> (intro k i; match k with
    | 0 => exact Iff.rfl | 1 => exact Iff.rfl | 2 => exact Iff.rfl | 3 => exact Iff.rfl | 4 => exact Iff.rfl | 5 => exact Iff.rfl | 6 => exact Iff.rfl | 7 => exact Iff.rfl | 8 => exact Iff.rfl | 9 => exact Iff.rfl | 10 => exact Iff.rfl | _ + 11 => exact Iff.rfl)
theorem WX.putSz (h : WX D Y A sg al X H) (L v : Nat) (hL : L < 4) (h1 : va_at D vwCl (al 9 L, .inr (0, [.int (sg.1 9 L 0), .ref (al 10 L), .int (nI v)])) H') (oq : ∀ q, q ≠ al 9 L → H'[q]? = H[q]?) : WX D Y A (sP sg 21 L 0 v) al X H' := by
  refine h.put 9 L hL (live_P (Or.inl rfl)) (fun _ _ => rfl) (fun k i _ hne => cel_21 L v k i hne) ?_ oq
  have e : (sP sg 21 L 0 v).2 21 L 0 = v := up3_at
  show va_at D vwCl (al 9 L, .inr (0, [.int (sg.1 9 L 0), .ref (al 10 L), .int (nI ((sP sg 21 L 0 v).2 21 L 0))])) H'
  rw [e]
  exact h1
theorem lEl_up (fz : Nat) (ad : Nat → Nat) : va_up (lEl fz ad) fz (some (ad fz)) = lEl (fz + 1) ad := by
  funext j
  by_cases h : j = fz
  · subst h; simp [va_up, lEl]
  · have : (j < fz + 1) ↔ (j < fz) := by omega
    simp [va_up, lEl, h, this]
theorem WX.putEl (h : WX D Y A sg al X H) (L : Nat) (hl : live sg 10 L) (h1 : va_at D vwCl (al 10 L, .inl (Y 3, sC sg L, .inr (.inr (.inr (.inr (va_up (lEl (sF sg L) (al (2 + L))) (sF sg L) (some (al (2 + L) (sF sg L))))))))) H') (oq : ∀ q, q ≠ al 10 L → H'[q]? = H[q]?) : WX D Y A (sP sg 23 L 0 (sF sg L + 1)) al X H' := by
  refine h.put 10 L hl (live_P (Or.inr (Or.inl rfl))) (fun _ _ => rfl) (fun k i hk hne => cel_23 L _ k i hne (live_le hk)) ?_ oq
  have e : (sP sg 23 L 0 (sF sg L + 1)).2 23 L 0 = sF sg L + 1 := up3_at
  show va_at D vwCl (al 10 L, .inl (Y 3, sg.2 22 L 0, .inr (.inr (.inr (.inr (lEl ((sP sg 23 L 0 (sF sg L + 1)).2 23 L 0) (al (2 + L)))))))) H'
  rw [e, ← lEl_up]
  exact h1
theorem aU_at {al : Nat → Nat → Nat} {k i q : Nat} : aU al k i q k i = q := by simp [aU]
theorem aU_ne {al : Nat → Nat → Nat} {k i q k' i' : Nat} (h : ¬ (k' = k ∧ i' = i)) : aU al k i q k' i' = al k' i' := by
  unfold aU
  by_cases h1 : k' = k
  · rw [if_pos h1, if_neg (fun z => h ⟨h1, z⟩)]
  · rw [if_neg h1]
/-- another list's array: al at kind 10 is seen in kind 9 alone -/
theorem celF_al (f : Nat → Int32) (P : Nat → Nat → Nat → Nat) (L q : Nat) (hL : L < 4) : ∀ (k i : Nat), ¬ (k = 9 ∧ i = L) → (k = 10 → i < 4) → k ≤ 10 → celF Y f P (aU al 10 L q) k i = celF Y f P al k i
  | 0, _, _, _, _ => rfl | 1, _, _, _, _ => rfl | 2, _, _, _, _ => rfl | 3, _, _, _, _ => rfl | 4, _, _, _, _ => rfl | 5, _, _, _, _ => rfl | 6, _, _, _, _ => rfl | 7, _, _, _, _ => rfl | 8, _, _, _, _ => rfl
  | 9, i, h, _, _ => by
    have e : aU al 10 L q 10 i = al 10 i := aU_ne (fun z => h ⟨rfl, z.2⟩)
    show Sum.inr (0, [Value.int (f 0), .ref (aU al 10 L q 10 i), .int (nI (P 21 i 0))]) = _
    rw [e]
    rfl
  | 10, i, _, h4, _ => by
    have h5 := h4 rfl
    have e : aU al 10 L q (2 + i) = al (2 + i) := by
      funext j
      exact aU_ne (fun z => by omega)
    show (Sum.inl (Y 3, P 22 i 0, .inr (.inr (.inr (.inr (lEl (P 23 i 0) (aU al 10 L q (2 + i))))))) : va_E) = _
    rw [e]
    rfl
  | n + 11, i, _, _, h => by omega
theorem cel_22 (L v : Nat) : ∀ (k i : Nat), ¬ (k = 10 ∧ i = L) → (k ≤ 10) → cel Y (sP sg 22 L 0 v) al k i = cel Y sg al k i
  | 0, _, _, _ => rfl | 1, _, _, _ => rfl | 2, _, _, _ => rfl | 3, _, _, _ => rfl | 4, _, _, _ => rfl | 5, _, _, _ => rfl | 6, _, _, _ => rfl | 7, _, _, _ => rfl | 8, _, _, _ => rfl | 9, _, _, _ => rfl
  | 10, i, h, _ => by
    have e : (sP sg 22 L 0 v).2 22 i 0 = sg.2 22 i 0 := if_neg (fun z => h ⟨rfl, z.2.1⟩)
    show (Sum.inl (Y 3, (sP sg 22 L 0 v).2 22 i 0, .inr (.inr (.inr (.inr (lEl (sg.2 23 i 0) (al (2 + i))))))) : va_E) = _
    rw [e]
    rfl
  | n + 11, _, _, h => by omega
theorem live_22 {L v : Nat} (hL : L < 4) (hv : 0 < v) (k i : Nat) : live (sP sg 22 L 0 v) k i ↔ live sg k i ∨ (k = 10 ∧ i = L) := by
  match k with
  | 0 => exact ⟨Or.inl, fun h => h.elim id (fun z => by omega)⟩ | 1 => exact ⟨Or.inl, fun h => h.elim id (fun z => by omega)⟩ | 2 => exact ⟨Or.inl, fun h => h.elim id (fun z => by omega)⟩ | 3 => exact ⟨Or.inl, fun h => h.elim id (fun z => by omega)⟩ | 4 => exact ⟨Or.inl, fun h => h.elim id (fun z => by omega)⟩ | 5 => exact ⟨Or.inl, fun h => h.elim id (fun z => by omega)⟩ | 6 => exact ⟨Or.inl, fun h => h.elim id (fun z => by omega)⟩ | 7 => exact ⟨Or.inl, fun h => h.elim id (fun z => by omega)⟩ | 8 => exact ⟨Or.inl, fun h => h.elim id (fun z => by omega)⟩ | 9 => exact ⟨Or.inl, fun h => h.elim id (fun z => by omega)⟩
  | 10 =>
    show (i < 4 ∧ 0 < (sP sg 22 L 0 v).2 22 i 0) ↔ (i < 4 ∧ 0 < sg.2 22 i 0) ∨ (10 = 10 ∧ i = L)
    by_cases h : i = L
    · subst h
      have e : (sP sg 22 i 0 v).2 22 i 0 = v := up3_at
      rw [e]
      exact ⟨fun _ => Or.inr ⟨rfl, rfl⟩, fun _ => ⟨hL, hv⟩⟩
    · have e : (sP sg 22 L 0 v).2 22 i 0 = sg.2 22 i 0 := if_neg (fun z => h z.2.1)
      rw [e]
      exact ⟨Or.inl, fun z => z.elim id (fun y => absurd y.2 h)⟩
  | n + 11 => exact ⟨Or.inl, fun h => h.elim id (fun z => by omega)⟩
/-- a list has a new array -/
theorem WX.grow {q N : Nat} {f : Nat → Option Nat} (L : Nat) (hL : L < 4) (hN : 0 < N) (hf : f = lEl (sF sg L) (al (2 + L))) (h : WX D Y A sg al (X ++ [(q, .inl (Y 3, N, .inr (.inr (.inr (.inr f)))))]) H) (h1 : va_at D vwCl (al 9 L, .inr (0, [.int (sg.1 9 L 0), .ref q, .int (nI (sZ sg L))])) H') (oq : ∀ x, x ≠ al 9 L → H'[x]? = H[x]?) : WX D Y A (sP sg 22 L 0 N) (aU al 10 L q) X H' := by
  subst hf
  have hq : (X ++ [(q, Sum.inl (Y 3, N, Sum.inr (Sum.inr (Sum.inr (Sum.inr (lEl (sF sg L) (al (2 + L))))))))])[X.length]? = some (q, .inl (Y 3, N, .inr (.inr (.inr (.inr (lEl (sF sg L) (al (2 + L)))))))) := by rw [List.getElem?_append_right (Nat.le_refl _), Nat.sub_self]; rfl
  obtain ⟨x1, x2, x3⟩ := h.2.2.2.1 _ _ hq
  have hX : ∀ (j : Nat) (x : Nat × va_E), X[j]? = some x → (X ++ [(q, Sum.inl (Y 3, N, Sum.inr (Sum.inr (Sum.inr (Sum.inr (lEl (sF sg L) (al (2 + L))))))))])[j]? = some x := fun j x hx => by
    rw [List.getElem?_append_left (List.getElem?_eq_some_iff.mp hx).1]; exact hx
  have l9 : live sg 9 L := hL
  have key : ∀ k i, live (sP sg 22 L 0 N) k i → (live sg k i ∧ ¬ (k = 10 ∧ i = L) ∧ aU al 10 L q k i = al k i) ∨ (k = 10 ∧ i = L ∧ aU al 10 L q k i = q) := by
    intro k i hl
    by_cases e : k = 10 ∧ i = L
    · obtain ⟨rfl, rfl⟩ := e
      exact Or.inr ⟨rfl, rfl, aU_at⟩
    · exact Or.inl ⟨((live_22 hL hN k i).mp hl).elim id (fun z => absurd z e), e, aU_ne e⟩
  refine ⟨fun k i hl => ?_, fun k i k' i' hl hl' he => ?_, fun L' hL' hz => ?_, fun j x hx => ?_, fun a b x y ha hb => h.2.2.2.2 a b x y (hX a x ha) (hX b y hb)⟩
  · rcases key k i hl with ⟨a, b, e⟩ | ⟨rfl, rfl, e⟩
    · rw [e]
      by_cases h9 : k = 9 ∧ i = L
      · obtain ⟨rfl, rfl⟩ := h9
        refine ⟨?_, (h.1 9 i a).2⟩
        have e2 : aU al 10 i q 10 i = q := aU_at
        show va_at D vwCl (al 9 i, .inr (0, [.int (sg.1 9 i 0), .ref (aU al 10 i q 10 i), .int (nI (sZ sg i))])) H'
        rw [e2]
        exact h1
      · refine ⟨?_, (h.1 k i a).2⟩
        have e2 : cel Y (sP sg 22 L 0 N) (aU al 10 L q) k i = cel Y sg al k i := (celF_al _ _ L q hL k i h9 (fun z => by subst z; exact a.1) (live_le a)).trans (cel_22 L N k i b (live_le a))
        rw [e2]
        exact (h.1 k i a).1.kept (oq _ (fun z => h9 (h.2.1 _ _ _ _ a l9 z)))
    · rw [e]
      refine ⟨?_, x2⟩
      have e2 : (sP sg 22 i 0 N).2 22 i 0 = N := up3_at
      have e3 : aU al 10 i q (2 + i) = al (2 + i) := by
        funext j
        exact aU_ne (fun z => by omega)
      show va_at D vwCl (q, .inl (Y 3, (sP sg 22 i 0 N).2 22 i 0, .inr (.inr (.inr (.inr (lEl (sg.2 23 i 0) (aU al 10 i q (2 + i)))))))) H'
      rw [e2, e3]
      exact x1.kept (oq _ (fun z => x3 9 i l9 z.symm))
  · rcases key k i hl with ⟨a, b, e⟩ | ⟨rfl, rfl, e⟩ <;> rcases key k' i' hl' with ⟨a', b', e'⟩ | ⟨rfl, rfl, e'⟩
    · exact h.2.1 k i k' i' a a' (by rw [← e, ← e']; exact he)
    · exact absurd (e.symm.trans (he.trans e')) (x3 k i a)
    · exact absurd (e'.symm.trans (he.symm.trans e)) (x3 k' i' a')
    · exact ⟨rfl, rfl⟩
  · by_cases e : L' = L
    · subst e
      have e2 : (sP sg 22 L' 0 N).2 22 L' 0 = N := up3_at
      have hz' : (sP sg 22 L' 0 N).2 22 L' 0 = 0 := hz
      omega
    · have e2 : (sP sg 22 L 0 N).2 22 L' 0 = sg.2 22 L' 0 := if_neg (fun z => e z.2.1)
      have hz' : (sP sg 22 L 0 N).2 22 L' 0 = 0 := hz
      rw [aU_ne (fun z => e z.2)]
      exact h.2.2.1 L' hL' (e2.symm.trans hz')
  · obtain ⟨g1, g2, g3⟩ := h.2.2.2.1 j x (hX j x hx)
    refine ⟨g1.kept (oq _ (fun z => g3 9 L l9 z.symm)), g2, fun k i hl he => ?_⟩
    rcases key k i hl with ⟨a, b, e⟩ | ⟨rfl, rfl, e⟩
    · exact g3 k i a (e.symm.trans he)
    · have hj := h.2.2.2.2 _ _ _ _ hq (hX j x hx) (e.symm.trans he)
      subst hj
      exact absurd (List.getElem?_eq_some_iff.mp hx).1 (Nat.lt_irrefl _)
end KL
section KLR
variable {p : Program} {l : Launch} {e : Env} {R : Room} {s : State} {m : MethodId} {args : Array Value} {below : List Frame} {meth : Method} {c : Code} {Q : State → Prop}
variable {A : Nat → Prop} {n nL pc kk0 : Nat} {lv : List (Nat × Value)} {st rest : List Value} {cc : ByteArray} {own : String} {D : va_G} {Y : Nat → Nat} {sg : Sg} {al : Nat → Nat → Nat} {X : va_W} {V V' : Heap → Prop}
theorem l_putSz (C0 : CallFix p m c cc nL s args TT own) (K0 : PK D Y A s) (L v : Nat) (hL : L < 4) {ref : String} {index : Nat} (d : decode cc pc = .ok (.putfield index, 3)) (hlink : Cond.fieldLink own index ref (TJx4a65c 2).2.1 (TJx4a65c 2).2.2.1 ∈ TT) (hsame : ∀ x, s.fieldFound? (TJx4a65c 2).1 (TJx4a65c 2).2.1 (TJx4a65c 2).2.2.1 = some x → s.fieldFound? ref (TJx4a65c 2).2.1 (TJx4a65c 2).2.2.1 = some x)
    (g : kG p l e R s m args below meth c Q A nL (WX D Y A (sP sg 21 L 0 v) al X) kk0 n (pc + 3) lv st) : kG p l e R s m args below meth c Q A nL (WX D Y A sg al X) kk0 n pc lv (.int (nI v) :: .ref (al 9 L) :: st) :=
  k_put (fs := [.int (sg.1 9 L 0), .ref (al 10 L), .int (nI (sZ sg L))]) (ty := .int) C0 K0 inJx4a65c rfl tyJx4a65c tyJx4a65c_ok nmJx4a65c 2 (by decide) d hlink hsame rfl (by decide +kernel) rfl rfl (Nat.le_of_ble_eq_true rfl) (fun H hV => ⟨(hV.1 9 L hL).1, (hV.1 9 L hL).2⟩) (fun H H' hV _ h1 oq => hV.putSz L v hL h1 oq) g
theorem l_putEd (C0 : CallFix p m c cc nL s args TT own) (K0 : PK D Y A s) (L : Nat) (hL : L < 4) {q N : Nat} {f : Nat → Option Nat} (hN : 0 < N) (hf : f = lEl (sF sg L) (al (2 + L))) {ref : String} {index : Nat} (d : decode cc pc = .ok (.putfield index, 3)) (hlink : Cond.fieldLink own index ref (TJx4a65c 1).2.1 (TJx4a65c 1).2.2.1 ∈ TT) (hsame : ∀ x, s.fieldFound? (TJx4a65c 1).1 (TJx4a65c 1).2.1 (TJx4a65c 1).2.2.1 = some x → s.fieldFound? ref (TJx4a65c 1).2.1 (TJx4a65c 1).2.2.1 = some x)
    (g : kG p l e R s m args below meth c Q A nL (WX D Y A (sP sg 22 L 0 N) (aU al 10 L q) X) kk0 n (pc + 3) lv st) : kG p l e R s m args below meth c Q A nL (WX D Y A sg al (X ++ [(q, .inl (Y 3, N, .inr (.inr (.inr (.inr f)))))])) kk0 n pc lv (.ref q :: .ref (al 9 L) :: st) :=
  k_put (fs := [.int (sg.1 9 L 0), .ref (al 10 L), .int (nI (sZ sg L))]) (ty := .array (.object "java/lang/Object")) C0 K0 inJx4a65c rfl tyJx4a65c tyJx4a65c_ok nmJx4a65c 1 (by decide) d hlink hsame rfl (by decide +kernel) rfl rfl (Nat.le_of_ble_eq_true rfl) (fun H hV => ⟨(hV.1 9 L hL).1, (hV.1 9 L hL).2⟩) (fun H H' hV _ h1 oq => WX.grow L hL hN hf hV h1 oq) g
theorem l_aast (C0 : CallFix p m c cc nL s args TT own) (K0 : PK D Y A s) (L : Nat) (hL : L < 4) (hc : sF sg L < sC sg L) (hb : sC sg L < 2 ^ 31) (hf : sF sg L < sN sg (2 + L)) (d : decode cc pc = .ok (.aastore, 1)) (g : kG p l e R s m args below meth c Q A nL (WX D Y A (sP sg 23 L 0 (sF sg L + 1)) al X) kk0 n (pc + 1) lv st) : kG p l e R s m args below meth c Q A nL (WX D Y A sg al X) kk0 n pc lv (.ref (al (2 + L) (sF sg L)) :: .int (nI (sF sg L)) :: .ref (al 10 L) :: st) := by
  have hl : live sg 10 L := ⟨hL, by omega⟩
  have hle : live sg (2 + L) (sF sg L) := by
    rcases (show L = 0 ∨ L = 1 ∨ L = 2 ∨ L = 3 by omega) with rfl | rfl | rfl | rfl <;> exact hf
  obtain ⟨vs, r, hce, hr, hca⟩ : ∃ (vs : List Value) (r : vw_C), cel Y sg al (2 + L) (sF sg L) = .inr (2 + L, vs) ∧ vwCl[2 + L]? = some r ∧ (r.1, "java/lang/Object") ∈ kCa := by
    rcases (show L = 0 ∨ L = 1 ∨ L = 2 ∨ L = 3 by omega) with rfl | rfl | rfl | rfl
    · exact ⟨_, _, rfl, rfl, by decide⟩
    · exact ⟨_, _, rfl, rfl, by decide⟩
    · exact ⟨_, _, rfl, rfl, by decide⟩
    · exact ⟨_, _, rfl, rfl, by decide⟩
  have e10 : cel Y sg al 10 L = .inl (Y 3, sC sg L, .inr (.inr (.inr (.inr (lEl (sF sg L) (al (2 + L))))))) := rfl
  refine k_aast C0 K0 (t0 := 3) (ci := 2 + L) (r := r) (vs := vs) (N := sC sg L) (f := lEl (sF sg L) (al (2 + L))) (cA := Y 3) (E := "java/lang/Object") rfl (vp_in_nI hc hb) d hr (fun comp cv h1 h2 => ?_) (fun H hV => hce ▸ (hV.1 _ _ hle).1) (fun H hV => ⟨e10 ▸ (hV.1 10 L hl).1, (hV.1 10 L hl).2⟩) (fun H H' hV _ h1 oq => hV.putEl L hl ?_ oq) g
  · obtain ⟨c0, t1, f1, f2, f3⟩ := Cond.castable_spec (va_Nw.use (A := args) rfl (K0.1.2.2.2.2.2.1 _ hca))
    cases h2.1.symm.trans f1
    cases h1.symm.trans f2
    exact f3
  · rw [nI_clamp (by omega)] at h1
    exact h1
/-- the empty array that a new list stands on -/
theorem l_alenT (C0 : CallFix p m c cc nL s args TT own) (K0 : PK D Y A s) (d : decode cc pc = .ok (.arraylength, 1)) (g : kG p l e R s m args below meth c Q A nL V kk0 n (pc + 1) lv (.int 0 :: st)) : kG p l e R s m args below meth c Q A nL V kk0 n pc lv (.ref (Y 4) :: st) := fun H locs ls hV hS hl => by
  obtain ⟨cell, h1, h2, h3, h4, h5, h6, h7⟩ := K0.2.2.2.2.2.1
  exact W.alen (n := 0) C0.1 C0.2.1 (by rw [hS.2.1 _ (Array.getElem?_eq_some_iff.mp h1).1 h7]; exact h1) h2 h5 rfl rfl d (g H locs ls hV hS hl)
theorem l_gets (C0 : CallFix p m c cc nL s args TT own) (K0 : PK D Y A s) {ref : String} {index : Nat} (d : decode cc pc = .ok (.getstatic index, 3)) (hlink : Cond.fieldLink own index ref "DEFAULTCAPACITY_EMPTY_ELEMENTDATA" "[Ljava/lang/Object;" ∈ TT) (hr : ref = RJx4a65c) (g : kG p l e R s m args below meth c Q A nL V kk0 n (pc + 3) lv (.ref (Y 4) :: st)) : kG p l e R s m args below meth c Q A nL V kk0 n pc lv st := fun H locs ls hV hS hl =>
  va_gets C0.1 C0.2.1 K0.2.2.2.2.1 hS C0.2.2.2.1 (C0.2.2.2.2 _ hlink) (fun x h => by rw [hr]; exact h) d (g H locs ls hV hS hl)
theorem k_ldcM (C0 : CallFix p m c cc nL s args TT own) (K0 : PK D Y A s) {index : Nat} (d : decode cc pc = .ok (.ldc index, 2)) (hlink : Cond.classLink own index "[Ljava/lang/Object;" ∈ TT) (g : kG p l e R s m args below meth c Q A nL V kk0 n (pc + 2) lv (.ref (Y 5) :: st)) : kG p l e R s m args below meth c Q A nL V kk0 n pc lv st := fun H locs ls hV hS hl =>
  va_ldcM C0.1 C0.2.1 C0.2.2.2.1 (C0.2.2.2.2 _ hlink) K0.1.2.2.1 d (g H locs ls hV hS hl)
abbrev yGC : MethodName := ⟨"java/lang/Object", "getClass", "()Ljava/lang/Class;"⟩
theorem l_getC (C0 : CallFix p m c cc nL s args TT own) (K0 : PK D Y A s) (L : Nat) (hl : live sg 10 L) {index : Nat} (d : decode cc pc = .ok (.invokevirtual index, 3)) (hlink : Cond.methodLink own index yGC ∈ TT) (hsel : Cond.selects "[Ljava/lang/Object;" yGC yGC ∈ TT) (hinst : Cond.instanceMethod yGC ∈ TT) (hnat : Cond.native yGC ∈ TT) (hframes : 1 ≤ R.frames) (hlocals : (st.map fun v => v.category).sum + 14 ≤ R.locals)
    (g : kG p l e R s m args below meth c Q A nL (WX D Y A sg al X) kk0 n (pc + 3) lv (.ref (Y 5) :: st)) : kG p l e R s m args below meth c Q A nL (WX D Y A sg al X) kk0 n pc lv (.ref (al 10 L) :: st) := fun H locs ls hV hS hl2 =>
  va_getC C0.1 C0.2.1 (by rw [C0.2.2.1]; exact hl2.1.symm) C0.2.2.2.1 (C0.2.2.2.2 _ hlink) (va_Dc.use K0.1.2.2.2.1) (C0.2.2.2.2 _ hsel) (C0.2.2.2.2 _ hinst) (C0.2.2.2.2 _ hnat) K0.1.2.2.1 (by
    have h1 : H[al 10 L]? = some (vp_cell (Y 3) (sC sg L, .inr (.inr (.inr (.inr (lEl (sF sg L) (al (2 + L)))))))) := (hV.1 10 L hl).1
    refine ⟨_, h1, rfl, ?_⟩
    obtain ⟨-, -, -, -, -, h4⟩ := (K0.1.1.2 3 _ rfl).2
    exact h4) hframes hlocals d (g H locs ls hV hS hl2)
end KLR
