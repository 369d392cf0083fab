/-! the class: its new objects, its sums -/
def lw (sg : Sg) (L : Nat) : Prop := sZ sg L = sN sg (2 + L) ∧ sF sg L = sN sg (2 + L) ∧ sN sg (2 + L) ≤ sC sg L ∧ (sC sg L = 0 ∨ 10 ≤ sC sg L) ∧ sC sg L ≤ 60000
def sRow (sg : Sg) (k i : Nat) (g : Nat → Int32) : Sg := (fun k' i' => if k' = k ∧ i' = i then g else sg.1 k' i', sg.2)
theorem sRow_at {sg : Sg} {k i : Nat} {g : Nat → Int32} : (sRow sg k i g).1 k i = g := if_pos ⟨rfl, rfl⟩
theorem sRow_ne {sg : Sg} {k i k' i' : Nat} {g : Nat → Int32} (h : i' ≠ i) : (sRow sg k i g).1 k' i' = sg.1 k' i' := if_neg (fun z => h z.2)
section KN
variable {D : va_G} {Y : Nat → Nat} {A : Nat → Prop} {sg : Sg} {al : Nat → Nat → Nat} {H : Heap} {q q2 : Nat}
theorem cel4 {f f' : Nat → Int32} {P P' : Nat → Nat → Nat → Nat} {al al' : Nat → Nat → Nat} {i : Nat} (ef : f = f') (e0 : al 2 (P 4 i 0) = al' 2 (P' 4 i 0)) (e1 : al 1 (P 4 i 1) = al' 1 (P' 4 i 1)) : celF Y f P al 4 i = celF Y f' P' al' 4 i := by
  subst ef
  show Sum.inr (4, [Value.ref (al 2 (P 4 i 0)), .ref (al 1 (P 4 i 1)), .int (f 2), .int (f 3), .int (f 4), .int (f 5), .int (f 6), .int (f 7), .int (f 8)]) = _
  rw [e0, e1]
  rfl
theorem cel5 {f f' : Nat → Int32} {P P' : Nat → Nat → Nat → Nat} {al al' : Nat → Nat → Nat} {i : Nat} (ef : f = f') (e0 : al 1 (P 5 i 0) = al' 1 (P' 5 i 0)) (e1 : al 3 (P 5 i 2) = al' 3 (P' 5 i 2)) : celF Y f P al 5 i = celF Y f' P' al' 5 i := by
  subst ef
  show Sum.inr (5, [Value.ref (al 1 (P 5 i 0)), .int (f 1), .ref (al 3 (P 5 i 2)), .int (f 3), .int (f 4), .int (f 5), .int (f 6)]) = _
  rw [e0, e1]
  rfl
theorem cel3 {f f' : Nat → Int32} {P P' : Nat → Nat → Nat → Nat} {al al' : Nat → Nat → Nat} {i : Nat} (e0 : al 2 (P 3 i 1) = al' 2 (P' 3 i 1)) (e1 : al 7 i = al' 7 i) : celF Y f P al 3 i = celF Y f' P' al' 3 i := by
  show Sum.inr (3, [Value.int (nI i), .ref (al 2 (P 3 i 1)), .ref (al 7 i)]) = _
  rw [e0, e1]
  rfl
theorem cel2 {f f' : Nat → Int32} {P P' : Nat → Nat → Nat → Nat} {al al' : Nat → Nat → Nat} {i : Nat} (ef : f = f') (e1 : al 6 i = al' 6 i) : celF Y f P al 2 i = celF Y f' P' al' 2 i := by
  subst ef
  show Sum.inr (2, [Value.int (f 0), .ref (al 6 i), .int (f 2), .int (f 3), .int (f 4)]) = _
  rw [e1]
  rfl
theorem cel10 {f f' : Nat → Int32} {P P' : Nat → Nat → Nat → Nat} {al al' : Nat → Nat → Nat} {L : Nat} (e0 : P 22 L 0 = P' 22 L 0) (e1 : P 23 L 0 = P' 23 L 0) (e2 : ∀ j, j < P' 23 L 0 → al (2 + L) j = al' (2 + L) j) : celF Y f P al 10 L = celF Y f' P' al' 10 L := by
  have e3 : lEl (P' 23 L 0) (al (2 + L)) = lEl (P' 23 L 0) (al' (2 + L)) := by
    funext j
    unfold lEl
    by_cases h : j < P' 23 L 0
    · rw [if_pos h, if_pos h, e2 j h]
    · rw [if_neg h, if_neg h]
  show Sum.inl (Y 3, P 22 L 0, Sum.inr (Sum.inr (Sum.inr (Sum.inr (lEl (P 23 L 0) (al (2 + L))))))) = _
  rw [e0, e1, e3]
  rfl
/-- a list's array does not see what is behind its last place -/
theorem cel10n {f f' : Nat → Int32} {P' : Nat → Nat → Nat → Nat} {k n q : Nat} {L : Nat} (e0 : P' 22 L 0 = sg.2 22 L 0) (e1 : P' 23 L 0 = sg.2 23 L 0) (hF : 2 + L = k → sF sg L ≤ n) : celF Y f P' (aU al k n q) 10 L = celF Y f' sg.2 al 10 L := cel10 e0 e1 (fun j hj => aU_ne (fun z => by have := hF z.1; have hj : j < sF sg L := hj; omega))
def gSale (mo price tax share part held : Int32) : Nat → Int32 := fun f => match f with
  | 2 => mo | 3 => price | 4 => tax | 5 => share | 6 => part | 7 => held | _ => 0
def gSub (half d : Int32) : Nat → Int32 := fun f => match f with
  | 1 => half | 6 => d | _ => 0
def gMaker (t : Int32) : Nat → Int32 := fun f => match f with
  | 0 => t | _ => 0
def gPrice (v : Int32) : Nat → Int32 := upd (upd (upd (upd (upd (fun _ => 0) 0 v) 1 v) 2 v) 3 v) 4 v
def n_sale (sg : Sg) (mk j : Nat) (g : Nat → Int32) : Sg := sP (sP (sP (sRow sg 4 (sN sg 4) g) 4 (sN sg 4) 0 mk) 4 (sN sg 4) 1 j) 20 4 0 (sN sg 4 + 1)
def n_sub (sg : Sg) (j p : Nat) (g : Nat → Int32) : Sg := sP (sP (sP (sRow sg 5 (sN sg 5) g) 5 (sN sg 5) 0 j) 5 (sN sg 5) 2 p) 20 5 0 (sN sg 5 + 1)
def n_maker (sg : Sg) (t : Int32) : Sg := sP (sRow (sRow sg 2 (sN sg 2) (gMaker t)) 6 (sN sg 2) (fun _ => 0)) 20 2 0 (sN sg 2 + 1)
def n_prod (sg : Sg) (mk : Nat) (v : Int32) : Sg := sP (sP (sRow sg 7 (sN sg 3) (gPrice v)) 3 (sN sg 3) 1 mk) 20 3 0 (sN sg 3 + 1)
theorem n_sale_r (sg : Sg) (mk j : Nat) (g : Nat → Int32) (i f : Nat) : (n_sale sg mk j g).2 4 i f = up3 (up3 sg.2 4 (sN sg 4) 0 mk) 4 (sN sg 4) 1 j 4 i f := rfl
theorem n_sub_r (sg : Sg) (j p : Nat) (g : Nat → Int32) (i f : Nat) : (n_sub sg j p g).2 5 i f = up3 (up3 sg.2 5 (sN sg 5) 0 j) 5 (sN sg 5) 2 p 5 i f := rfl
theorem n_prod_r (sg : Sg) (mk : Nat) (v : Int32) (i f : Nat) : (n_prod sg mk v).2 3 i f = up3 sg.2 3 (sN sg 3) 1 mk 3 i f := rfl
theorem no_nil {α : Type} {x : α} {j : Nat} {B : Prop} (h : ([] : List α)[j]? = some x) : B := by simp at h
theorem WX.addSale {mk j : Nat} {g : Nat → Int32} (hF : sF sg 2 ≤ sN sg 4) (h : WX D Y A sg al [(q, .inr (4, [.ref (al 2 mk), .ref (al 1 j), .int (g 2), .int (g 3), .int (g 4), .int (g 5), .int (g 6), .int (g 7), .int (g 8)]))] H) : WX D Y A (n_sale sg mk j g) (aU al 4 (sN sg 4) q) [] H := by
  refine h.absorb [] (fun _ => (4, sN sg 4)) (fun j x hx => no_nil hx) (fun i j x y hx => no_nil hx) (fun L hL hz => ⟨hz, rfl⟩) (fun k i hl => ?_)
  match k, hl with
  | 0, hl => exact Or.inl ⟨hl, rfl, rfl⟩ | 1, hl => exact Or.inl ⟨hl, rfl, rfl⟩ | 2, hl => exact Or.inl ⟨hl, rfl, rfl⟩ | 3, hl => exact Or.inl ⟨hl, rfl, rfl⟩ | 5, hl => exact Or.inl ⟨hl, rfl, rfl⟩ | 6, hl => exact Or.inl ⟨hl, rfl, rfl⟩ | 7, hl => exact Or.inl ⟨hl, rfl, rfl⟩ | 8, hl => exact Or.inl ⟨hl, rfl, rfl⟩ | 9, hl => exact Or.inl ⟨hl, rfl, rfl⟩ | 10, hl => exact Or.inl ⟨hl, rfl, cel10n rfl rfl (fun z => by
    have hL := hl.1
    obtain rfl : i = 2 := by omega
    exact hF)⟩
  | _ + 11, hl => exact hl.elim
  | 4, hl =>
    have hl : i < sN sg 4 + 1 := hl
    by_cases e : i = sN sg 4
    · subst e
      refine Or.inr ⟨0, ?_, rfl⟩
      rw [aU_at]
      have e0 : (n_sale sg mk j g).2 4 (sN sg 4) 0 = mk := (n_sale_r sg mk j g _ _).trans (up3_j (by decide) up3_at)
      have e1 : (n_sale sg mk j g).2 4 (sN sg 4) 1 = j := (n_sale_r sg mk j g _ _).trans up3_at
      have er : (n_sale sg mk j g).1 4 (sN sg 4) = g := sRow_at
      show _ = some (q, (Sum.inr (4, [Value.ref (aU al 4 (sN sg 4) q 2 ((n_sale sg mk j g).2 4 (sN sg 4) 0)), .ref (aU al 4 (sN sg 4) q 1 ((n_sale sg mk j g).2 4 (sN sg 4) 1)), .int ((n_sale sg mk j g).1 4 (sN sg 4) 2), .int ((n_sale sg mk j g).1 4 (sN sg 4) 3), .int ((n_sale sg mk j g).1 4 (sN sg 4) 4), .int ((n_sale sg mk j g).1 4 (sN sg 4) 5), .int ((n_sale sg mk j g).1 4 (sN sg 4) 6), .int ((n_sale sg mk j g).1 4 (sN sg 4) 7), .int ((n_sale sg mk j g).1 4 (sN sg 4) 8)]) : va_E))
      rw [e0, e1, er]
      rfl
    · exact Or.inl ⟨show i < sN sg 4 by omega, aU_ne (fun z => e z.2), cel4 (sRow_ne e) (congrArg (al 2) ((n_sale_r sg mk j g _ _).trans (up3_i e (up3_i e rfl)))) (congrArg (al 1) ((n_sale_r sg mk j g _ _).trans (up3_i e (up3_i e rfl))))⟩
theorem WX.addSub {p j : Nat} {g : Nat → Int32} (hF : sF sg 3 ≤ sN sg 5) (h : WX D Y A sg al [(q, .inr (5, [.ref (al 1 j), .int (g 1), .ref (al 3 p), .int (g 3), .int (g 4), .int (g 5), .int (g 6)]))] H) : WX D Y A (n_sub sg j p g) (aU al 5 (sN sg 5) q) [] H := by
  refine h.absorb [] (fun _ => (5, sN sg 5)) (fun j x hx => no_nil hx) (fun i j x y hx => no_nil hx) (fun L hL hz => ⟨hz, rfl⟩) (fun k i hl => ?_)
  match k, hl with
  | 0, hl => exact Or.inl ⟨hl, rfl, rfl⟩ | 1, hl => exact Or.inl ⟨hl, rfl, rfl⟩ | 2, hl => exact Or.inl ⟨hl, rfl, rfl⟩ | 3, hl => exact Or.inl ⟨hl, rfl, rfl⟩ | 4, hl => exact Or.inl ⟨hl, rfl, rfl⟩ | 6, hl => exact Or.inl ⟨hl, rfl, rfl⟩ | 7, hl => exact Or.inl ⟨hl, rfl, rfl⟩ | 8, hl => exact Or.inl ⟨hl, rfl, rfl⟩ | 9, hl => exact Or.inl ⟨hl, rfl, rfl⟩ | 10, hl => exact Or.inl ⟨hl, rfl, cel10n rfl rfl (fun z => by
    have hL := hl.1
    obtain rfl : i = 3 := by omega
    exact hF)⟩
  | _ + 11, hl => exact hl.elim
  | 5, hl =>
    have hl : i < sN sg 5 + 1 := hl
    by_cases e : i = sN sg 5
    · subst e
      refine Or.inr ⟨0, ?_, rfl⟩
      rw [aU_at]
      have e0 : (n_sub sg j p g).2 5 (sN sg 5) 0 = j := (n_sub_r sg j p g _ _).trans (up3_j (by decide) up3_at)
      have e1 : (n_sub sg j p g).2 5 (sN sg 5) 2 = p := (n_sub_r sg j p g _ _).trans up3_at
      have er : (n_sub sg j p g).1 5 (sN sg 5) = g := sRow_at
      show _ = some (q, (Sum.inr (5, [Value.ref (aU al 5 (sN sg 5) q 1 ((n_sub sg j p g).2 5 (sN sg 5) 0)), .int ((n_sub sg j p g).1 5 (sN sg 5) 1), .ref (aU al 5 (sN sg 5) q 3 ((n_sub sg j p g).2 5 (sN sg 5) 2)), .int ((n_sub sg j p g).1 5 (sN sg 5) 3), .int ((n_sub sg j p g).1 5 (sN sg 5) 4), .int ((n_sub sg j p g).1 5 (sN sg 5) 5), .int ((n_sub sg j p g).1 5 (sN sg 5) 6)]) : va_E))
      rw [e0, e1, er]
      rfl
    · exact Or.inl ⟨show i < sN sg 5 by omega, aU_ne (fun z => e z.2), cel5 (sRow_ne e) (congrArg (al 1) ((n_sub_r sg j p g _ _).trans (up3_i e (up3_i e rfl)))) (congrArg (al 3) ((n_sub_r sg j p g _ _).trans (up3_i e (up3_i e rfl))))⟩
theorem WX.addMaker {t : Int32} (h3 : ∀ i, i < sN sg 3 → sg.2 3 i 1 < sN sg 2) (h4 : ∀ i, i < sN sg 4 → sg.2 4 i 0 < sN sg 2) (hF : sF sg 0 ≤ sN sg 2) (h : WX D Y A sg al [(q, .inr (2, [.int t, .ref q2, .int 0, .int 0, .int 0])), (q2, .inl (Y 0, 120, .inl (fun _ => 0)))] H) : WX D Y A (n_maker sg t) (aU (aU al 2 (sN sg 2) q) 6 (sN sg 2) q2) [] H := by
  have a2 : ∀ i, i ≠ sN sg 2 → aU (aU al 2 (sN sg 2) q) 6 (sN sg 2) q2 2 i = al 2 i := fun i e => (aU_ne (al := aU al 2 (sN sg 2) q) (fun z => absurd z.1 (by decide))).trans (aU_ne (fun z => e z.2))
  have a6 : ∀ i, i ≠ sN sg 2 → aU (aU al 2 (sN sg 2) q) 6 (sN sg 2) q2 6 i = al 6 i := fun i e => (aU_ne (al := aU al 2 (sN sg 2) q) (fun z => e z.2)).trans (aU_ne (fun z => e z.2))
  have r2 : aU (aU al 2 (sN sg 2) q) 6 (sN sg 2) q2 2 (sN sg 2) = q := (aU_ne (al := aU al 2 (sN sg 2) q) (fun z => absurd z.1 (by decide))).trans aU_at
  have r6 : aU (aU al 2 (sN sg 2) q) 6 (sN sg 2) q2 6 (sN sg 2) = q2 := aU_at
  refine h.absorb [] (fun j => if j = 0 then (2, sN sg 2) else (6, sN sg 2)) (fun j x hx => no_nil hx) (fun i j x y hx => no_nil hx) (fun L hL hz => ⟨hz, rfl⟩) (fun k i hl => ?_)
  match k, hl with
  | 0, hl => exact Or.inl ⟨hl, rfl, rfl⟩ | 1, hl => exact Or.inl ⟨hl, rfl, rfl⟩ | 5, hl => exact Or.inl ⟨hl, rfl, rfl⟩ | 7, hl => exact Or.inl ⟨hl, rfl, rfl⟩ | 8, hl => exact Or.inl ⟨hl, rfl, rfl⟩ | 9, hl => exact Or.inl ⟨hl, rfl, rfl⟩
  | 10, hl =>
    have hL := hl.1
    refine Or.inl ⟨hl, rfl, cel10 rfl rfl (fun j hj => ?_)⟩
    have hj : j < sF sg i := hj
    refine (aU_ne (al := aU al 2 (sN sg 2) q) (fun z => absurd z.1 (by omega))).trans (aU_ne (fun z => ?_))
    obtain rfl : i = 0 := by omega
    omega
  | 3, hl => exact Or.inl ⟨hl, rfl, cel3 (a2 _ (Nat.ne_of_lt (h3 i hl))) rfl⟩
  | 4, hl => exact Or.inl ⟨hl, rfl, cel4 rfl (a2 _ (Nat.ne_of_lt (h4 i hl))) rfl⟩
  | _ + 11, hl => exact hl.elim
  | 2, hl =>
    have hl : i < sN sg 2 + 1 := hl
    by_cases e : i = sN sg 2
    · subst e
      refine Or.inr ⟨0, ?_, rfl⟩
      rw [r2]
      have er : (n_maker sg t).1 2 (sN sg 2) = gMaker t := (show (sRow sg 2 (sN sg 2) (gMaker t)).1 2 (sN sg 2) = gMaker t from sRow_at)
      show _ = some (q, (Sum.inr (2, [Value.int ((n_maker sg t).1 2 (sN sg 2) 0), .ref (aU (aU al 2 (sN sg 2) q) 6 (sN sg 2) q2 6 (sN sg 2)), .int ((n_maker sg t).1 2 (sN sg 2) 2), .int ((n_maker sg t).1 2 (sN sg 2) 3), .int ((n_maker sg t).1 2 (sN sg 2) 4)]) : va_E))
      rw [er, r6]
      rfl
    · exact Or.inl ⟨show i < sN sg 2 by omega, a2 i e, cel2 (show (sRow sg 2 (sN sg 2) (gMaker t)).1 2 i = sg.1 2 i from sRow_ne e) (a6 i e)⟩
  | 6, hl =>
    have hl : i < sN sg 2 + 1 := hl
    by_cases e : i = sN sg 2
    · subst e
      refine Or.inr ⟨1, ?_, rfl⟩
      rw [r6]
      have er : (n_maker sg t).1 6 (sN sg 2) = fun _ => 0 := sRow_at (sg := sRow sg 2 (sN sg 2) (gMaker t))
      show _ = some (q2, (Sum.inl (Y 0, 120, Sum.inl ((n_maker sg t).1 6 (sN sg 2))) : va_E))
      rw [er]
      rfl
    · refine Or.inl ⟨show i < sN sg 2 by omega, a6 i e, ?_⟩
      have er : (n_maker sg t).1 6 i = sg.1 6 i := sRow_ne (sg := sRow sg 2 (sN sg 2) (gMaker t)) e
      show (Sum.inl (Y 0, 120, Sum.inl ((n_maker sg t).1 6 i)) : va_E) = _
      rw [er]
      rfl
theorem WX.addProd {mk : Nat} {v : Int32} (h5 : ∀ i, i < sN sg 5 → sg.2 5 i 2 < sN sg 3) (hF : sF sg 1 ≤ sN sg 3) (h : WX D Y A sg al [(q, .inr (3, [.int (nI (sN sg 3)), .ref (al 2 mk), .ref q2])), (q2, .inl (Y 0, 5, .inl (gPrice v)))] H) : WX D Y A (n_prod sg mk v) (aU (aU al 3 (sN sg 3) q) 7 (sN sg 3) q2) [] H := by
  have a2 : ∀ i, i ≠ sN sg 3 → aU (aU al 3 (sN sg 3) q) 7 (sN sg 3) q2 3 i = al 3 i := fun i e => (aU_ne (al := aU al 3 (sN sg 3) q) (fun z => absurd z.1 (by decide))).trans (aU_ne (fun z => e z.2))
  have a6 : ∀ i, i ≠ sN sg 3 → aU (aU al 3 (sN sg 3) q) 7 (sN sg 3) q2 7 i = al 7 i := fun i e => (aU_ne (al := aU al 3 (sN sg 3) q) (fun z => e z.2)).trans (aU_ne (fun z => e z.2))
  have r2 : aU (aU al 3 (sN sg 3) q) 7 (sN sg 3) q2 3 (sN sg 3) = q := (aU_ne (al := aU al 3 (sN sg 3) q) (fun z => absurd z.1 (by decide))).trans aU_at
  have r6 : aU (aU al 3 (sN sg 3) q) 7 (sN sg 3) q2 7 (sN sg 3) = q2 := aU_at
  refine h.absorb [] (fun j => if j = 0 then (3, sN sg 3) else (7, sN sg 3)) (fun j x hx => no_nil hx) (fun i j x y hx => no_nil hx) (fun L hL hz => ⟨hz, rfl⟩) (fun k i hl => ?_)
  match k, hl with
  | 0, hl => exact Or.inl ⟨hl, rfl, rfl⟩ | 1, hl => exact Or.inl ⟨hl, rfl, rfl⟩ | 2, hl => exact Or.inl ⟨hl, rfl, rfl⟩ | 4, hl => exact Or.inl ⟨hl, rfl, rfl⟩ | 6, hl => exact Or.inl ⟨hl, rfl, rfl⟩ | 8, hl => exact Or.inl ⟨hl, rfl, rfl⟩ | 9, hl => exact Or.inl ⟨hl, rfl, rfl⟩
  | 10, hl =>
    have hL := hl.1
    refine Or.inl ⟨hl, rfl, cel10 rfl rfl (fun j hj => ?_)⟩
    have hj : j < sF sg i := hj
    refine (aU_ne (al := aU al 3 (sN sg 3) q) (fun z => absurd z.1 (by omega))).trans (aU_ne (fun z => ?_))
    obtain rfl : i = 1 := by omega
    omega
  | 5, hl => exact Or.inl ⟨hl, rfl, cel5 rfl rfl (a2 _ (Nat.ne_of_lt (h5 i hl)))⟩
  | _ + 11, hl => exact hl.elim
  | 3, hl =>
    have hl : i < sN sg 3 + 1 := hl
    by_cases e : i = sN sg 3
    · subst e
      refine Or.inr ⟨0, ?_, rfl⟩
      rw [r2]
      have er : (n_prod sg mk v).2 3 (sN sg 3) 1 = mk := (n_prod_r sg mk v _ _).trans up3_at
      show _ = some (q, (Sum.inr (3, [Value.int (nI (sN sg 3)), .ref (aU (aU al 3 (sN sg 3) q) 7 (sN sg 3) q2 2 ((n_prod sg mk v).2 3 (sN sg 3) 1)), .ref (aU (aU al 3 (sN sg 3) q) 7 (sN sg 3) q2 7 (sN sg 3))]) : va_E))
      rw [er, r6]
      rfl
    · exact Or.inl ⟨show i < sN sg 3 by omega, a2 i e, cel3 (congrArg (al 2) ((n_prod_r sg mk v _ _).trans (up3_i e rfl))) (a6 i e)⟩
  | 7, hl =>
    have hl : i < sN sg 3 + 1 := hl
    by_cases e : i = sN sg 3
    · subst e
      refine Or.inr ⟨1, ?_, rfl⟩
      rw [r6]
      have er : (n_prod sg mk v).1 7 (sN sg 3) = gPrice v := sRow_at (sg := sg)
      show _ = some (q2, (Sum.inl (Y 0, 5, Sum.inl ((n_prod sg mk v).1 7 (sN sg 3))) : va_E))
      rw [er]
      rfl
    · refine Or.inl ⟨show i < sN sg 3 by omega, a6 i e, ?_⟩
      have er : (n_prod sg mk v).1 7 i = sg.1 7 i := sRow_ne e
      show (Sum.inl (Y 0, 5, Sum.inl ((n_prod sg mk v).1 7 i)) : va_E) = _
      rw [er]
      rfl
end KN
