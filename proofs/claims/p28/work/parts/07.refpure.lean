/-! the reference's numbers, as pure functions: nothing of the machine -/
abbrev Rm : Type := (Nat → Nat → Int32) × (Nat → Int64)
def rI (mu : Rm) (f i : Nat) (v : Int32) : Rm := (fun g => if g = f then upd (mu.1 f) i v else mu.1 g, mu.2)
def rR (mu : Rm) (i : Nat) (v : Int64) : Rm := (mu.1, vp_updL mu.2 i v)
def rLen (f : Nat) : Nat := if f = 9 then 720 else if f = 12 then 100 else if f = 11 then 20 else if f < 4 then 5 else if f < 9 then 6 else 40
theorem rI_tr {mu : Rm} {f j g i : Nat} {x v : Int32} (h : g ≠ f) (e : mu.1 g i = v) : (rI mu f j x).1 g i = v := (congrFun (if_neg h) i).trans e
theorem rR_tr {mu : Rm} {j g i : Nat} {x : Int64} {v : Int32} (e : mu.1 g i = v) : (rR mu j x).1 g i = v := e
theorem rI_at {mu : Rm} {f : Nat} {v : Int32} : (rI mu f 0 v).1 f 0 = v := (congrFun (if_pos rfl) 0).trans (if_pos rfl)
theorem vp_inI {n N : Nat} {x : Int32} (e : x = nI n) (h : n < N) (hN : N < 2 ^ 31) : vp_in x N := by rw [e]; exact vp_in_nI h hN
theorem sel0 {H : Prop} [Decidable H] {a b : Int32} (h : (if H then (1 : Int32) else 0) = 0) : b = (if H then a else b) := by
  by_cases hh : H
  · rw [if_pos hh] at h; exact absurd h (by decide)
  · rw [if_neg hh]
theorem sel1 {H : Prop} [Decidable H] {a b : Int32} (h : ¬ (if H then (1 : Int32) else 0) = 0) : a = (if H then a else b) := by
  by_cases hh : H
  · rw [if_pos hh]
  · rw [if_neg hh] at h; exact absurd rfl h
theorem vp_m5 {a b : Nat} (ha : a < 20) (hb : b < 5) : vp_in (5 * nI a + nI b) 100 := vp_inI (n := 5 * a + b) (by rw [← nI_add, ← pk_mul]; rfl) (by omega) (by decide)
theorem vp_m120 {a b : Nat} (ha : a < 6) (hb : b < 120) : vp_in (120 * nI a + nI b) 720 := vp_inI (n := 120 * a + b) (by rw [← nI_add, ← pk_mul]; rfl) (by omega) (by decide)
def r_part (s : Int64) (f b : Int32) : Int32 := ((s >>> (f.toInt64 &&& 63)) &&& (((1 : Int64) <<< (b.toInt64 &&& 63)) - 1)).toInt32
def r_price (s : Int64) : Int32 := r_part s 0 17
def r_tax (s : Int64) : Int32 := r_part s 17 15
def r_share (s : Int64) : Int32 := r_part s 32 15
def r_pof (s : Int64) : Int32 := r_price s - r_tax s - r_share s + (if r_part s 60 1 = 1 then r_tax s else 0)
def r_counts (mu : Rm) (s : Int64) (g : Int32) : Rm :=
  rI (rI (rI (rI mu 7 (r_part s 54 3).toNatClampNeg (mu.1 7 (r_part s 54 3).toNatClampNeg + g * r_pof s)) 23 0 (mu.1 23 0 + g * r_share s)) 24 0 (mu.1 24 0 + g * r_price s)) 3 (r_part s 57 3).toNatClampNeg (mu.1 3 (r_part s 57 3).toNatClampNeg + (if r_part s 60 1 = 1 then 0 else g * r_tax s))
def r_tx (mu : Rm) (ld pr : Int32) : Int32 := pr * mu.1 1 ld.toNatClampNeg / (100 + mu.1 1 ld.toNatClampNeg)
def r_sh (mu : Rm) (p ld pr old : Int32) : Int32 := (pr - r_tx mu ld pr) * (if ¬ old = 0 ∨ mu.1 6 (mu.1 11 p.toNatClampNeg).toNatClampNeg < 1000000 then 15 else 30) / 100
def r_row (mu : Rm) (p ld pr old : Int32) : Int64 := pr.toInt64 + ((r_tx mu ld pr).toInt64 <<< ((17 : Int32).toInt64 &&& 63)) + ((r_sh mu p ld pr old).toInt64 <<< ((32 : Int32).toInt64 &&& 63)) + ((mu.1 0 0 / 30).toInt64 <<< ((47 : Int32).toInt64 &&& 63)) + ((mu.1 11 p.toNatClampNeg).toInt64 <<< ((54 : Int32).toInt64 &&& 63)) + (ld.toInt64 <<< ((57 : Int32).toInt64 &&& 63)) + ((mu.1 2 ld.toNatClampNeg).toInt64 <<< ((60 : Int32).toInt64 &&& 63))
def r_sell1 (mu : Rm) (p ld pr old : Int32) : Rm := rR (rI mu 6 (mu.1 11 p.toNatClampNeg).toNatClampNeg (mu.1 6 (mu.1 11 p.toNatClampNeg).toNatClampNeg + (pr - r_tx mu ld pr))) (mu.1 13 0).toNatClampNeg (r_row mu p ld pr old)
def r_sell2 (mu : Rm) (p ld pr old : Int32) : Rm := r_counts (r_sell1 mu p ld pr old) (r_row mu p ld pr old) 1
def r_sells (mu : Rm) (p ld pr old : Int32) : Int32 × Rm := ((r_sell2 mu p ld pr old).1 13 0 + 1 - 1, rI (r_sell2 mu p ld pr old) 13 0 ((r_sell2 mu p ld pr old).1 13 0 + 1))
/-- what a sale asks of the numbers -/
def r_sellOK (mu : Rm) (p ld pr old : Int32) : Prop := vp_in p 20 ∧ vp_in ld 5 ∧ vp_in (mu.1 11 p.toNatClampNeg) 6 ∧ (¬ 100 + mu.1 1 ld.toNatClampNeg = 0) ∧ vp_in (mu.1 13 0) 5400 ∧ vp_in (r_part (r_row mu p ld pr old) 54 3) 6 ∧ vp_in (r_part (r_row mu p ld pr old) 57 3) 5
def r_fillP (mu : Rm) (b : Int32) (v : Int32) : Nat → Rm
  | 0 => mu
  | i + 1 => rI (r_fillP mu b v i) 12 (b + nI i).toNatClampNeg v
theorem r_fillP_ne (mu : Rm) (b v : Int32) (f : Nat) (hf : f ≠ 12) : ∀ i, (r_fillP mu b v i).1 f = mu.1 f
  | 0 => rfl
  | i + 1 => (if_neg hf).trans (r_fillP_ne mu b v f hf i)
def r_close1 (mu : Rm) (mo : Int32) (i : Nat) : Rm :=
  rI (rI (rI mu 9 (120 * nI i + mo).toNatClampNeg (if 0 < mu.1 8 (nI i).toNatClampNeg + mu.1 7 (nI i).toNatClampNeg ∧ mu.1 5 (nI i).toNatClampNeg ≤ mu.1 8 (nI i).toNatClampNeg + mu.1 7 (nI i).toNatClampNeg then mu.1 8 (nI i).toNatClampNeg + mu.1 7 (nI i).toNatClampNeg else 0)) 8 (nI i).toNatClampNeg (if 0 < mu.1 8 (nI i).toNatClampNeg + mu.1 7 (nI i).toNatClampNeg ∧ mu.1 5 (nI i).toNatClampNeg ≤ mu.1 8 (nI i).toNatClampNeg + mu.1 7 (nI i).toNatClampNeg then 0 else mu.1 8 (nI i).toNatClampNeg + mu.1 7 (nI i).toNatClampNeg)) 7 (nI i).toNatClampNeg 0
def r_closeN (mu : Rm) (mo : Int32) : Nat → Rm
  | 0 => mu
  | i + 1 => r_close1 (r_closeN mu mo i) mo i
theorem r_closeN_ne (mu : Rm) (mo : Int32) (f : Nat) (h7 : f ≠ 7) (h8 : f ≠ 8) (h9 : f ≠ 9) : ∀ i, (r_closeN mu mo i).1 f = mu.1 f
  | 0 => rfl
  | i + 1 => (if_neg h7).trans ((if_neg h8).trans ((if_neg h9).trans (r_closeN_ne mu mo f h7 h8 h9 i)))
def r_payPr (mu : Rm) (i : Int32) : Int32 := mu.1 12 (5 * mu.1 16 i.toNatClampNeg + mu.1 17 i.toNatClampNeg).toNatClampNeg
def r_payP (mu : Rm) (i : Int32) : Int32 := if mu.1 21 i.toNatClampNeg = 1 ∧ mu.1 20 i.toNatClampNeg = 0 then r_payPr mu i / 2 else r_payPr mu i
def r_payO (mu : Rm) (i : Int32) : Int32 := if mu.1 20 i.toNatClampNeg < 12 then 0 else 1
def r_payS (mu : Rm) (i : Int32) : Rm := (r_sells mu (mu.1 16 i.toNatClampNeg) (mu.1 17 i.toNatClampNeg) (r_payP mu i) (r_payO mu i)).2
def r_payT (mu : Rm) (i : Int32) : Rm := rI (rI (rI (r_payS mu i) 20 i.toNatClampNeg ((r_payS mu i).1 20 i.toNatClampNeg + 1)) 19 i.toNatClampNeg 0) 18 i.toNatClampNeg ((r_payS mu i).1 0 0 + 30)
def r_payF (mu : Rm) (i : Int32) : Rm := rI (rI mu 19 i.toNatClampNeg (mu.1 19 i.toNatClampNeg + 1)) 18 i.toNatClampNeg (if (rI mu 19 i.toNatClampNeg (mu.1 19 i.toNatClampNeg + 1)).1 19 i.toNatClampNeg = 6 then -1 else mu.1 0 0 + 1)
/-- what a try to pay asks of the numbers -/
def r_payOK (mu : Rm) (i : Int32) : Prop := vp_in i 40 ∧ (¬ mu.1 22 i.toNatClampNeg = 1 → vp_in (5 * mu.1 16 i.toNatClampNeg + mu.1 17 i.toNatClampNeg) 100 ∧ r_sellOK mu (mu.1 16 i.toNatClampNeg) (mu.1 17 i.toNatClampNeg) (r_payP mu i) (r_payO mu i))
def r_pays (mu : Rm) (i : Int32) : Int32 × Rm := if mu.1 22 i.toNatClampNeg = 1 then (0, r_payF mu i) else (1, r_payT mu i)

def r_plan1 (q : Int32 × Rm) (i : Nat) : Int32 × Rm := if q.2.1 18 (nI i).toNatClampNeg = q.2.1 0 0 then (q.1 + (if (r_pays q.2 (nI i)).1 = 0 then 0 else 1), (r_pays q.2 (nI i)).2) else (q.1 + 0, q.2)
def r_plansN (q : Int32 × Rm) : Nat → Int32 × Rm
  | 0 => q
  | i + 1 => r_plan1 (r_plansN q i) i
def r_yearN (mu : Rm) : Nat → Rm
  | 0 => mu
  | i + 1 => rI (r_yearN mu i) 6 (nI i).toNatClampNeg 0
def r_dayA (mu : Rm) : Rm := rI mu 0 0 (mu.1 0 0 + 1)
def r_dayB (nm : Nat) (mu : Rm) : Rm := if mu.1 0 0 - mu.1 0 0 / 30 * 30 = 0 then r_closeN mu (mu.1 0 0 / 30 - 1) nm else mu
def r_dayC (nm : Nat) (mu : Rm) : Rm := if mu.1 0 0 - mu.1 0 0 / 360 * 360 = 0 then r_yearN mu nm else mu
def r_day0 (nm : Nat) (mu : Rm) : Rm := r_dayC nm (r_dayB nm (r_dayA mu))
def r_day (nm nu : Nat) (q : Int32 × Rm) : Int32 × Rm := r_plansN (q.1, r_day0 nm q.2) nu
def r_passN (nm nu : Nat) (mu : Rm) : Nat → Int32 × Rm
  | 0 => (0, mu)
  | k + 1 => r_day nm nu (r_passN nm nu mu k)
abbrev rKeep (f : Nat) : Prop := f ∉ [0, 3, 6, 7, 8, 9, 13, 18, 19, 20, 23, 24]
theorem rK {f g : Nat} (h : rKeep f) (hg : g ∈ [0, 3, 6, 7, 8, 9, 13, 18, 19, 20, 23, 24]) : f ≠ g := fun z => h (z ▸ hg)
theorem r_counts_ne (mu : Rm) (s : Int64) (g : Int32) (f : Nat) (h3 : f ≠ 3) (h7 : f ≠ 7) (h23 : f ≠ 23) (h24 : f ≠ 24) : (r_counts mu s g).1 f = mu.1 f := (if_neg h3).trans ((if_neg h24).trans ((if_neg h23).trans (if_neg h7)))
theorem r_sells_ne (mu : Rm) (p ld pr old : Int32) (f : Nat) (h3 : f ≠ 3) (h6 : f ≠ 6) (h7 : f ≠ 7) (h13 : f ≠ 13) (h23 : f ≠ 23) (h24 : f ≠ 24) : (r_sells mu p ld pr old).2.1 f = mu.1 f := (if_neg h13).trans ((r_counts_ne _ _ _ f h3 h7 h23 h24).trans (if_neg h6))
theorem r_pays_ne (mu : Rm) (i : Int32) (f : Nat) (h3 : f ≠ 3) (h6 : f ≠ 6) (h7 : f ≠ 7) (h13 : f ≠ 13) (h23 : f ≠ 23) (h24 : f ≠ 24) (h18 : f ≠ 18) (h19 : f ≠ 19) (h20 : f ≠ 20) : (r_pays mu i).2.1 f = mu.1 f := by
  unfold r_pays
  split
  · exact (if_neg h18).trans (if_neg h19)
  · exact (if_neg h18).trans ((if_neg h19).trans ((if_neg h20).trans (r_sells_ne _ _ _ _ _ f h3 h6 h7 h13 h23 h24)))
theorem r_plan1_ne (q : Int32 × Rm) (i f : Nat) (h3 : f ≠ 3) (h6 : f ≠ 6) (h7 : f ≠ 7) (h13 : f ≠ 13) (h23 : f ≠ 23) (h24 : f ≠ 24) (h18 : f ≠ 18) (h19 : f ≠ 19) (h20 : f ≠ 20) : (r_plan1 q i).2.1 f = q.2.1 f := by
  unfold r_plan1
  split
  · exact r_pays_ne _ _ f h3 h6 h7 h13 h23 h24 h18 h19 h20
  · rfl
theorem r_plansN_ne (q : Int32 × Rm) (f : Nat) (h3 : f ≠ 3) (h6 : f ≠ 6) (h7 : f ≠ 7) (h13 : f ≠ 13) (h23 : f ≠ 23) (h24 : f ≠ 24) (h18 : f ≠ 18) (h19 : f ≠ 19) (h20 : f ≠ 20) : ∀ i, (r_plansN q i).2.1 f = q.2.1 f
  | 0 => rfl
  | i + 1 => (r_plan1_ne _ i f h3 h6 h7 h13 h23 h24 h18 h19 h20).trans (r_plansN_ne q f h3 h6 h7 h13 h23 h24 h18 h19 h20 i)
theorem r_yearN_ne (mu : Rm) (f : Nat) (h6 : f ≠ 6) : ∀ i, (r_yearN mu i).1 f = mu.1 f
  | 0 => rfl
  | i + 1 => (if_neg h6).trans (r_yearN_ne mu f h6 i)
theorem r_dayB_ne (nm : Nat) (mu : Rm) (f : Nat) (h7 : f ≠ 7) (h8 : f ≠ 8) (h9 : f ≠ 9) : (r_dayB nm mu).1 f = mu.1 f := by
  unfold r_dayB
  split
  · exact r_closeN_ne mu _ f h7 h8 h9 nm
  · rfl
theorem r_dayC_ne (nm : Nat) (mu : Rm) (f : Nat) (h6 : f ≠ 6) : (r_dayC nm mu).1 f = mu.1 f := by
  unfold r_dayC
  split
  · exact r_yearN_ne mu f h6 nm
  · rfl
theorem r_day0_ne (nm : Nat) (mu : Rm) (f : Nat) (h0 : f ≠ 0) (h6 : f ≠ 6) (h7 : f ≠ 7) (h8 : f ≠ 8) (h9 : f ≠ 9) : (r_day0 nm mu).1 f = mu.1 f := (r_dayC_ne nm _ f h6).trans ((r_dayB_ne nm _ f h7 h8 h9).trans (if_neg h0))
theorem r_day0_0 (nm : Nat) (mu : Rm) : (r_day0 nm mu).1 0 0 = mu.1 0 0 + 1 := (congrFun ((r_dayC_ne nm _ 0 (by decide)).trans (r_dayB_ne nm _ 0 (by decide) (by decide) (by decide))) 0).trans rI_at
theorem r_passN_ne (nm nu : Nat) (mu : Rm) (f : Nat) (h : rKeep f) : ∀ k, (r_passN nm nu mu k).2.1 f = mu.1 f
  | 0 => rfl
  | k + 1 => (r_plansN_ne _ f (rK h (by decide)) (rK h (by decide)) (rK h (by decide)) (rK h (by decide)) (rK h (by decide)) (rK h (by decide)) (rK h (by decide)) (rK h (by decide)) (rK h (by decide)) nu).trans ((r_day0_ne nm _ f (rK h (by decide)) (rK h (by decide)) (rK h (by decide)) (rK h (by decide)) (rK h (by decide))).trans (r_passN_ne nm nu mu f h k))
theorem r_plansN_0 (q : Int32 × Rm) (i : Nat) : (r_plansN q i).2.1 0 = q.2.1 0 := r_plansN_ne q 0 (by decide) (by decide) (by decide) (by decide) (by decide) (by decide) (by decide) (by decide) (by decide) i
theorem r_passN_0 (nm nu : Nat) (mu : Rm) (d : Nat) (h : mu.1 0 0 = nI d) : ∀ k, (r_passN nm nu mu k).2.1 0 0 = nI (d + k)
  | 0 => h
  | k + 1 => by
    show (r_plansN _ nu).2.1 0 0 = _
    rw [congrFun (r_plansN_0 _ nu) 0, r_day0_0, r_passN_0 nm nu mu d h k, nI_1]
    rfl
theorem r_div {d c : Nat} {x : Int32} (h : x = nI d) (hd : d < 2 ^ 31) (hc0 : 0 < c) (hc : c < 2 ^ 31) : x / nI c = nI (d / c) := by rw [h]; exact pk_div hd hc0 hc
theorem r_rem {d c : Nat} {x : Int32} (h : x = nI d) (hd : d < 2 ^ 31) (hc0 : 0 < c) (hc : c < 2 ^ 31) : x - x / nI c * nI c = nI (d % c) := by rw [h]; exact pk_rem hd hc0 hc
theorem r_mon {d : Nat} {x : Int32} (h : x = nI d) (hd : d ≤ 3600) (hz : x - x / 30 * 30 = 0) (h1 : 1 ≤ d) : ∃ j, x / 30 - 1 = nI j ∧ j < 120 := by
  have e1 : x - x / 30 * 30 = nI (d % 30) := r_rem (c := 30) h (by omega) (by decide) (by decide)
  rw [e1] at hz
  have hm : d % 30 = 0 := (nI_eq (b := 0) (by omega) (by decide)).mp hz
  have e2 : x / 30 = nI (d / 30) := r_div (c := 30) h (by omega) (by decide) (by decide)
  refine ⟨d / 30 - 1, ?_, by omega⟩
  rw [e2]
  exact pk_sub (b := 1) (by omega)
