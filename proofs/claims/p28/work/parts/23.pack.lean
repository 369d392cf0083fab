/-! what the reference packs into one long, and what it reads back -/
theorem l_tn {n : Nat} (h : n < 2 ^ 64) : (lN n).toBitVec.toNat = n := Nat.mod_eq_of_lt h
theorem l_andN {n : Nat} (h : n < 2 ^ 64) {m : Int64} (k : Nat) (hm : m.toBitVec.toNat = 2 ^ k - 1) : lN n &&& m = lN (n % 2 ^ k) := by
  apply Int64.toBitVec_inj.mp
  apply BitVec.eq_of_toNat_eq
  rw [Int64.toBitVec_and, BitVec.toNat_and, hm, Nat.and_two_pow_sub_one_eq_mod, l_tn h]
  exact (l_tn (Nat.lt_of_le_of_lt (Nat.mod_le _ _) h)).symm
theorem l_shlN {n : Nat} (s : Int64) (k : Nat) (hs : (s.toBitVec.smod 64).toNat = k) (h : n * 2 ^ k < 2 ^ 64) : lN n <<< s = lN (n * 2 ^ k) := by
  apply Int64.toBitVec_inj.mp
  apply BitVec.eq_of_toNat_eq
  have hn : n < 2 ^ 64 := Nat.lt_of_le_of_lt (Nat.le_mul_of_pos_right n (Nat.two_pow_pos k)) h
  show ((lN n).toBitVec <<< (s.toBitVec.smod 64).toNat).toNat = _
  rw [hs, BitVec.toNat_shiftLeft, Nat.shiftLeft_eq, l_tn hn, l_tn h, Nat.mod_eq_of_lt h]
theorem l_shrN {n : Nat} (h : n < 2 ^ 63) (s : Int64) (k : Nat) (hs : (s.toBitVec.smod 64).toNat = k) : lN n >>> s = lN (n / 2 ^ k) := by
  apply Int64.toInt_inj.mp
  have h2 : n / 2 ^ k ≤ n := Nat.div_le_self _ _
  show ((lN n).toBitVec.sshiftRight (s.toBitVec.smod 64).toNat).toInt = _
  rw [hs, BitVec.toInt_sshiftRight]
  show (lN n).toInt >>> k = _
  rw [pk_lT h, pk_lT (by omega), Int.shiftRight_eq_div_pow]
  rfl
theorem l_orN {n : Nat} (h : n < 2 ^ 61) : lN n ||| (2305843009213693952 : Int64) = lN (n + 2 ^ 61) := by
  apply Int64.toBitVec_inj.mp
  apply BitVec.eq_of_toNat_eq
  rw [Int64.toBitVec_or, BitVec.toNat_or, l_tn (by omega), l_tn (by omega)]
  have e : (2305843009213693952 : Int64).toBitVec.toNat = 2 ^ 61 * 1 := by decide
  rw [e, Nat.or_comm, ← Nat.two_pow_add_eq_or_of_lt h 1]
  omega
def pkN (a b c m k l h z : Nat) : Nat := a + b * 2 ^ 17 + c * 2 ^ 32 + m * 2 ^ 47 + k * 2 ^ 54 + l * 2 ^ 57 + h * 2 ^ 60 + z * 2 ^ 61
/-- the parts are in their bounds -/
def pkB (a b c m k l h z : Nat) : Prop := a < 2 ^ 17 ∧ b < 2 ^ 15 ∧ c < 2 ^ 15 ∧ m < 2 ^ 7 ∧ k < 6 ∧ l < 5 ∧ h < 2 ∧ z < 2
section PKN
variable {a b c m k l h z : Nat}
theorem pkN_lt (B : pkB a b c m k l h z) : pkN a b c m k l h z < 2 ^ 63 := by
  obtain ⟨h1, h2, h3, h4, h5, h6, h7, h8⟩ := B
  unfold pkN
  omega
theorem r_part0 {n : Nat} (hn : n < 2 ^ 63) : r_part (lN n) 0 17 = nI (n % 2 ^ 17) := by
  unfold r_part
  rw [l_shrN hn _ 0 (by decide), l_andN (by omega) 17 (by decide), lN_i, Nat.pow_zero, Nat.div_one]
theorem r_part17 {n : Nat} (hn : n < 2 ^ 63) : r_part (lN n) 17 15 = nI (n / 2 ^ 17 % 2 ^ 15) := by
  unfold r_part
  rw [l_shrN hn _ 17 (by decide), l_andN (by omega) 15 (by decide), lN_i]
theorem r_part32 {n : Nat} (hn : n < 2 ^ 63) : r_part (lN n) 32 15 = nI (n / 2 ^ 32 % 2 ^ 15) := by
  unfold r_part
  rw [l_shrN hn _ 32 (by decide), l_andN (by omega) 15 (by decide), lN_i]
theorem r_part47 {n : Nat} (hn : n < 2 ^ 63) : r_part (lN n) 47 7 = nI (n / 2 ^ 47 % 2 ^ 7) := by
  unfold r_part
  rw [l_shrN hn _ 47 (by decide), l_andN (by omega) 7 (by decide), lN_i]
theorem r_part54 {n : Nat} (hn : n < 2 ^ 63) : r_part (lN n) 54 3 = nI (n / 2 ^ 54 % 2 ^ 3) := by
  unfold r_part
  rw [l_shrN hn _ 54 (by decide), l_andN (by omega) 3 (by decide), lN_i]
theorem r_part57 {n : Nat} (hn : n < 2 ^ 63) : r_part (lN n) 57 3 = nI (n / 2 ^ 57 % 2 ^ 3) := by
  unfold r_part
  rw [l_shrN hn _ 57 (by decide), l_andN (by omega) 3 (by decide), lN_i]
theorem r_part60 {n : Nat} (hn : n < 2 ^ 63) : r_part (lN n) 60 1 = nI (n / 2 ^ 60 % 2 ^ 1) := by
  unfold r_part
  rw [l_shrN hn _ 60 (by decide), l_andN (by omega) 1 (by decide), lN_i]
theorem r_part61 {n : Nat} (hn : n < 2 ^ 63) : r_part (lN n) 61 1 = nI (n / 2 ^ 61 % 2 ^ 1) := by
  unfold r_part
  rw [l_shrN hn _ 61 (by decide), l_andN (by omega) 1 (by decide), lN_i]
theorem pk_price (B : pkB a b c m k l h z) : r_price (lN (pkN a b c m k l h z)) = nI a := by
  refine (r_part0 (pkN_lt B)).trans (congrArg nI ?_)
  obtain ⟨h1, h2, h3, h4, h5, h6, h7, h8⟩ := B
  unfold pkN
  omega
theorem pk_tax (B : pkB a b c m k l h z) : r_tax (lN (pkN a b c m k l h z)) = nI b := by
  refine (r_part17 (pkN_lt B)).trans (congrArg nI ?_)
  obtain ⟨h1, h2, h3, h4, h5, h6, h7, h8⟩ := B
  unfold pkN
  omega
theorem pk_share (B : pkB a b c m k l h z) : r_share (lN (pkN a b c m k l h z)) = nI c := by
  refine (r_part32 (pkN_lt B)).trans (congrArg nI ?_)
  obtain ⟨h1, h2, h3, h4, h5, h6, h7, h8⟩ := B
  unfold pkN
  omega
theorem pk_month (B : pkB a b c m k l h z) : r_part (lN (pkN a b c m k l h z)) 47 7 = nI m := by
  refine (r_part47 (pkN_lt B)).trans (congrArg nI ?_)
  obtain ⟨h1, h2, h3, h4, h5, h6, h7, h8⟩ := B
  unfold pkN
  omega
theorem pk_maker (B : pkB a b c m k l h z) : r_part (lN (pkN a b c m k l h z)) 54 3 = nI k := by
  refine (r_part54 (pkN_lt B)).trans (congrArg nI ?_)
  obtain ⟨h1, h2, h3, h4, h5, h6, h7, h8⟩ := B
  unfold pkN
  omega
theorem pk_land (B : pkB a b c m k l h z) : r_part (lN (pkN a b c m k l h z)) 57 3 = nI l := by
  refine (r_part57 (pkN_lt B)).trans (congrArg nI ?_)
  obtain ⟨h1, h2, h3, h4, h5, h6, h7, h8⟩ := B
  unfold pkN
  omega
theorem pk_pass (B : pkB a b c m k l h z) : r_part (lN (pkN a b c m k l h z)) 60 1 = nI h := by
  refine (r_part60 (pkN_lt B)).trans (congrArg nI ?_)
  obtain ⟨h1, h2, h3, h4, h5, h6, h7, h8⟩ := B
  unfold pkN
  omega
theorem pk_ref (B : pkB a b c m k l h z) : r_part (lN (pkN a b c m k l h z)) 61 1 = nI z := by
  refine (r_part61 (pkN_lt B)).trans (congrArg nI ?_)
  obtain ⟨h1, h2, h3, h4, h5, h6, h7, h8⟩ := B
  unfold pkN
  omega
theorem pk_or (B : pkB a b c m k l h 0) : lN (pkN a b c m k l h 0) ||| (2305843009213693952 : Int64) = lN (pkN a b c m k l h 1) := by
  rw [l_orN]
  · exact congrArg lN (by unfold pkN; omega)
  · obtain ⟨h1, h2, h3, h4, h5, h6, h7, h8⟩ := B
    unfold pkN
    omega
theorem pk_row (B : pkB a b c m k l h 0) : (nI a).toInt64 + ((nI b).toInt64 <<< ((17 : Int32).toInt64 &&& 63)) + ((nI c).toInt64 <<< ((32 : Int32).toInt64 &&& 63)) + ((nI m).toInt64 <<< ((47 : Int32).toInt64 &&& 63)) + ((nI k).toInt64 <<< ((54 : Int32).toInt64 &&& 63)) + ((nI l).toInt64 <<< ((57 : Int32).toInt64 &&& 63)) + ((nI h).toInt64 <<< ((60 : Int32).toInt64 &&& 63)) = lN (pkN a b c m k l h 0) := by
  obtain ⟨h1, h2, h3, h4, h5, h6, h7, -⟩ := B
  rw [nI_l (by omega), nI_l (by omega), nI_l (by omega), nI_l (by omega), nI_l (by omega), nI_l (by omega), nI_l (by omega), l_shlN _ 17 (by decide) (by omega), l_shlN _ 32 (by decide) (by omega), l_shlN _ 47 (by decide) (by omega), l_shlN _ 54 (by decide) (by omega), l_shlN _ 57 (by decide) (by omega), l_shlN _ 60 (by decide) (by omega), lN_add, lN_add, lN_add, lN_add, lN_add, lN_add]
  exact congrArg lN (by unfold pkN; omega)
end PKN
