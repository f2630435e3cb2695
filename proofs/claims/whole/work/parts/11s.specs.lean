/-! pure words: sums, greatest numbers, counts, pages that are emptied; over rows of ints -/
def tb_sw (x y : Int32) : Int32 := (nI 3 * x + y) - (nI 3 * x + y) / nI 251 * nI 251
def tb_sm (f : Nat → Int32) : Nat → Int32
  | 0 => nI 1
  | i + 1 => tb_sw (tb_sm f i) (f i)
def tb_gw (f : Nat → Int32) : Nat → Int32
  | 0 => nI 0
  | i + 1 => if tb_gw f i < f i then f i else tb_gw f i
def tb_wo (f : Nat → Int32) (x : Int32) : Nat → Int32
  | 0 => nI 0
  | i + 1 => if f i < x then tb_wo f x i else tb_wo f x i + nI 1
def tb_ew (z : tb_M) (a : Nat) : Nat → tb_M
  | 0 => z
  | i + 1 => tb_up (tb_ew z a i) (a + 2) i ((tb_ew z a i) (a + 2) i + nI 1)
def tb_ec (z : tb_M) (a : Nat) : Nat → tb_M
  | 0 => z
  | i + 1 => tb_up (tb_ec z a i) (a + 1) i (nI 255)
def tb_at (d r : Nat) : Nat := if r = 0 then d + 2 else if r = 1 then d + 5 else d + 8
theorem tb_isat {d : Nat} (h : tb_isD d) (r : Nat) : tb_isA (tb_at d r) := by
  unfold tb_at
  by_cases h0 : r = 0
  · rw [if_pos h0]; exact tb_A1 h
  · rw [if_neg h0]
    by_cases h1 : r = 1
    · rw [if_pos h1]; exact tb_A2 h
    · rw [if_neg h1]; exact tb_A3 h
def tb_len (z : tb_M) (a : Nat) : Nat := (z a 2).toNatClampNeg
def tb_okL (z : tb_M) (a : Nat) : Prop := z a 2 = nI (tb_len z a) ∧ tb_len z a ≤ 32
theorem tb_okL_of {z : tb_M} {a n : Nat} (h : z a 2 = nI n) (hn : n ≤ 32) : tb_okL z a ∧ tb_len z a = n := by
  have e : tb_len z a = n := by
    unfold tb_len
    rw [h]
    exact nI_clamp (by omega)
  exact ⟨⟨by rw [e]; exact h, by omega⟩, e⟩
theorem tb_okL_c {z z2 : tb_M} {a : Nat} (h : tb_okL z a) (e : z2 a 2 = z a 2) : tb_okL z2 a := by
  unfold tb_okL tb_len at *
  rw [e]
  exact h
theorem tb_xor0 {a b : Nat} (ha : a < 2 ^ 31) (hb : b < 2 ^ 31) : 0 ≤ nI a ^^^ nI b := by
  have e : nI a ^^^ nI b = nI (a ^^^ b) := by
    unfold nI
    apply Int32.toBitVec_inj.mp
    simp [Int32.toBitVec_xor]
  rw [e]
  exact nI_pos' (Nat.xor_lt_two_pow ha hb)
