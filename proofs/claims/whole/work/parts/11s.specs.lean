/-! pure words: sums, greatest numbers, counts, pages that are emptied; over rows of ints -/
def tb_sw (x y : Int32) : Int32 := (nI 3 * x + y) - (nI 3 * x + y) / nI 251 * nI 251
def tb_sm (f : Nat → Int32) : Nat → Int32
  | 0 => nI 1
  | i + 1 => tb_sw (tb_sm f i) (f i)
def tb_gw (f : Nat → Int32) : Nat → Int32
  | 0 => nI 0
  | i + 1 => if tb_gw f i < f i then f i else tb_gw f i
def tb_wo (f : Nat → Int32) (x : Int32) : Nat → Int32
  | 0 => nI 0
  | i + 1 => if f i < x then tb_wo f x i else tb_wo f x i + nI 1
def tb_ew (z : tb_M) (a : Nat) : Nat → tb_M
  | 0 => z
  | i + 1 => tb_up (tb_ew z a i) (a + 2) i ((tb_ew z a i) (a + 2) i + nI 1)
def tb_ec (z : tb_M) (a : Nat) : Nat → tb_M
  | 0 => z
  | i + 1 => tb_up (tb_ec z a i) (a + 1) i (nI 255)
def tb_at (d r : Nat) : Nat := if r = 0 then d + 2 else if r = 1 then d + 5 else d + 8
theorem tb_isat {d : Nat} (h : tb_isD d) (r : Nat) : tb_isA (tb_at d r) := by
  unfold tb_at
  by_cases h0 : r = 0
  · rw [if_pos h0]; exact tb_A1 h
  · rw [if_neg h0]
    by_cases h1 : r = 1
    · rw [if_pos h1]; exact tb_A2 h
    · rw [if_neg h1]; exact tb_A3 h
def tb_len (z : tb_M) (a : Nat) : Nat := (z a 2).toNatClampNeg
def tb_okL (z : tb_M) (a : Nat) : Prop := z a 2 = nI (tb_len z a) ∧ tb_len z a ≤ 32
theorem tb_okL_of {z : tb_M} {a n : Nat} (h : z a 2 = nI n) (hn : n ≤ 32) : tb_okL z a ∧ tb_len z a = n := by
  have e : tb_len z a = n := by
    unfold tb_len
    rw [h]
    exact nI_clamp (by omega)
  exact ⟨⟨by rw [e]; exact h, by omega⟩, e⟩
theorem tb_okL_c {z z2 : tb_M} {a : Nat} (h : tb_okL z a) (e : z2 a 2 = z a 2) : tb_okL z2 a := by
  unfold tb_okL tb_len at *
  rw [e]
  exact h
theorem tb_xor0 {a b : Nat} (ha : a < 2 ^ 31) (hb : b < 2 ^ 31) : 0 ≤ nI a ^^^ nI b := by
  have e : nI a ^^^ nI b = nI (a ^^^ b) := by
    unfold nI
    apply Int32.toBitVec_inj.mp
    simp [Int32.toBitVec_xor]
  rw [e]
  exact nI_pos' (Nat.xor_lt_two_pow ha hb)
def tb_al (z : tb_M) (d : Nat) : Nat := (z (d + 11) 0).toNatClampNeg
def tb_rn (z : tb_M) (d : Nat) : Nat := (z d 5).toNatClampNeg
def tb_okS (z : tb_M) (d : Nat) : Prop := (∀ r, tb_okL z (tb_at d r)) ∧ z (d + 11) 0 = nI (tb_al z d) ∧ tb_al z d + 1 < 2 ^ 30
def tb_okT (z : tb_M) (d : Nat) : Prop := tb_okS z d ∧ z d 5 = nI (tb_rn z d) ∧ tb_rn z d ≤ 2
theorem tb_isA_ne {d a : Nat} (hd : tb_isD d) (ha : tb_isA a) : a ≠ d := by
  obtain ⟨i, -, rfl⟩ := hd
  obtain ⟨d2, ⟨j, -, rfl⟩, h | h | h⟩ := ha <;> omega
theorem tb_isA_ne11 {d a : Nat} (hd : tb_isD d) (ha : tb_isA a) : a ≠ d + 11 := by
  obtain ⟨i, -, rfl⟩ := hd
  obtain ⟨d2, ⟨j, -, rfl⟩, h | h | h⟩ := ha <;> omega
theorem tb_okS_c {z z2 : tb_M} {d : Nat} (h : tb_okS z d) (e2 : ∀ r, z2 (tb_at d r) 2 = z (tb_at d r) 2) (e0 : z2 (d + 11) 0 = z (d + 11) 0) : tb_okS z2 d := by
  refine ⟨fun r => tb_okL_c (h.1 r) (e2 r), ?_⟩
  unfold tb_al
  rw [e0]
  exact h.2
def tb_pr : Nat → Int32
  | 0 => (-1)
  | k + 1 => nI k
theorem tb_pr_dec (k : Nat) : nI k + Int32.ofInt (-1) = tb_pr k := by
  cases k with
  | zero => decide +kernel
  | succ k => exact pk_m1 k
theorem tb_lcmp {x y : Int64} : lg_cmp x y = 0 ↔ x = y := by
  unfold lg_cmp
  by_cases h2 : x = y
  · subst h2
    simp
  · constructor
    · intro h
      rw [if_neg h2] at h
      split at h <;> exact absurd h (by decide)
    · intro h
      exact absurd h h2
def tb_ff (F : Nat → Int32) (t : Int32) : Nat → Nat → Int32
  | 0, _ => t
  | k + 1, i => if 0 ≤ F i then tb_ff F t k (i + 1) else nI i
def tb_tl (n : Nat) : Int32 := if n = 0 then nI n else (if n % 2 = 1 then nI n else (-6))
def tb_wi (x lo hi : Int32) : Prop := ¬ (x < lo) ∧ (¬ (hi < x))
def tb_ci : Nat → Int64 → Nat → Nat
  | 0, x, f => if x = (0 : Int64) then f else 0
  | k + 1, x, f => if ¬ ((x &&& (255 : Int64)).toInt32 < nI 33) ∧ (¬ (nI 126 < (x &&& (255 : Int64)).toInt32)) then tb_ci k (tb_ushr x (nI 8)) (f + 1) else (if x = (0 : Int64) then f else 0)
def tb_ap (z : tb_M) (x : Int64) (n b : Nat) : Nat → tb_M
  | 0 => z
  | j + 1 => tb_up (tb_up (tb_ap z x n b j) 156 (n + j) (tb_ushr x (nI (8 * (b - 1 - j))) &&& (255 : Int64)).toInt32) 155 0 (nI (n + j + 1))
theorem tb_ap_len (z : tb_M) (x : Int64) {n b : Nat} (h : z 155 0 = nI n) (j : Nat) : tb_ap z x n b j 155 0 = nI (n + j) := by
  cases j with
  | zero => exact h
  | succ j => exact tb_up_s _ _ _ _
theorem tb_pr_of {b : Nat} (h : 1 ≤ b) : nI (b - 1) = tb_pr b := by
  cases b with
  | zero => exact absurd h (by decide)
  | succ b => rfl
def tb_mx (j : Nat) : Int32 := if j = 0 then nI 9 else if j = 1 then nI 99 else nI 60
theorem tb_most_v {j : Nat} (h : j < 3) : tb_most (nI j).toNatClampNeg = .int (tb_mx j) := by
  rw [nI_clamp (by omega)]
  rcases (show j = 0 ∨ j = 1 ∨ j = 2 by omega) with rfl | rfl | rfl <;> rfl
def tb_rc (z : tb_M) : Nat := (z 153 1).toNatClampNeg
def tb_okR (z : tb_M) : Prop := z 153 1 = nI (tb_rc z) ∧ tb_rc z < 2 ^ 29
def tb_fl (z : tb_M) (a : Nat) : Nat := (z a 5).toNatClampNeg
def tb_okF (z : tb_M) (a : Nat) : Prop := tb_okL z a ∧ z a 5 = nI (tb_fl z a) ∧ tb_fl z a ≤ tb_len z a
theorem tb_lackN {z : tb_M} {a : Nat} (h : tb_okF z a) : z a 2 - z a 5 = nI (tb_len z a - tb_fl z a) := by
  rw [h.1.1, h.2.1]
  exact pk_sub h.2.2
def tb_pl (z : tb_M) : Nat := (z 155 0).toNatClampNeg
def tb_okP (z : tb_M) : Prop := z 155 0 = nI (tb_pl z) ∧ tb_pl z ≤ 64
theorem tb_ci_le : ∀ (k : Nat) (x : Int64) (f : Nat), tb_ci k x f ≤ f + k
  | 0, x, f => by
    unfold tb_ci
    split <;> omega
  | k + 1, x, f => by
    have ih := tb_ci_le k (tb_ushr x (nI 8)) (f + 1)
    unfold tb_ci
    split
    · omega
    · split <;> omega
def tb_kp (z : tb_M) : Nat := (z 11 2).toNatClampNeg
def tb_okK (z : tb_M) : Prop := z 11 0 = nI (tb_al z 0) ∧ tb_al z 0 + 1 < 2 ^ 30 ∧ z 11 2 = nI (tb_kp z) ∧ tb_kp z ≤ tb_al z 0 ∧ tb_kp z ≤ 12
-- the reference
def tb_mv (z : tb_M) (k f k2 t : Nat) : Nat → tb_M
  | 0 => z
  | i + 1 => tb_up (tb_mv z k f k2 t i) k2 (t + i) ((tb_mv z k f k2 t i) k (f + i))
def tb_sh (z : tb_M) : Nat → tb_M
  | 0 => z
  | i + 1 => tb_up (tb_sh z i) 160 i ((tb_sh z i) 160 (i + 139))
theorem tb_sh_k (z : tb_M) {k : Nat} (h : k ≠ 160) : ∀ i, tb_sh z i k = z k
  | 0 => rfl
  | i + 1 => by rw [tb_sh, tb_up_k _ _ _ h, tb_sh_k z h i]
theorem tb_mv_k (z : tb_M) {k f k2 t q : Nat} (h : q ≠ k2) : ∀ i, tb_mv z k f k2 t i q = z q
  | 0 => rfl
  | i + 1 => by rw [tb_mv, tb_up_k _ _ _ h, tb_mv_k z h i]
def tb_lm (z : tb_M) (r : Nat) : Nat := (z 158 (11 + 46 * r + 2)).toNatClampNeg
def tb_okM (z : tb_M) (r : Nat) : Prop := z 158 (11 + 46 * r + 2) = nI (tb_lm z r) ∧ tb_lm z r ≤ 32
theorem tb_okM_c {z z2 : tb_M} {r : Nat} (h : tb_okM z r) (e : z2 158 (11 + 46 * r + 2) = z 158 (11 + 46 * r + 2)) : tb_okM z2 r := by
  unfold tb_okM tb_lm at *
  rw [e]
  exact h
def tb_rm1 (z : tb_M) : Nat → tb_M
  | 0 => z
  | j + 1 => tb_up (tb_rm1 z j) 158 ((33 - j) + 105) ((tb_rm1 z j) 158 ((33 - j) + 105 - 3))
def tb_rnM (z : tb_M) : Nat := (z 158 3).toNatClampNeg
def tb_okRn (z : tb_M) : Prop := z 158 3 = nI (tb_rnM z) ∧ tb_rnM z ≤ 2
theorem tb_okRn_c {z z2 : tb_M} (h : tb_okRn z) (e : z2 158 3 = z 158 3) : tb_okRn z2 ∧ tb_rnM z2 = tb_rnM z := by
  unfold tb_okRn tb_rnM at *
  rw [e]
  exact ⟨h, rfl⟩
def tb_no (n : Nat) : Int32 := if n = 2 then (-6) else nI n
theorem tb_no_iff {n : Nat} (h : n ≤ 2) : tb_no n = (-6) ↔ n = 2 := by
  rcases (show n = 0 ∨ n = 1 ∨ n = 2 by omega) with rfl | rfl | rfl <;> decide +kernel
def tb_aw (z : tb_M) (sl : Nat) : Nat → Bool
  | 0 => false
  | i + 1 => tb_aw z sl i || decide (¬ (z 158 ((11 + (46 * sl)) + (6 + i)) < z 158 2))
theorem tb_aw_s (z : tb_M) (sl i : Nat) : (tb_aw z sl i = true ∨ ¬ (z 158 ((11 + (46 * sl)) + (6 + i)) < z 158 2)) ↔ tb_aw z sl (i + 1) = true := by
  simp [tb_aw]
def tb_gx (f : Nat → Int32) : Nat → Int32
  | 0 => nI 0
  | i + 1 => if f i ≤ tb_gx f i then tb_gx f i else f i
def tb_ch0 (g2 g3 : Nat) : Nat := if g2 = 2 then g3 else g2
