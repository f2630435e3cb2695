/-! THE RELATION between a device of the class (its block in the memory) and a row of the reference -/
def tb_pk (j : Nat) : Nat := if j < 3 then 1 else if j < 7 then 0 else if j < 9 then 11 else if j = 9 then 0 else if j = 10 then 11 else if j < 17 then 2 else if j < 25 then 4 else if j < 57 then 3 else if j < 63 then 5 else if j < 71 then 7 else 6
def tb_pq (j : Nat) : Nat := if j < 3 then j else if j < 7 then j + 2 else if j < 9 then j - 7 else if j = 9 then 9 else if j = 10 then 2 else if j < 17 then j - 11 else if j < 25 then j - 17 else if j < 57 then j - 25 else if j < 63 then j - 57 else if j < 71 then j - 63 else j - 71
def tb_pj (k q : Nat) : Nat := if k = 1 then q else if k = 0 then (if q = 9 then 9 else q - 2) else if k = 11 then (if q = 2 then 10 else q + 7) else if k = 2 then q + 11 else if k = 4 then q + 17 else if k = 3 then q + 25 else if k = 5 then q + 57 else if k = 7 then q + 63 else q + 71
theorem tb_pj_e : ∀ j, j < 103 → tb_pj (tb_pk j) (tb_pq j) = j := by decide
theorem tb_pk_b : ∀ j, j < 103 → tb_pk j < 12 ∧ tb_pk j ≠ 8 ∧ tb_pk j ≠ 9 ∧ tb_pk j ≠ 10 := by decide
theorem tb_pa_e : ∀ r, r < 2 → ∀ p, p < 6 → tb_pk (11 + 46 * r + p) = (if r = 0 then 2 else 5) ∧ tb_pq (11 + 46 * r + p) = p := by decide
theorem tb_pv_e : ∀ r, r < 2 → ∀ p, p < 8 → tb_pk (11 + 46 * r + (6 + p)) = (if r = 0 then 4 else 7) ∧ tb_pq (11 + 46 * r + (6 + p)) = p := by decide
theorem tb_pw_e : ∀ r, r < 2 → ∀ p, p < 32 → tb_pk (11 + 46 * r + (14 + p)) = (if r = 0 then 3 else 6) ∧ tb_pq (11 + 46 * r + (14 + p)) = p := by decide
theorem tb_pa_k {d r p : Nat} (hr : r < 2) (hp : p < 6) : tb_at d r = d + tb_pk (11 + 46 * r + p) ∧ p = tb_pq (11 + 46 * r + p) := by
  obtain ⟨h1, h2⟩ := tb_pa_e r hr p hp
  refine ⟨?_, h2.symm⟩
  rw [h1]
  unfold tb_at
  by_cases h : r = 0
  · rw [if_pos h, if_pos h]
  · rw [if_neg h, if_neg h, if_pos (by omega)]
theorem tb_pv_k {d r p : Nat} (hr : r < 2) (hp : p < 8) : tb_at d r + 2 = d + tb_pk (11 + 46 * r + (6 + p)) ∧ p = tb_pq (11 + 46 * r + (6 + p)) := by
  obtain ⟨h1, h2⟩ := tb_pv_e r hr p hp
  refine ⟨?_, h2.symm⟩
  rw [h1]
  unfold tb_at
  by_cases h : r = 0
  · rw [if_pos h, if_pos h]
  · rw [if_neg h, if_neg h, if_pos (by omega)]
theorem tb_pw_k {d r p : Nat} (hr : r < 2) (hp : p < 32) : tb_at d r + 1 = d + tb_pk (11 + 46 * r + (14 + p)) ∧ p = tb_pq (11 + 46 * r + (14 + p)) := by
  obtain ⟨h1, h2⟩ := tb_pw_e r hr p hp
  refine ⟨?_, h2.symm⟩
  rw [h1]
  unfold tb_at
  by_cases h : r = 0
  · rw [if_pos h, if_pos h]
  · rw [if_neg h, if_neg h, if_pos (by omega)]
def tb_R1 (z : tb_M) (d : Nat) (s : Nat → Int32) : Prop := ∀ j, j < 103 → s j = z (d + tb_pk j) (tb_pq j)
section TBREL
variable {z z' y y' : tb_M} {d r p q w j k N n : Nat} {s s' : Nat → Int32} {v v' x : Int32}
theorem tb_R1.a (h : tb_R1 z d s) (hr : r < 2) (hp : p < 6) : s (11 + 46 * r + p) = z (tb_at d r) p := by
  obtain ⟨h1, h2⟩ := tb_pa_k (d := d) hr hp
  rw [h _ (by omega), ← h1, ← h2]
theorem tb_R1.vv (h : tb_R1 z d s) (hr : r < 2) (hp : p < 8) : s (11 + 46 * r + (6 + p)) = z (tb_at d r + 2) p := by
  obtain ⟨h1, h2⟩ := tb_pv_k (d := d) hr hp
  rw [h _ (by omega), ← h1, ← h2]
theorem tb_R1.ww (h : tb_R1 z d s) (hr : r < 2) (hp : p < 32) : s (11 + 46 * r + (14 + p)) = z (tb_at d r + 1) p := by
  obtain ⟨h1, h2⟩ := tb_pw_k (d := d) hr hp
  rw [h _ (by omega), ← h1, ← h2]
theorem tb_R1.set (h : tb_R1 z d s) (hq : q < 3) : s q = z (d + 1) q := by
  have h1 : tb_pk q = 1 ∧ tb_pq q = q := by
    unfold tb_pk tb_pq
    exact ⟨if_pos hq, if_pos hq⟩
  rw [h q (by omega), h1.1, h1.2]
theorem tb_R1.d3 (h : tb_R1 z d s) : s 3 = z d 5 := h 3 (by decide)
theorem tb_R1.d4 (h : tb_R1 z d s) : s 4 = z d 6 := h 4 (by decide)
theorem tb_R1.d5 (h : tb_R1 z d s) : s 5 = z d 7 := h 5 (by decide)
theorem tb_R1.d6 (h : tb_R1 z d s) : s 6 = z d 8 := h 6 (by decide)
theorem tb_R1.d7 (h : tb_R1 z d s) : s 7 = z (d + 11) 0 := h 7 (by decide)
theorem tb_R1.d8 (h : tb_R1 z d s) : s 8 = z (d + 11) 1 := h 8 (by decide)
theorem tb_R1.d9 (h : tb_R1 z d s) : s 9 = z d 9 := h 9 (by decide)
theorem tb_R1.d10 (h : tb_R1 z d s) : s 10 = z (d + 11) 2 := h 10 (by decide)
theorem tb_R1u (h : tb_R1 z d s) (hj : j < 103) (hk : k = d + tb_pk j) (hq : q = tb_pq j) (hs : s' j = v) (ho : ∀ i, i ≠ j → s' i = s i) : tb_R1 (tb_up z k q v) d s' := by
  intro i hi
  by_cases e : i = j
  · subst e
    rw [hs, hk, hq, tb_up_s]
  · rw [ho i e, h i hi]
    subst hk hq
    have hn : ¬ (d + tb_pk i = d + tb_pk j ∧ tb_pq i = tb_pq j) := by
      rintro ⟨a, b⟩
      have a' : tb_pk i = tb_pk j := by omega
      apply e
      rw [← tb_pj_e i hi, ← tb_pj_e j hj, a', b]
    exact (if_neg hn).symm
/-- both sides write the same value at places that belong together -/
theorem tb_R1.up (h : tb_R1 z d (y 158)) (hj : j < 103) (hk : k = d + tb_pk j) (hq : q = tb_pq j) (hv : v' = v) : tb_R1 (tb_up z k q v) d (tb_up y 158 j v' 158) :=
  tb_R1u h hj hk hq (by rw [tb_up_s, hv]) (fun i hi => tb_up_j _ _ _ hi)
theorem tb_R1.ua (h : tb_R1 z d (y 158)) (hr : r < 2) (hp : p < 6) (hv : v' = v) : tb_R1 (tb_up z (tb_at d r) p v) d (tb_up y 158 (11 + 46 * r + p) v' 158) :=
  h.up (by omega) (tb_pa_k hr hp).1 (tb_pa_k (d := d) hr hp).2 hv
theorem tb_R1.uv (h : tb_R1 z d (y 158)) (hr : r < 2) (hp : p < 8) (hv : v' = v) : tb_R1 (tb_up z (tb_at d r + 2) p v) d (tb_up y 158 (11 + 46 * r + (6 + p)) v' 158) :=
  h.up (by omega) (tb_pv_k hr hp).1 (tb_pv_k (d := d) hr hp).2 hv
theorem tb_R1.uw (h : tb_R1 z d (y 158)) (hr : r < 2) (hp : p < 32) (hv : v' = v) : tb_R1 (tb_up z (tb_at d r + 1) p v) d (tb_up y 158 (11 + 46 * r + (14 + p)) v' 158) :=
  h.up (by omega) (tb_pw_k hr hp).1 (tb_pw_k (d := d) hr hp).2 hv
theorem tb_R1.us (h : tb_R1 z d (y 158)) (hq : q < 3) (hv : v' = v) : tb_R1 (tb_up z (d + 1) q v) d (tb_up y 158 q v' 158) := by
  have h1 : tb_pk q = 1 ∧ tb_pq q = q := by
    unfold tb_pk tb_pq
    exact ⟨if_pos hq, if_pos hq⟩
  exact h.up (by omega) (by rw [h1.1]) h1.2.symm hv
theorem tb_R1.u3 (h : tb_R1 z d (y 158)) (hv : v' = v) : tb_R1 (tb_up z d 5 v) d (tb_up y 158 3 v' 158) := h.up (by decide) rfl rfl hv
theorem tb_R1.u4 (h : tb_R1 z d (y 158)) (hv : v' = v) : tb_R1 (tb_up z d 6 v) d (tb_up y 158 4 v' 158) := h.up (by decide) rfl rfl hv
theorem tb_R1.u5 (h : tb_R1 z d (y 158)) (hv : v' = v) : tb_R1 (tb_up z d 7 v) d (tb_up y 158 5 v' 158) := h.up (by decide) rfl rfl hv
theorem tb_R1.u6 (h : tb_R1 z d (y 158)) (hv : v' = v) : tb_R1 (tb_up z d 8 v) d (tb_up y 158 6 v' 158) := h.up (by decide) rfl rfl hv
theorem tb_R1.u7 (h : tb_R1 z d (y 158)) (hv : v' = v) : tb_R1 (tb_up z (d + 11) 0 v) d (tb_up y 158 7 v' 158) := h.up (by decide) rfl rfl hv
theorem tb_R1.u8 (h : tb_R1 z d (y 158)) (hv : v' = v) : tb_R1 (tb_up z (d + 11) 1 v) d (tb_up y 158 8 v' 158) := h.up (by decide) rfl rfl hv
theorem tb_R1.u9 (h : tb_R1 z d (y 158)) (hv : v' = v) : tb_R1 (tb_up z d 9 v) d (tb_up y 158 9 v' 158) := h.up (by decide) rfl rfl hv
theorem tb_R1.u10 (h : tb_R1 z d (y 158)) (hv : v' = v) : tb_R1 (tb_up z (d + 11) 2 v) d (tb_up y 158 10 v' 158) := h.up (by decide) rfl rfl hv
theorem tb_R1.cz (h : tb_R1 z d s) (hc : ∀ c, c < 12 → c ≠ 8 → c ≠ 9 → c ≠ 10 → z' (d + c) = z (d + c)) : tb_R1 z' d s := by
  intro j hj
  obtain ⟨a, b, c, e⟩ := tb_pk_b j hj
  rw [h j hj, hc _ a b c e]
theorem tb_R1.cs (h : tb_R1 z d s) (hc : ∀ j, j < 103 → s' j = s j) : tb_R1 z d s' := by
  intro j hj
  rw [hc j hj, h j hj]
theorem tb_R1.ux (h : tb_R1 z d s) (hk : d + 12 ≤ k) : tb_R1 (tb_up z k q v) d s := h.cz fun c hc _ _ _ => tb_up_k _ _ _ (by omega)
theorem tb_up_id (z : tb_M) (k j : Nat) : tb_up z k j (z k j) = z := by
  funext a b
  by_cases h : a = k ∧ b = j
  · obtain ⟨rfl, rfl⟩ := h
    exact tb_up_s _ _ _ _
  · exact if_neg h
theorem tb_up_2 (z : tb_M) (k j : Nat) (v w : Int32) : tb_up (tb_up z k j v) k j w = tb_up z k j w := by
  funext a b
  by_cases h : a = k ∧ b = j
  · simp [tb_up, h]
  · simp [tb_up, h]
theorem tb_up_sw (z : tb_M) {k j k' j' : Nat} (v w : Int32) (h : k ≠ k' ∨ j ≠ j') : tb_up (tb_up z k j v) k' j' w = tb_up (tb_up z k' j' w) k j v := by
  funext a b
  by_cases h1 : a = k ∧ b = j
  · have h2 : ¬ (a = k' ∧ b = j') := by omega
    simp [tb_up, h1]
    intro a1 a2
    omega
  · simp [tb_up, h1]
theorem tb_at_0 (d : Nat) : tb_at d 0 = d + 2 := rfl
theorem tb_at_1 (d : Nat) : tb_at d 1 = d + 5 := rfl
theorem tb_at_2 (d : Nat) : tb_at d 2 = d + 8 := rfl
theorem tb_sm_c {f g : Nat → Int32} : ∀ {n : Nat}, (∀ i, i < n → f i = g i) → tb_sm f n = tb_sm g n
  | 0, _ => rfl
  | n + 1, h => by
    show tb_sw (tb_sm f n) (f n) = tb_sw (tb_sm g n) (g n)
    rw [tb_sm_c (fun i hi => h i (by omega)), h n (by omega)]
-- the golden copy
def tb_gold (z : tb_M) (d : Nat) : Prop := z (d + 8) 0 = nI 3 ∧ z (d + 8) 2 = nI 2 ∧ z (d + 8) 3 = tb_sm (z (d + 9)) 2 ∧ z (d + 9) 0 = nI 0 ∧ z (d + 9) 1 = nI 0 ∧ ∀ w, 2 ≤ w → w < 32 → z (d + 9) w = nI 255
theorem tb_gold.c (h : tb_gold z d) (h8 : z' (d + 8) = z (d + 8)) (h9 : z' (d + 9) = z (d + 9)) : tb_gold z' d := by
  unfold tb_gold
  rw [h8, h9]
  exact h
theorem tb_gold.len (h : tb_gold z d) : tb_len z (d + 8) = 2 := by
  unfold tb_len
  rw [h.2.1]
  decide
theorem tb_gold.snd (h : tb_gold z d) : tb_sm (z (d + 8 + 1)) (tb_len z (d + 8)) = z (d + 8) 3 := by rw [h.len, h.2.2.1]
-- what a start does to the state of a slot at first
def tb_F (x st tr : Int32) : Int32 := if st = nI 1 then (if x = nI 2 then nI 0 else st) else if st = nI 2 then (if tr = 0 then nI 4 else st) else st
theorem tb_lose_u (z : tb_M) (a : Nat) : sz_X0_loseFilling_m1 z a = tb_up z a 0 (if z a 0 = nI 1 then nI 0 else z a 0) := by
  unfold sz_X0_loseFilling_m1
  by_cases h : z a 0 = nI 1
  · rw [if_pos h, if_pos h]
  · rw [if_neg h, if_neg h, tb_up_id]
theorem tb_give_u (z : tb_M) (a : Nat) : sz_X0_giveUpTrial_m1 z a = tb_up z a 0 (if z a 0 = nI 2 then (if z a 4 = 0 then nI 4 else z a 0) else z a 0) := by
  unfold sz_X0_giveUpTrial_m1
  by_cases h : z a 0 = nI 2
  · rw [if_pos h, if_pos h]
    by_cases h4 : z a 4 = 0
    · rw [if_pos h4, if_pos h4]
    · rw [if_neg h4, if_neg h4, tb_up_id]
  · rw [if_neg h, if_neg h, tb_up_id]
theorem tb_lg_c (z : tb_M) {a b : Nat} (h : a ≠ b) : sz_X0_giveUpTrial_m1 (sz_X0_loseFilling_m1 z b) a = sz_X0_loseFilling_m1 (sz_X0_giveUpTrial_m1 z a) b := by
  rw [tb_give_u, tb_lose_u, tb_lose_u, tb_give_u, tb_up_k _ _ _ h, tb_up_k _ _ _ (Ne.symm h), tb_up_sw _ _ _ (Or.inl (Ne.symm h))]
theorem tb_lg_1 (z : tb_M) (a : Nat) : sz_X0_giveUpTrial_m1 (sz_X0_loseFilling_m1 z a) a = tb_up z a 0 (tb_F (nI 2) (z a 0) (z a 4)) := by
  rw [tb_give_u, tb_lose_u, tb_up_2, tb_up_s, tb_up_j _ _ _ (by decide)]
  unfold tb_F
  by_cases h1 : z a 0 = nI 1
  · rw [if_pos h1, if_pos h1, if_pos rfl, if_neg (by decide)]
  · rw [if_neg h1, if_neg h1]
theorem tb_g_1 (z : tb_M) (a : Nat) {x : Int32} (hx : ¬ x = nI 2) : sz_X0_giveUpTrial_m1 z a = tb_up z a 0 (tb_F x (z a 0) (z a 4)) := by
  rw [tb_give_u]
  unfold tb_F
  by_cases h1 : z a 0 = nI 1
  · rw [if_pos h1, if_neg hx, h1, if_neg (by decide)]
  · rw [if_neg h1]
theorem tb_m2_n (z : tb_M) (d : Nat) (x : Int32) : sz_X1_startBy_m2 z d x = tb_up (tb_up z (d + 2) 0 (tb_F x (z (d + 2) 0) (z (d + 2) 4))) (d + 5) 0 (tb_F x (z (d + 5) 0) (z (d + 5) 4)) := by
  unfold sz_X1_startBy_m2 sz_X1_startBy_m1
  by_cases hx : x = nI 2
  · rw [if_pos hx, tb_lg_c _ (show d + 2 ≠ d + 5 by omega), tb_lg_1, tb_lg_1, tb_up_k _ _ _ (show d + 5 ≠ d + 2 by omega), hx]
  · rw [if_neg hx, tb_g_1 z (d + 2) hx, tb_g_1 _ (d + 5) hx, tb_up_k _ _ _ (show d + 5 ≠ d + 2 by omega)]
theorem tb_M2_n (y : tb_M) (x : Int32) : sz_X6_starts_m2 y x = tb_up y 158 ((11 + (46 * 0)) + 0) (tb_F x (y 158 ((11 + (46 * 0)) + 0)) (y 158 ((11 + (46 * 0)) + 4))) := by
  unfold sz_X6_starts_m2 sz_X6_starts_m1 tb_F
  by_cases h1 : y 158 ((11 + (46 * 0)) + 0) = nI 1
  · have h2 : ¬ y 158 ((11 + (46 * 0)) + 0) = nI 2 := by rw [h1]; decide
    rw [if_neg h2, if_pos h1, if_pos h1]
    by_cases hx : x = nI 2
    · rw [if_pos hx, if_pos hx]
    · rw [if_neg hx, if_neg hx, tb_up_id]
  · rw [if_neg h1]
    by_cases h2 : y 158 ((11 + (46 * 0)) + 0) = nI 2
    · rw [if_pos h2, if_pos h2]
      by_cases h4 : y 158 ((11 + (46 * 0)) + 4) = 0
      · rw [if_pos h4, if_pos h4]
        by_cases hx : x = nI 2
        · rw [if_pos hx, tb_up_s, if_neg (by decide)]
        · rw [if_neg hx]
      · rw [if_neg h4, if_neg h4, if_neg h1, tb_up_id]
        by_cases hx : x = nI 2
        · rw [if_pos hx]
        · rw [if_neg hx]
    · rw [if_neg h2, if_neg h2, if_neg h1, tb_up_id]
      by_cases hx : x = nI 2
      · rw [if_pos hx]
      · rw [if_neg hx]
theorem tb_M4_n0 (y : tb_M) (x : Int32) : sz_X6_starts_m4 y x = tb_up (sz_X6_starts_m2 y x) 158 ((11 + (46 * 1)) + 0) (tb_F x (sz_X6_starts_m2 y x 158 ((11 + (46 * 1)) + 0)) (sz_X6_starts_m2 y x 158 ((11 + (46 * 1)) + 4))) := by
  unfold sz_X6_starts_m4 sz_X6_starts_m3
  generalize sz_X6_starts_m2 y x = y
  unfold tb_F
  by_cases h1 : y 158 ((11 + (46 * 1)) + 0) = nI 1
  · have h2 : ¬ y 158 ((11 + (46 * 1)) + 0) = nI 2 := by rw [h1]; decide
    rw [if_neg h2, if_pos h1, if_pos h1]
    by_cases hx : x = nI 2
    · rw [if_pos hx, if_pos hx]
    · rw [if_neg hx, if_neg hx, tb_up_id]
  · rw [if_neg h1]
    by_cases h2 : y 158 ((11 + (46 * 1)) + 0) = nI 2
    · rw [if_pos h2, if_pos h2]
      by_cases h4 : y 158 ((11 + (46 * 1)) + 4) = 0
      · rw [if_pos h4, if_pos h4]
        by_cases hx : x = nI 2
        · rw [if_pos hx, tb_up_s, if_neg (by decide)]
        · rw [if_neg hx]
      · rw [if_neg h4, if_neg h4, if_neg h1, tb_up_id]
        by_cases hx : x = nI 2
        · rw [if_pos hx]
        · rw [if_neg hx]
    · rw [if_neg h2, if_neg h2, if_neg h1, tb_up_id]
      by_cases hx : x = nI 2
      · rw [if_pos hx]
      · rw [if_neg hx]
theorem tb_M4_n (y : tb_M) (x : Int32) : sz_X6_starts_m4 y x = tb_up (tb_up y 158 ((11 + (46 * 0)) + 0) (tb_F x (y 158 ((11 + (46 * 0)) + 0)) (y 158 ((11 + (46 * 0)) + 4)))) 158 ((11 + (46 * 1)) + 0) (tb_F x (y 158 ((11 + (46 * 1)) + 0)) (y 158 ((11 + (46 * 1)) + 4))) := by
  rw [tb_M4_n0, tb_M2_n, tb_up_j _ _ _ (show (11 + (46 * 1)) + 0 ≠ (11 + (46 * 0)) + 0 by decide), tb_up_j _ _ _ (show (11 + (46 * 1)) + 4 ≠ (11 + (46 * 0)) + 0 by decide)]
theorem tb_m2_R1 (h : tb_R1 z d (y 158)) : tb_R1 (sz_X1_startBy_m2 z d x) d (sz_X6_starts_m4 y x 158) := by
  rw [tb_m2_n, tb_M4_n]
  refine tb_R1.ua (r := 1) (p := 0) (tb_R1.ua (r := 0) (p := 0) h (by decide) (by decide) ?_) (by decide) (by decide) ?_
  · rw [h.a (r := 0) (by decide) (by decide), h.a (r := 0) (by decide) (by decide)]
    rfl
  · rw [h.a (r := 1) (by decide) (by decide), h.a (r := 1) (by decide) (by decide)]
    rfl
end TBREL
