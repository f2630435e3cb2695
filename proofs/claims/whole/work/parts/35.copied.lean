/-! COPYING, on both sides -/
section TBCOPIED
variable {z z' z'' y y' y'' : tb_M} {a b d r p q j k k2 f t N M n : Nat} {s s' : Nat → Int32} {v v' x : Int32}
theorem tb_cp_e (z : tb_M) (src dst n j : Nat) : tb_cp z src dst n dst j = if j < n then z src j else z dst j := by
  unfold tb_cp
  by_cases h : j < n
  · rw [if_pos ⟨rfl, h⟩, if_pos h]
  · rw [if_neg (fun c => h c.2), if_neg h]
theorem tb_6_e : ∀ {p : Nat}, p < 6 → p = 0 ∨ p = 1 ∨ p = 2 ∨ p = 3 ∨ p = 4 ∨ p = 5 := by omega
/-- an area is copied -/
theorem tb_cA (z : tb_M) (h : b + 3 ≤ a ∨ a + 3 ≤ b) : (∀ p, p < 6 → sz_X0_copyFrom z a b a p = z b p) ∧ (∀ i, i < 32 → sz_X0_copyFrom z a b (a + 1) i = z (b + 1) i) ∧ (∀ i, i < 8 → sz_X0_copyFrom z a b (a + 2) i = z (b + 2) i) ∧ ∀ k, (k < a ∨ a + 3 ≤ k) → sz_X0_copyFrom z a b k = z k := by
  have hba : b ≠ a := by omega
  unfold sz_X0_copyFrom
  simp only [tb_up_k _ _ _ hba]
  refine ⟨fun p hp => ?_, fun i hi => ?_, fun i hi => ?_, fun k hk => ?_⟩
  · rw [tb_cp_k _ _ (by omega), tb_cp_k _ _ (by omega)]
    rcases tb_6_e hp with rfl | rfl | rfl | rfl | rfl | rfl
    · rw [tb_up_j _ _ _ (by decide), tb_up_j _ _ _ (by decide), tb_up_j _ _ _ (by decide), tb_up_j _ _ _ (by decide), tb_up_j _ _ _ (by decide), tb_up_s]
    · rw [tb_up_j _ _ _ (by decide), tb_up_j _ _ _ (by decide), tb_up_j _ _ _ (by decide), tb_up_j _ _ _ (by decide), tb_up_s]
    · rw [tb_up_j _ _ _ (by decide), tb_up_j _ _ _ (by decide), tb_up_j _ _ _ (by decide), tb_up_s]
    · rw [tb_up_j _ _ _ (by decide), tb_up_j _ _ _ (by decide), tb_up_s]
    · rw [tb_up_j _ _ _ (by decide), tb_up_s]
    · rw [tb_up_s]
  · rw [tb_cp_k _ _ (by omega), tb_cp_e, if_pos hi]
    rw [tb_up_k _ _ _ (by omega), tb_up_k _ _ _ (by omega), tb_up_k _ _ _ (by omega), tb_up_k _ _ _ (by omega), tb_up_k _ _ _ (by omega), tb_up_k _ _ _ (by omega)]
  · rw [tb_cp_e, if_pos hi, tb_cp_k _ _ (by omega)]
    rw [tb_up_k _ _ _ (by omega), tb_up_k _ _ _ (by omega), tb_up_k _ _ _ (by omega), tb_up_k _ _ _ (by omega), tb_up_k _ _ _ (by omega), tb_up_k _ _ _ (by omega)]
  · rw [tb_cp_k _ _ (by omega), tb_cp_k _ _ (by omega)]
    rw [tb_up_k _ _ _ (by omega), tb_up_k _ _ _ (by omega), tb_up_k _ _ _ (by omega), tb_up_k _ _ _ (by omega), tb_up_k _ _ _ (by omega), tb_up_k _ _ _ (by omega)]
/-- the starts are copied -/
theorem tb_cS (z : tb_M) (h : b + 4 ≤ a ∨ a + 4 ≤ b) : (∀ p, p < 3 → sz_X4_copyFrom z a b a p = z b p) ∧ (∀ c, c < 3 → ∀ i, i < 12 → sz_X4_copyFrom z a b (a + 1 + c) i = z (b + 1 + c) i) ∧ ∀ k, (k < a ∨ a + 4 ≤ k) → sz_X4_copyFrom z a b k = z k := by
  have hba : b ≠ a := by omega
  unfold sz_X4_copyFrom
  simp only [tb_up_k _ _ _ hba]
  refine ⟨fun p hp => ?_, fun c hc i hi => ?_, fun k hk => ?_⟩
  · rw [tb_cp_k _ _ (by omega), tb_cp_k _ _ (by omega), tb_cp_k _ _ (by omega)]
    have : p = 0 ∨ p = 1 ∨ p = 2 := by omega
    rcases this with rfl | rfl | rfl
    · rw [tb_up_j _ _ _ (by decide), tb_up_j _ _ _ (by decide), tb_up_s]
    · rw [tb_up_j _ _ _ (by decide), tb_up_s]
    · rw [tb_up_s]
  · have : c = 0 ∨ c = 1 ∨ c = 2 := by omega
    rcases this with rfl | rfl | rfl
    · rw [tb_cp_k _ _ (by omega), tb_cp_k _ _ (by omega)]
      refine (tb_cp_e _ _ _ _ _).trans ?_
      rw [if_pos hi, tb_up_k _ _ _ (by omega), tb_up_k _ _ _ (by omega), tb_up_k _ _ _ (by omega)]
    · rw [tb_cp_k _ _ (by omega)]
      refine (tb_cp_e _ _ _ _ _).trans ?_
      rw [if_pos hi, tb_cp_k _ _ (by omega), tb_up_k _ _ _ (by omega), tb_up_k _ _ _ (by omega), tb_up_k _ _ _ (by omega)]
    · refine (tb_cp_e _ _ _ _ _).trans ?_
      rw [if_pos hi, tb_cp_k _ _ (by omega), tb_cp_k _ _ (by omega), tb_up_k _ _ _ (by omega), tb_up_k _ _ _ (by omega), tb_up_k _ _ _ (by omega)]
  · rw [tb_cp_k _ _ (by omega), tb_cp_k _ _ (by omega), tb_cp_k _ _ (by omega), tb_up_k _ _ _ (by omega), tb_up_k _ _ _ (by omega), tb_up_k _ _ _ (by omega)]
/-- a device is copied -/
theorem tb_cD1 (z : tb_M) (h : b + 15 ≤ d ∨ d + 15 ≤ b) : (∀ j, j < 3 → sz_X1_copyFrom_m1 z d b (d + 1) j = z (b + 1) j) ∧ (∀ r, r < 2 → (∀ p, p < 6 → sz_X1_copyFrom_m1 z d b (tb_at d r) p = z (tb_at b r) p) ∧ (∀ i, i < 32 → sz_X1_copyFrom_m1 z d b (tb_at d r + 1) i = z (tb_at b r + 1) i) ∧ ∀ i, i < 8 → sz_X1_copyFrom_m1 z d b (tb_at d r + 2) i = z (tb_at b r + 2) i) ∧ (∀ p, p < 3 → sz_X1_copyFrom_m1 z d b (d + 11) p = z (b + 11) p) ∧ (∀ c, c < 3 → ∀ i, i < 12 → sz_X1_copyFrom_m1 z d b (d + 12 + c) i = z (b + 12 + c) i) ∧ ∀ k, (k < d + 1 ∨ d + 15 ≤ k ∨ k = d + 8 ∨ k = d + 9 ∨ k = d + 10) → sz_X1_copyFrom_m1 z d b k = z k := by
  unfold sz_X1_copyFrom_m1
  have k1 : ∀ k, k ≠ d + 1 → tb_cp z (b + 1) (d + 1) 3 k = z k := fun k hk => tb_cp_k _ _ hk
  have v1 : ∀ j, j < 3 → tb_cp z (b + 1) (d + 1) 3 (d + 1) j = z (b + 1) j := fun j hj => by rw [tb_cp_e, if_pos hj]
  generalize tb_cp z (b + 1) (d + 1) 3 = z1 at k1 v1
  obtain ⟨p2, w2, q2, k2⟩ := tb_cA z1 (a := d + 2) (b := b + 2) (by omega)
  generalize sz_X0_copyFrom z1 (d + 2) (b + 2) = z2 at p2 w2 q2 k2
  obtain ⟨p3, w3, q3, k3⟩ := tb_cA z2 (a := d + 5) (b := b + 5) (by omega)
  generalize sz_X0_copyFrom z2 (d + 5) (b + 5) = z3 at p3 w3 q3 k3
  obtain ⟨p4, w4, k4⟩ := tb_cS z3 (a := d + 11) (b := b + 11) (by omega)
  generalize sz_X4_copyFrom z3 (d + 11) (b + 11) = z4 at p4 w4 k4
  refine ⟨fun j hj => ?_, fun r hr => ?_, fun p hp => ?_, fun c hc i hi => ?_, fun k hk => ?_⟩
  · rw [k4 _ (by omega), k3 _ (by omega), k2 _ (by omega), v1 j hj]
  · have hr' : r = 0 ∨ r = 1 := by omega
    rcases hr' with rfl | rfl
    · rw [tb_at_0, tb_at_0]
      refine ⟨fun p hp => ?_, fun i hi => ?_, fun i hi => ?_⟩
      · rw [k4 _ (by omega), k3 _ (by omega), p2 p hp, k1 _ (by omega)]
      · rw [k4 _ (by omega), k3 _ (by omega), w2 i hi, k1 _ (by omega)]
      · rw [k4 _ (by omega), k3 _ (by omega), q2 i hi, k1 _ (by omega)]
    · rw [tb_at_1, tb_at_1]
      refine ⟨fun p hp => ?_, fun i hi => ?_, fun i hi => ?_⟩
      · rw [k4 _ (by omega), p3 p hp, k2 _ (by omega), k1 _ (by omega)]
      · rw [k4 _ (by omega), w3 i hi, k2 _ (by omega), k1 _ (by omega)]
      · rw [k4 _ (by omega), q3 i hi, k2 _ (by omega), k1 _ (by omega)]
  · rw [p4 p hp, k3 _ (by omega), k2 _ (by omega), k1 _ (by omega)]
  · have e1 : d + 12 + c = d + 11 + 1 + c := by omega
    have e2 : b + 12 + c = b + 11 + 1 + c := by omega
    rw [e1, e2, w4 c hc i hi, k3 _ (by omega), k2 _ (by omega), k1 _ (by omega)]
  · rw [k4 _ (by omega), k3 _ (by omega), k2 _ (by omega), k1 _ (by omega)]
theorem tb_cD (z : tb_M) (h : b + 15 ≤ d ∨ d + 15 ≤ b) : tb_O z (sz_X1_copyFrom_m6 z d b) d ∧ (∀ k, k ≠ d → sz_X1_copyFrom_m6 z d b k = sz_X1_copyFrom_m1 z d b k) ∧ ∀ j, 5 ≤ j → j < 10 → sz_X1_copyFrom_m6 z d b d j = z b j := by
  obtain ⟨_, _, _, _, hk⟩ := tb_cD1 z h
  have hb : sz_X1_copyFrom_m1 z d b b = z b := hk b (by omega)
  have hbd : b ≠ d := by omega
  unfold sz_X1_copyFrom_m6 sz_X1_copyFrom_m5 sz_X1_copyFrom_m4 sz_X1_copyFrom_m3 sz_X1_copyFrom_m2
  generalize sz_X1_copyFrom_m1 z d b = w at hk hb
  simp only [tb_up_k _ _ _ hbd, hb]
  have F : ∀ k, k ≠ d → tb_up (tb_up (tb_up (tb_up (tb_up w d 5 (z b 5)) d 6 (z b 6)) d 7 (z b 7)) d 8 (z b 8)) d 9 (z b 9) k = w k := fun k hk => by
    rw [tb_up_k _ _ _ hk, tb_up_k _ _ _ hk, tb_up_k _ _ _ hk, tb_up_k _ _ _ hk, tb_up_k _ _ _ hk]
  refine ⟨fun k hk' => ?_, F, fun j h5 h10 => ?_⟩
  · rw [F k (by omega)]
    exact hk k (by omega)
  · have : j = 5 ∨ j = 6 ∨ j = 7 ∨ j = 8 ∨ j = 9 := by omega
    rcases this with rfl | rfl | rfl | rfl | rfl
    · rw [tb_up_j _ _ _ (by decide), tb_up_j _ _ _ (by decide), tb_up_j _ _ _ (by decide), tb_up_j _ _ _ (by decide), tb_up_s]
    · rw [tb_up_j _ _ _ (by decide), tb_up_j _ _ _ (by decide), tb_up_j _ _ _ (by decide), tb_up_s]
    · rw [tb_up_j _ _ _ (by decide), tb_up_j _ _ _ (by decide), tb_up_s]
    · rw [tb_up_j _ _ _ (by decide), tb_up_s]
    · rw [tb_up_s]
theorem tb_R1.of (hs : ∀ j, j < 3 → s j = z (d + 1) j) (h3 : s 3 = z d 5) (h4 : s 4 = z d 6) (h5 : s 5 = z d 7) (h6 : s 6 = z d 8) (h7 : s 7 = z (d + 11) 0) (h8 : s 8 = z (d + 11) 1) (h9 : s 9 = z d 9) (h10 : s 10 = z (d + 11) 2) (ha : ∀ r, r < 2 → (∀ p, p < 6 → s (11 + 46 * r + p) = z (tb_at d r) p) ∧ (∀ i, i < 32 → s (11 + 46 * r + (14 + i)) = z (tb_at d r + 1) i) ∧ ∀ i, i < 8 → s (11 + 46 * r + (6 + i)) = z (tb_at d r + 2) i) : tb_R1 z d s := by
  intro j hj
  by_cases c : j < 11
  · by_cases c3 : j < 3
    · have h1 : tb_pk j = 1 ∧ tb_pq j = j := by
        unfold tb_pk tb_pq
        exact ⟨if_pos c3, if_pos c3⟩
      rw [h1.1, h1.2, hs j c3]
    · have : j = 3 ∨ j = 4 ∨ j = 5 ∨ j = 6 ∨ j = 7 ∨ j = 8 ∨ j = 9 ∨ j = 10 := by omega
      rcases this with rfl | rfl | rfl | rfl | rfl | rfl | rfl | rfl
      · exact h3
      · exact h4
      · exact h5
      · exact h6
      · exact h7
      · exact h8
      · exact h9
      · exact h10
  · obtain ⟨r, p, hr, hp, rfl⟩ : ∃ r p, r < 2 ∧ p < 46 ∧ j = 11 + 46 * r + p := ⟨(j - 11) / 46, (j - 11) % 46, by omega, by omega, by omega⟩
    obtain ⟨h1, h2, h3⟩ := ha r hr
    by_cases c6 : p < 6
    · rw [← (tb_pa_k (d := d) hr c6).1, ← (tb_pa_k (d := d) hr c6).2]
      exact h1 p c6
    · by_cases c14 : p < 14
      · obtain ⟨i, rfl⟩ : ∃ i, p = 6 + i := ⟨p - 6, by omega⟩
        have hi : i < 8 := by omega
        rw [← (tb_pv_k (d := d) hr hi).1, ← (tb_pv_k (d := d) hr hi).2]
        exact h3 i hi
      · obtain ⟨i, rfl⟩ : ∃ i, p = 14 + i := ⟨p - 14, by omega⟩
        have hi : i < 32 := by omega
        rw [← (tb_pw_k (d := d) hr hi).1, ← (tb_pw_k (d := d) hr hi).2]
        exact h2 i hi
theorem tb_R.copy (h : tb_R z b s N) (hdb : b + 15 ≤ d ∨ d + 15 ≤ b) : tb_R (sz_X1_copyFrom_m6 z d b) d s N := by
  obtain ⟨h1, h2, al, kp, e7, hal, e10, hkp, h3⟩ := h
  obtain ⟨c1, c2, c3, c4, c5⟩ := tb_cD1 z hdb
  obtain ⟨m1, m2, m3⟩ := tb_cD z hdb
  generalize sz_X1_copyFrom_m6 z d b = z6 at m1 m2 m3
  generalize sz_X1_copyFrom_m1 z d b = z1 at c1 c2 c3 c4 c5 m2
  refine ⟨?_, h2, al, kp, e7, hal, e10, hkp, fun b' c hb hc => ?_⟩
  · refine tb_R1.of (fun j hj => ?_) ?_ ?_ ?_ ?_ ?_ ?_ ?_ ?_ (fun r hr => ?_)
    · rw [m2 _ (by omega), c1 j hj, h1.set hj]
    · rw [m3 5 (by decide) (by decide), h1.d3]
    · rw [m3 6 (by decide) (by decide), h1.d4]
    · rw [m3 7 (by decide) (by decide), h1.d5]
    · rw [m3 8 (by decide) (by decide), h1.d6]
    · rw [m2 _ (by omega), c3 0 (by decide), h1.d7]
    · rw [m2 _ (by omega), c3 1 (by decide), h1.d8]
    · rw [m3 9 (by decide) (by decide), h1.d9]
    · rw [m2 _ (by omega), c3 2 (by decide), h1.d10]
    · obtain ⟨x1, x2, x3⟩ := c2 r hr
      have ha := tb_at_in d hr
      refine ⟨fun p hp => ?_, fun i hi => ?_, fun i hi => ?_⟩
      · rw [m2 _ (by omega), x1 p hp, h1.a hr hp]
      · rw [m2 _ (by omega), x2 i hi, h1.ww hr hi]
      · rw [m2 _ (by omega), x3 i hi, h1.vv hr hi]
  · rw [m2 _ (by omega), c4 c hc _ (Nat.mod_lt _ (by decide))]
    exact h3 b' c hb hc
theorem tb_R.cz (h : tb_R z d s N) (hc : ∀ k, d ≤ k → k < d + 15 → z' k = z k) : tb_R z' d s N := by
  obtain ⟨h1, h2, al, kp, e7, hal, e10, hkp, h3⟩ := h
  refine ⟨h1.cz (fun c hc' _ _ _ => hc _ (by omega) (by omega)), h2, al, kp, e7, hal, e10, hkp, fun b' c hb hc' => ?_⟩
  rw [hc _ (by omega) (by omega)]
  exact h3 b' c hb hc'
theorem tb_R.cs (h : tb_R z d s N) (hc : ∀ j, j < 139 → s' j = s j) : tb_R z d s' N := by
  obtain ⟨h1, h2, al, kp, e7, hal, e10, hkp, h3⟩ := h
  refine ⟨h1.cs (fun j hj => hc j (by omega)), ⟨?_, ?_, ?_, ?_, ?_, fun r hr => ?_⟩, al, kp, by rw [hc 7 (by decide), e7], hal, by rw [hc 10 (by decide), e10], hkp, fun b' c hb hc' => ?_⟩
  · rw [hc 0 (by decide)]
    exact h2.1
  · rw [hc 1 (by decide)]
    exact h2.2.1
  · rw [hc 2 (by decide)]
    exact h2.2.2.1
  · rw [hc 3 (by decide)]
    exact h2.2.2.2.1
  · rw [hc 4 (by decide)]
    exact h2.2.2.2.2.1
  · exact (h2.2.2.2.2.2 r hr).cs (fun p hp => hc _ (by omega))
  · rw [hc _ (by omega)]
    exact h3 b' c hb hc'
/-- the reference's moves -/
theorem tb_mv_e (y : tb_M) (hk : k ≠ k2) : ∀ n j, tb_mv y k f k2 t n k2 j = if t ≤ j ∧ j < t + n then y k (f + (j - t)) else y k2 j
  | 0, j => by rw [if_neg (by omega)]; rfl
  | n + 1, j => by
    show tb_up (tb_mv y k f k2 t n) k2 (t + n) ((tb_mv y k f k2 t n) k (f + n)) k2 j = _
    have e1 : tb_mv y k f k2 t n k = y k := tb_mv_k y hk n
    rw [tb_up_e, e1, tb_mv_e y hk n j]
    by_cases h : j = t + n
    · rw [if_pos h, if_pos (by omega)]
      congr 1
      omega
    · rw [if_neg h]
      by_cases h2 : t ≤ j ∧ j < t + n
      · rw [if_pos h2, if_pos (by omega)]
      · rw [if_neg h2, if_neg (by omega)]
theorem tb_sh_e (y : tb_M) : ∀ n j, tb_sh y n 160 j = if j < n then y 160 (j + 139) else y 160 j
  | 0, j => by rw [if_neg (by omega)]; rfl
  | n + 1, j => by
    show tb_up (tb_sh y n) 160 n ((tb_sh y n) 160 (n + 139)) 160 j = _
    rw [tb_up_e, tb_sh_e y n j, tb_sh_e y n (n + 139)]
    by_cases h : j = n
    · rw [if_pos h, if_neg (by omega), if_pos (by omega), h]
    · rw [if_neg h]
      by_cases h2 : j < n
      · rw [if_pos h2, if_pos (by omega)]
      · rw [if_neg h2, if_neg (by omega)]
end TBCOPIED
