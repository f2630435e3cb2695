/-! A START, on both sides -/
def tb_oks (s : Nat → Int32) (r : Nat) : Prop := ∃ l f t, s (11 + 46 * r + 2) = nI l ∧ l ≤ 32 ∧ s (11 + 46 * r + 5) = nI f ∧ f ≤ l ∧ s (11 + 46 * r + 4) = nI t ∧ t ≤ 9 ∧ (s (11 + 46 * r + 0) = nI 1 → t = 0) ∧ ∀ q, q < 8 → ¬ s (11 + 46 * r + (6 + q)) < 0
def tb_ok (s : Nat → Int32) (N : Nat) : Prop := (∃ t, s 0 = nI t ∧ 1 ≤ t ∧ t ≤ 9) ∧ (∃ t, s 1 = nI t ∧ 1 ≤ t ∧ t ≤ 99) ∧ (∃ t, s 2 = nI t ∧ 1 ≤ t ∧ t ≤ 60) ∧ (∃ t, s 3 = nI t ∧ t ≤ 2) ∧ (∃ t, s 4 = nI t ∧ t ≤ N) ∧ ∀ r, r < 2 → tb_oks s r
def tb_R2 (z : tb_M) (d : Nat) (s : Nat → Int32) (al kp : Nat) : Prop := ∀ b c, b < kp → c < 3 → s (103 + 3 * b + c) = z (d + 12 + c) ((al - 1 - b) % 12)
def tb_R (z : tb_M) (d : Nat) (s : Nat → Int32) (N : Nat) : Prop := tb_R1 z d s ∧ tb_ok s N ∧ ∃ al kp, s 7 = nI al ∧ al ≤ N ∧ s 10 = nI kp ∧ kp = min al 12 ∧ tb_R2 z d s al kp
def tb_O (z z' : tb_M) (d : Nat) : Prop := ∀ k, (k < d ∨ d + 15 ≤ k ∨ k = d + 8 ∨ k = d + 9 ∨ k = d + 10) → z' k = z k
def tb_Or (y y' : tb_M) : Prop := ∀ k, k ≠ 158 → y' k = y k
section TBBEGUN
variable {z z' z'' y y' y'' : tb_M} {d r p q j k N n : Nat} {s s' : Nat → Int32} {v v' x : Int32}
theorem tb_O.rf : tb_O z z d := fun _ _ => rfl
theorem tb_O.tr (h : tb_O z z' d) (h' : tb_O z' z'' d) : tb_O z z'' d := fun k hk => (h' k hk).trans (h k hk)
theorem tb_O.up (h : tb_O z z' d) (hk : d ≤ k ∧ k < d + 15 ∧ k ≠ d + 8 ∧ k ≠ d + 9 ∧ k ≠ d + 10) : tb_O z (tb_up z' k q v) d := fun i hi => by
  rw [tb_up_k _ _ _ (by omega)]
  exact h i hi
theorem tb_O.gold (h : tb_O z z' d) (hg : tb_gold z d) : tb_gold z' d := hg.c (h _ (by omega)) (h _ (by omega))
theorem tb_Or.rf : tb_Or y y := fun _ _ => rfl
theorem tb_Or.tr (h : tb_Or y y') (h' : tb_Or y' y'') : tb_Or y y'' := fun k hk => (h' k hk).trans (h k hk)
theorem tb_Or.up (h : tb_Or y y') : tb_Or y (tb_up y' 158 q v) := fun i hi => by
  rw [tb_up_k _ _ _ hi]
  exact h i hi
theorem tb_ok.mono {M : Nat} (h : tb_ok s N) (hN : N ≤ M) : tb_ok s M := by
  obtain ⟨h0, h1, h2, h3, ⟨t, h4, h5⟩, h6⟩ := h
  exact ⟨h0, h1, h2, h3, ⟨t, h4, by omega⟩, h6⟩
theorem tb_R.mono {M : Nat} (h : tb_R z d s N) (hN : N ≤ M) : tb_R z d s M := by
  obtain ⟨h1, h2, al, kp, h3, h4, h5⟩ := h
  exact ⟨h1, h2.mono hN, al, kp, h3, by omega, h5⟩
-- a start: the rows of the past
theorem tb_rm1_e (y : tb_M) : ∀ n, n ≤ 33 → ∀ j, tb_rm1 y n 158 j = if 139 - n ≤ j ∧ j < 139 then y 158 (j - 3) else y 158 j
  | 0, _, j => by rw [if_neg (by omega)]; rfl
  | n + 1, hn, j => by
    have ih := tb_rm1_e y n (by omega)
    show tb_up (tb_rm1 y n) 158 ((33 - n) + 105) ((tb_rm1 y n) 158 ((33 - n) + 105 - 3)) 158 j = _
    by_cases h : j = (33 - n) + 105
    · rw [h, tb_up_s, ih, if_neg (by omega), if_pos (by omega)]
    · rw [tb_up_j _ _ _ h, ih]
      by_cases h2 : 139 - n ≤ j ∧ j < 139
      · rw [if_pos h2, if_pos (by omega)]
      · rw [if_neg h2, if_neg (by omega)]
theorem tb_rm1_k (y : tb_M) (hk : k ≠ 158) : ∀ n, tb_rm1 y n k = y k
  | 0 => rfl
  | n + 1 => by
    show tb_up (tb_rm1 y n) 158 _ _ k = _
    rw [tb_up_k _ _ _ hk, tb_rm1_k y hk n]
theorem tb_rem_or (y : tb_M) (x : Int32) : tb_Or y (sz_X6_remember y x) := fun k hk => by
  unfold sz_X6_remember sz_X6_remember_m2 sz_X6_remember_m1
  rw [tb_up_k _ _ _ hk, tb_up_k _ _ _ hk, tb_up_k _ _ _ hk, tb_up_k _ _ _ hk, tb_rm1_k _ hk]
theorem tb_rem2_lo (y : tb_M) (x : Int32) (hj : j < 103) : sz_X6_remember_m2 y x 158 j = y 158 j := by
  unfold sz_X6_remember_m2 sz_X6_remember_m1
  rw [tb_up_j _ _ _ (by omega), tb_up_j _ _ _ (by omega), tb_up_j _ _ _ (by omega), tb_rm1_e _ _ (by decide), if_neg (by omega)]
theorem tb_rem_10 (y : tb_M) (x : Int32) : sz_X6_remember y x 158 10 = y 158 10 + tb_b (¬ nI 12 ≤ y 158 10) := by
  unfold sz_X6_remember
  rw [tb_up_s, tb_rem2_lo _ _ (by decide)]
theorem tb_rem_lo (y : tb_M) (x : Int32) (hj : j < 103) (h10 : j ≠ 10) : sz_X6_remember y x 158 j = y 158 j := by
  unfold sz_X6_remember
  rw [tb_up_j _ _ _ h10, tb_rem2_lo _ _ hj]
theorem tb_rem_103 (y : tb_M) (x : Int32) : sz_X6_remember y x 158 103 = y 158 3 := by
  unfold sz_X6_remember sz_X6_remember_m2 sz_X6_remember_m1
  rw [tb_up_j _ _ _ (by decide), tb_up_j _ _ _ (by decide), tb_up_j _ _ _ (by decide), tb_up_s, tb_rm1_e _ _ (by decide), if_neg (by decide)]
theorem tb_rem_104 (y : tb_M) (x : Int32) : sz_X6_remember y x 158 104 = x := by
  unfold sz_X6_remember sz_X6_remember_m2
  rw [tb_up_j _ _ _ (by decide), tb_up_j _ _ _ (by decide), tb_up_s]
theorem tb_rem_105 (y : tb_M) (x : Int32) : sz_X6_remember y x 158 105 = y 158 9 := by
  unfold sz_X6_remember sz_X6_remember_m2 sz_X6_remember_m1
  rw [tb_up_j _ _ _ (by decide), tb_up_s, tb_up_j _ _ _ (by decide), tb_up_j _ _ _ (by decide), tb_rm1_e _ _ (by decide), if_neg (by decide)]
theorem tb_rem_hi (y : tb_M) (x : Int32) (h1 : 106 ≤ j) (h2 : j < 139) : sz_X6_remember y x 158 j = y 158 (j - 3) := by
  unfold sz_X6_remember sz_X6_remember_m2 sz_X6_remember_m1
  rw [tb_up_j _ _ _ (by omega), tb_up_j _ _ _ (by omega), tb_up_j _ _ _ (by omega), tb_up_j _ _ _ (by omega), tb_rm1_e _ _ (by decide), if_pos (by omega)]
-- the slots stay well
theorem tb_oks.cs (h : tb_oks s r) (hc : ∀ p, p < 14 → s' (11 + 46 * r + p) = s (11 + 46 * r + p)) : tb_oks s' r := by
  obtain ⟨l, f, t, h1, h2, h3, h4, h5, h6, h7, h8⟩ := h
  refine ⟨l, f, t, by rw [hc 2 (by decide), h1], h2, by rw [hc 5 (by decide), h3], h4, by rw [hc 4 (by decide), h5], h6, fun e => h7 (by rw [← hc 0 (by decide), e]), fun q hq => ?_⟩
  rw [hc (6 + q) (by omega)]
  exact h8 q hq
theorem tb_oks.st (h : tb_oks s r) (hs : s' (11 + 46 * r + 0) = v) (ho : ∀ p, p < 14 → p ≠ 0 → s' (11 + 46 * r + p) = s (11 + 46 * r + p)) (hv : v = nI 1 → s (11 + 46 * r + 0) = nI 1) : tb_oks s' r := by
  obtain ⟨l, f, t, h1, h2, h3, h4, h5, h6, h7, h8⟩ := h
  refine ⟨l, f, t, by rw [ho 2 (by decide) (by decide), h1], h2, by rw [ho 5 (by decide) (by decide), h3], h4, by rw [ho 4 (by decide) (by decide), h5], h6, fun e => h7 (hv (by rw [← hs, e])), fun q hq => ?_⟩
  rw [ho (6 + q) (by omega) (by omega)]
  exact h8 q hq
theorem tb_oks.upst (h : ∀ r, r < 2 → tb_oks (y 158) r) (hq : q < 2) (hv : v = nI 1 → y 158 (11 + 46 * q + 0) = nI 1) : ∀ r, r < 2 → tb_oks (tb_up y 158 (11 + 46 * q + 0) v 158) r := by
  intro r hr
  by_cases e : r = q
  · subst e
    exact (h r hr).st (tb_up_s _ _ _ _) (fun p hp h0 => tb_up_j _ _ _ (by omega)) hv
  · exact (h r hr).cs (fun p hp => tb_up_j _ _ _ (by omega))
theorem tb_F_1 {x st tr : Int32} (h : tb_F x st tr = nI 1) : st = nI 1 := by
  unfold tb_F at h
  by_cases h1 : st = nI 1
  · exact h1
  · rw [if_neg h1] at h
    by_cases h2 : st = nI 2
    · rw [if_pos h2] at h
      by_cases h4 : tr = 0
      · rw [if_pos h4] at h
        exact absurd h (by decide)
      · rw [if_neg h4] at h
        exact h
    · rw [if_neg h2] at h
      exact h
theorem tb_F_2 {x st tr : Int32} (h : tb_F x st tr = nI 2) : ¬ tr = 0 := by
  unfold tb_F at h
  by_cases h1 : st = nI 1
  · rw [if_pos h1, h1] at h
    by_cases hx : x = nI 2
    · rw [if_pos hx] at h
      exact absurd h (by decide)
    · rw [if_neg hx] at h
      exact absurd h (by decide)
  · rw [if_neg h1] at h
    by_cases h2 : st = nI 2
    · rw [if_pos h2, h2] at h
      by_cases h4 : tr = 0
      · rw [if_pos h4] at h
        exact absurd h (by decide)
      · exact h4
    · rw [if_neg h2] at h
      exact absurd h h2
theorem tb_M4_oks (h : ∀ r, r < 2 → tb_oks (y 158) r) : ∀ r, r < 2 → tb_oks (sz_X6_starts_m4 y x 158) r := by
  rw [tb_M4_n]
  refine tb_oks.upst (q := 1) (tb_oks.upst (q := 0) h (by decide) (fun e => tb_F_1 e)) (by decide) (fun e => ?_)
  rw [tb_up_j _ _ _ (by decide)]
  exact tb_F_1 e
theorem tb_M4_Q (hg : tb_gold z d) (h : tb_R1 z d (y 158)) (hs : ∀ r, r < 2 → tb_oks (y 158) r) : tb_Q (sz_X1_startBy_m2 z d x) d (sz_X6_starts_m4 y x) := by
  have hm := tb_m2_R1 (x := x) h
  have ho := tb_M4_oks (x := x) hs
  refine ⟨hm, ?_, fun r hr e => ?_, fun r hr => ?_⟩
  · rw [tb_m2_n]
    exact hg.c (by rw [tb_up_k _ _ _ (by omega), tb_up_k _ _ _ (by omega)]) (by rw [tb_up_k _ _ _ (by omega), tb_up_k _ _ _ (by omega)])
  · obtain ⟨l, f, t, h1, h2, h3, h4, h5, h6, h7⟩ := hs r hr
    have hst : tb_F x (y 158 (11 + 46 * r + 0)) (y 158 (11 + 46 * r + 4)) = nI 2 := by
      rw [← hm.a hr (by decide), tb_M4_n] at e
      have hr' : r = 0 ∨ r = 1 := by omega
      rcases hr' with rfl | rfl
      · rw [tb_up_j _ _ _ (by decide), tb_up_s] at e
        exact e
      · rw [tb_up_s] at e
        exact e
    have hne := tb_F_2 hst
    have hval : sz_X6_starts_m4 y x 158 (11 + 46 * r + 4) = nI t := by
      rw [tb_M4_n, tb_up_j _ _ _ (by omega), tb_up_j _ _ _ (by omega), h5]
    rw [← hm.a hr (by decide), hval]
    refine nI_nle ?_ (by omega)
    rcases Nat.eq_zero_or_pos t with e0 | e0
    · rw [h5, e0] at hne
      exact absurd rfl hne
    · exact e0
  · obtain ⟨l, f, t, h1, h2, _⟩ := ho r hr
    exact ⟨l, by rw [← hm.a hr (by decide), h1], h2⟩
theorem tb_cm_oks (h : ∀ r, r < 2 → tb_oks (y 158) r) : ∀ r, r < 2 → tb_oks (tb_cm y 158) r :=
  tb_cm_ind (P := fun y => ∀ r, r < 2 → tb_oks (y 158) r) (fun _ _ hr hp => tb_oks.upst hp hr (fun e => absurd e (by decide))) h
theorem tb_cm_or (y : tb_M) : tb_Or y (tb_cm y) := tb_cm_ind (P := fun u => tb_Or y u) (fun _ _ _ hp => hp.up) tb_Or.rf
theorem tb_cm_j (y : tb_M) (h0 : j ≠ 11) (h1 : j ≠ 57) : tb_cm y 158 j = y 158 j :=
  tb_cm_ind (P := fun u => u 158 j = y 158 j) (fun u r hr hp => by
    show tb_up u 158 _ _ 158 j = _
    rw [tb_up_j _ _ _ (by omega)]
    exact hp) rfl
end TBBEGUN
