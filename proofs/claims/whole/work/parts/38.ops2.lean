/-! THE OPERATIONS, on both sides: slots are emptied, finished, repaired -/
section TBOPSB
variable {z z' z'' y y' y'' : tb_M} {a b d r p q j k N M n sl : Nat} {s s' : Nat → Int32} {v v' x w : Int32}
theorem tb_ew_e (z : tb_M) (a : Nat) : ∀ n k b, tb_ew z a n k b = if k = a + 2 ∧ b < n then z k b + nI 1 else z k b
  | 0, k, b => by rw [if_neg (by omega)]; rfl
  | n + 1, k, b => by
    show tb_up (tb_ew z a n) (a + 2) n ((tb_ew z a n) (a + 2) n + nI 1) k b = _
    by_cases hk : k = a + 2
    · subst hk
      rw [tb_up_e, tb_ew_e z a n (a + 2) b, tb_ew_e z a n (a + 2) n]
      by_cases h : b = n
      · rw [if_pos h, if_neg (by omega), if_pos (by omega), h]
      · rw [if_neg h]
        by_cases h2 : b < n
        · rw [if_pos ⟨rfl, h2⟩, if_pos (by omega)]
        · rw [if_neg (by omega), if_neg (by omega)]
    · rw [tb_up_k _ _ _ hk, tb_ew_e z a n k b, if_neg (by omega), if_neg (by omega)]
theorem tb_ec_e (z : tb_M) (a : Nat) : ∀ n k b, tb_ec z a n k b = if k = a + 1 ∧ b < n then nI 255 else z k b
  | 0, k, b => by rw [if_neg (by omega)]; rfl
  | n + 1, k, b => by
    show tb_up (tb_ec z a n) (a + 1) n (nI 255) k b = _
    by_cases hk : k = a + 1
    · subst hk
      rw [tb_up_e, tb_ec_e z a n (a + 1) b]
      by_cases h : b = n
      · rw [if_pos h, if_pos (by omega)]
      · rw [if_neg h]
        by_cases h2 : b < n
        · rw [if_pos ⟨rfl, h2⟩, if_pos (by omega)]
        · rw [if_neg (by omega), if_neg (by omega)]
    · rw [tb_up_k _ _ _ hk, tb_ec_e z a n k b, if_neg (by omega), if_neg (by omega)]
theorem tb_ep1_e (y : tb_M) (r q j : Nat) : sz_X6_emptyPage y r q 158 j = if j = 11 + 46 * r + (6 + q) then (if 14 + 4 * q ≤ 6 + q ∧ 6 + q < 14 + 4 * q + 4 then nI 255 else y 158 j) + nI 1 else if 11 + 46 * r + (14 + 4 * q) ≤ j ∧ j < 11 + 46 * r + (14 + 4 * q) + 4 then nI 255 else y 158 j := by
  unfold sz_X6_emptyPage sz_X6_emptyPage_m1
  rw [tb_up_e, tb_up_e, tb_up_e, tb_up_e, tb_up_e]
  by_cases h : j = 11 + 46 * r + (6 + q)
  · rw [if_pos h, if_pos h, if_neg (by omega), if_neg (by omega), if_neg (by omega), if_neg (by omega), if_neg (by omega), h]
  · rw [if_neg h, if_neg h, tb_up_e, tb_up_e, tb_up_e, tb_up_e]
    by_cases c : 11 + 46 * r + (14 + 4 * q) ≤ j ∧ j < 11 + 46 * r + (14 + 4 * q) + 4
    · rw [if_pos c]
      have : j = 11 + 46 * r + ((14 + 4 * q) + 3) ∨ j = 11 + 46 * r + ((14 + 4 * q) + 2) ∨ j = 11 + 46 * r + ((14 + 4 * q) + 1) ∨ j = 11 + 46 * r + ((14 + 4 * q) + 0) := by omega
      rcases this with e | e | e | e
      · rw [if_pos e]
      · rw [if_neg (by omega), if_pos e]
      · rw [if_neg (by omega), if_neg (by omega), if_pos e]
      · rw [if_neg (by omega), if_neg (by omega), if_neg (by omega), if_pos e]
    · rw [if_neg c, if_neg (by omega), if_neg (by omega), if_neg (by omega), if_neg (by omega)]
theorem tb_ep_e (y : tb_M) (r : Nat) : ∀ n, n ≤ 8 → ∀ j, tb_ep y r n 158 j = if 11 + 46 * r + 6 ≤ j ∧ j < 11 + 46 * r + 6 + n then y 158 j + nI 1 else if 11 + 46 * r + 14 ≤ j ∧ j < 11 + 46 * r + 14 + 4 * n then nI 255 else y 158 j
  | 0, _, j => by rw [if_neg (by omega), if_neg (by omega)]; rfl
  | n + 1, hn, j => by
    show sz_X6_emptyPage (tb_ep y r n) r n 158 j = _
    rw [tb_ep1_e, tb_ep_e y r n (by omega) j]
    by_cases h : j = 11 + 46 * r + (6 + n)
    · rw [if_pos h, if_neg (by omega), if_neg (by omega), if_neg (by omega), if_pos (by omega)]
    · rw [if_neg h]
      by_cases c : 11 + 46 * r + 6 ≤ j ∧ j < 11 + 46 * r + 6 + n
      · rw [if_neg (by omega), if_pos c, if_pos (by omega)]
      · rw [if_neg c]
        by_cases c2 : 11 + 46 * r + (14 + 4 * n) ≤ j ∧ j < 11 + 46 * r + (14 + 4 * n) + 4
        · rw [if_pos c2, if_neg (by omega), if_pos (by omega)]
        · rw [if_neg c2]
          by_cases c3 : 11 + 46 * r + 14 ≤ j ∧ j < 11 + 46 * r + 14 + 4 * n
          · rw [if_pos c3, if_neg (by omega), if_pos (by omega)]
          · rw [if_neg c3, if_neg (by omega), if_neg (by omega)]
theorem tb_ep1_or (y : tb_M) (r q : Nat) : tb_Or y (sz_X6_emptyPage y r q) := by
  unfold sz_X6_emptyPage sz_X6_emptyPage_m1
  exact tb_Or.rf.up.up.up.up.up
theorem tb_ep_or (y : tb_M) (r : Nat) : ∀ n, tb_Or y (tb_ep y r n)
  | 0 => tb_Or.rf
  | n + 1 => (tb_ep_or y r n).tr (tb_ep1_or _ r n)
/-- pages of a slot are emptied on both sides -/
theorem tb_emptied (h : tb_R1 z d (y 158)) (hr : r < 2) (hn : n ≤ 8) : tb_R1 (tb_ec (tb_ew z (tb_at d r) n) (tb_at d r) (n * 4)) d (tb_ep y r n 158) := by
  have e : ∀ k b, tb_ec (tb_ew z (tb_at d r) n) (tb_at d r) (n * 4) k b = if k = tb_at d r + 1 ∧ b < n * 4 then nI 255 else if k = tb_at d r + 2 ∧ b < n then z k b + nI 1 else z k b := fun k b => by
    rw [tb_ec_e, tb_ew_e]
  have ha := tb_at_in d hr
  have lo : ∀ j, (j < 11 + 46 * r + 6 ∨ 57 + 46 * r ≤ j) → tb_ep y r n 158 j = y 158 j := fun j hj => by
    rw [tb_ep_e y r n hn, if_neg (by omega), if_neg (by omega)]
  have hi : ∀ k, k ≠ tb_at d r + 1 → k ≠ tb_at d r + 2 → ∀ b, tb_ec (tb_ew z (tb_at d r) n) (tb_at d r) (n * 4) k b = z k b := fun k h1 h2 b => by
    rw [e, if_neg (by omega), if_neg (by omega)]
  generalize tb_ec (tb_ew z (tb_at d r) n) (tb_at d r) (n * 4) = z1 at e hi
  refine tb_R1.of (fun j hj => ?_) ?_ ?_ ?_ ?_ ?_ ?_ ?_ ?_ (fun r' hr' => ?_)
  · rw [lo _ (by omega), hi _ (by omega) (by omega), h.set hj]
  · rw [lo _ (by omega), hi _ (by omega) (by omega), h.d3]
  · rw [lo _ (by omega), hi _ (by omega) (by omega), h.d4]
  · rw [lo _ (by omega), hi _ (by omega) (by omega), h.d5]
  · rw [lo _ (by omega), hi _ (by omega) (by omega), h.d6]
  · rw [lo _ (by omega), hi _ (by omega) (by omega), h.d7]
  · rw [lo _ (by omega), hi _ (by omega) (by omega), h.d8]
  · rw [lo _ (by omega), hi _ (by omega) (by omega), h.d9]
  · rw [lo _ (by omega), hi _ (by omega) (by omega), h.d10]
  · by_cases er : r' = r
    · subst er
      refine ⟨fun p hp => ?_, fun i hi' => ?_, fun i hi' => ?_⟩
      · rw [lo _ (by omega), hi _ (by omega) (by omega), h.a hr hp]
      · rw [tb_ep_e y r' n hn, if_neg (by omega), e, h.ww hr hi']
        by_cases c : i < n * 4
        · rw [if_pos (by omega), if_pos ⟨rfl, c⟩]
        · rw [if_neg (by omega), if_neg (by omega), if_neg (by omega)]
      · rw [tb_ep_e y r' n hn, e, h.vv hr hi', if_neg (show ¬ (tb_at d r' + 2 = tb_at d r' + 1 ∧ i < n * 4) by omega)]
        by_cases c : i < n
        · rw [if_pos (by omega), if_pos ⟨rfl, c⟩]
        · rw [if_neg (by omega), if_neg (by omega), if_neg (by omega)]
    · have ha' := tb_at_in d hr'
      have hne := tb_at_n2 d hr' hr er
      have hlo : ∀ p, p < 46 → tb_ep y r n 158 (11 + 46 * r' + p) = y 158 (11 + 46 * r' + p) := fun p hp => lo _ (by omega)
      refine ⟨fun p hp => ?_, fun i hi' => ?_, fun i hi' => ?_⟩
      · rw [hlo _ (by omega), hi _ (by omega) (by omega), h.a hr' hp]
      · rw [hlo _ (by omega), hi _ (by omega) (by omega), h.ww hr' hi']
      · rw [hlo _ (by omega), hi _ (by omega) (by omega), h.vv hr' hi']
-- the greatest wear
theorem tb_gx_gw {f g : Nat → Int32} : ∀ {n : Nat}, (∀ i, i < n → f i = g i) → tb_gx f n = tb_gw g n
  | 0, _ => rfl
  | n + 1, h => by
    have ih : tb_gx f n = tb_gw g n := tb_gx_gw (fun i hi => h i (by omega))
    show (if f n ≤ tb_gx f n then tb_gx f n else f n) = (if tb_gw g n < g n then g n else tb_gw g n)
    rw [ih, h n (by omega), tb_max_c]
theorem tb_gw_pos (f : Nat → Int32) : ∀ n, ¬ tb_gw f n < 0
  | 0 => (by decide : ¬ nI 0 < 0)
  | n + 1 => by
    show ¬ (if tb_gw f n < f n then f n else tb_gw f n) < 0
    have ih := tb_gw_pos f n
    by_cases c : tb_gw f n < f n
    · rw [if_pos c]
      rw [Int32.lt_iff_toInt_lt] at ih c ⊢
      omega
    · rw [if_neg c]
      exact ih
theorem tb_gw_lt {f : Nat → Int32} {e : Int32} (he : 0 < e) : ∀ {n : Nat}, tb_gw f n < e ↔ ∀ i, i < n → f i < e
  | 0 => ⟨fun _ i hi => absurd hi (Nat.not_lt_zero i), fun _ => he⟩
  | n + 1 => by
    have ih := tb_gw_lt (f := f) he (n := n)
    show (if tb_gw f n < f n then f n else tb_gw f n) < e ↔ _
    by_cases c : tb_gw f n < f n
    · rw [if_pos c]
      refine ⟨fun h i hi => ?_, fun h => h n (by omega)⟩
      by_cases ei : i = n
      · rw [ei]
        exact h
      · have : tb_gw f n < e := by
          rw [Int32.lt_iff_toInt_lt] at c h ⊢
          omega
        exact ih.mp this i (by omega)
    · rw [if_neg c]
      refine ⟨fun h i hi => ?_, fun h => ih.mpr (fun i hi => h i (by omega))⟩
      by_cases ei : i = n
      · rw [ei]
        rw [Int32.lt_iff_toInt_lt] at c h ⊢
        omega
      · exact ih.mp h i (by omega)
theorem tb_sub_pos {t : Nat} {g : Int32} (ht : t < 2 ^ 31) (hg : ¬ g < 0) : (nI t - g).toInt = t - g.toInt := by
  obtain ⟨m, hm, rfl⟩ := nI_of hg
  rw [Int32.toInt_sub, nI_toInt ht, nI_toInt hm]
  apply Int.bmod_eq_of_le
  · omega
  · omega
theorem tb_left_c {t : Nat} {g : Int32} (ht : t < 2 ^ 31) (h0 : 1 ≤ t) (hg : ¬ g < 0) : ((if nI 0 < nI t - g then nI t - g else nI 0) = 0 ↔ ¬ g < nI t) ∧ (if 0 ≤ nI t - g then nI t - g else nI 0) = (if nI 0 < nI t - g then nI t - g else nI 0) := by
  have e := tb_sub_pos ht hg
  have z0 : (nI 0).toInt = 0 := rfl
  have z1 : (0 : Int32).toInt = 0 := rfl
  constructor
  · by_cases c : nI 0 < nI t - g
    · rw [if_pos c]
      rw [Int32.lt_iff_toInt_lt, e, z0] at c
      have hne : ¬ nI t - g = 0 := by
        intro c2
        rw [c2, z1] at e
        omega
      refine ⟨fun c2 => absurd c2 hne, fun c2 => ?_⟩
      exfalso
      apply c2
      rw [Int32.lt_iff_toInt_lt, nI_toInt ht]
      omega
    · rw [if_neg c]
      rw [Int32.lt_iff_toInt_lt, e, z0] at c
      refine ⟨fun _ c2 => ?_, fun _ => rfl⟩
      rw [Int32.lt_iff_toInt_lt, nI_toInt ht] at c2
      omega
  · by_cases c : nI 0 < nI t - g
    · rw [if_pos c, if_pos]
      rw [Int32.lt_iff_toInt_lt, e, z0] at c
      rw [Int32.le_iff_toInt_le, e, z1]
      omega
    · rw [if_neg c]
      by_cases c2 : 0 ≤ nI t - g
      · rw [if_pos c2]
        rw [Int32.lt_iff_toInt_lt, e, z0] at c
        rw [Int32.le_iff_toInt_le, e, z1] at c2
        apply Int32.toInt_inj.mp
        rw [e, z0]
        omega
      · rw [if_neg c2]
theorem tb_aw_e (y : tb_M) (sl : Nat) : ∀ n, tb_aw y sl n = true ↔ ¬ ∀ i, i < n → y 158 (11 + 46 * sl + (6 + i)) < y 158 2
  | 0 => ⟨fun h => absurd (show false = true from h) (by decide), fun h => absurd (fun i hi => absurd hi (Nat.not_lt_zero i)) h⟩
  | n + 1 => by
    have ih := tb_aw_e y sl n
    show (tb_aw y sl n || decide (¬ (y 158 (11 + 46 * sl + (6 + n)) < y 158 2))) = true ↔ _
    rw [Bool.or_eq_true, decide_eq_true_iff, ih]
    constructor
    · intro h c
      rcases h with h | h
      · exact h (fun i hi => c i (by omega))
      · exact h (c n (by omega))
    · intro h
      by_cases c : ∀ i, i < n → y 158 (11 + 46 * sl + (6 + i)) < y 158 2
      · right
        intro c2
        apply h
        intro i hi
        by_cases ei : i = n
        · rw [ei]
          exact c2
        · exact c i (by omega)
      · exact Or.inl c
/-- how often pages can be emptied, on both sides -/
theorem tb_lefts (h : tb_R z d (y 158) N) (hr : r < 2) (hn : n ≤ 8) : (sr_X1_beginsLeft z d r n = 0 ↔ tb_aw y r n = true) ∧ sr_X1_beginsLeft z d r n = (if 0 ≤ (y 158 2) - (tb_gx (fun i => y 158 ((11 + (46 * r)) + (6 + i))) n) then (y 158 2) - (tb_gx (fun i => y 158 ((11 + (46 * r)) + (6 + i))) n) else nI 0) := by
  obtain ⟨t, h2, ht1, ht60⟩ := h.2.1.2.2.1
  have e := h.1.set (q := 2) (by decide)
  have eg : tb_gx (fun i => y 158 ((11 + (46 * r)) + (6 + i))) n = tb_gw (z (tb_at d r + 2)) n := tb_gx_gw (fun i hi => h.1.vv hr (by omega))
  have L := tb_left_c (t := t) (g := tb_gw (z (tb_at d r + 2)) n) (by omega) ht1 (tb_gw_pos _ _)
  unfold sr_X1_beginsLeft
  rw [eg, ← e, h2, L.1, L.2, tb_aw_e]
  refine ⟨?_, rfl⟩
  rw [tb_gw_lt (show (0 : Int32) < nI t from nI_lt (a := 0) (by omega) (by omega)), h2]
  constructor
  · intro c c2
    exact c (fun i hi => by rw [← h.1.vv hr (by omega)]; exact c2 i hi)
  · intro c c2
    exact c (fun i hi => by rw [h.1.vv hr (by omega)]; exact c2 i hi)
theorem o_lasts (h : tb_J z y N) (hsl : sl < 2) (hn : 2 ≤ n ∧ n ≤ 32) : sr_X1_beginsLeft z 0 sl ((n + 4 - 1) / 4) = sr_X6_lasts y sl n := by
  have hp : (n + 4 - 1) / 4 ≤ 8 := by omega
  unfold sr_X6_lasts
  exact (tb_lefts h.2.1 hsl hp).2
theorem tb_expect_O {sl : Nat} (hsl : sl < 2) (h : tb_O z z' 0) : tb_O z (sz_X0_expectImage z' (tb_at 0 sl) v x w) 0 := by
  have ha := tb_at_l0 hsl
  unfold sz_X0_expectImage
  exact (((((h.up (by omega)).up (by omega)).up (by omega)).up (by omega)).up (by omega)).up (by omega)
theorem tb_emptied_O {sl m : Nat} (hsl : sl < 2) : tb_O z (tb_ec (tb_ew z (tb_at 0 sl) n) (tb_at 0 sl) m) 0 := fun k hk => by
  have ha := tb_at_l0 hsl
  funext b
  rw [tb_ec_e, tb_ew_e, if_neg (by omega), if_neg (by omega)]
theorem tb_wear_1 {a e : Int32} (ha : ¬ a < 0) (h : a < e) (he : ∃ t, e = nI t ∧ 1 ≤ t ∧ t ≤ 60) : ¬ a + nI 1 < 0 := by
  obtain ⟨m, hm, rfl⟩ := nI_of ha
  obtain ⟨t, rfl, h1, h2⟩ := he
  rw [nI_add]
  rw [Int32.lt_iff_toInt_lt, nI_toInt hm, nI_toInt (by omega)] at h
  exact nI_nlt (b := 0) (Nat.zero_le _) (by omega)
theorem o_begin {rn : Nat} {t : Int32} (h : tb_J z y N) (hN : N + 1 < 2 ^ 29) (hsl : sl < 2) (hn : 2 ≤ n ∧ n ≤ 32) : sr_X5_begin z sl v n t rn = sr_X6_begin y sl v n t rn ∧ tb_J (sz_X5_begin z sl v n t rn) (sz_X6_begin y sl v n t rn) (N + 1) ∧ tb_fC z (sz_X5_begin z sl v n t rn) ∧ tb_fM y (sz_X6_begin y sl v n t rn) := by
  have hJ := h.rec (by omega)
  have hid : ∀ v : Int32, v = v ∧ tb_J z y (N + 1) ∧ tb_fC z z ∧ tb_fM y y := fun v => ⟨rfl, h.mono (by omega), tb_fC.rf, tb_fM.rf⟩
  have hp : (n + 4 - 1) / 4 ≤ 8 := by omega
  have hL := (tb_lefts h.2.1 hsl hp).1
  have h6 := h.2.1.1.d6
  unfold sr_X5_begin sr_X6_begin sz_X5_begin sz_X6_begin sz_X5_begin_m3 sz_X5_begin_m2 sz_X5_begin_m1 sz_X6_begin_m1
  rw [h6]
  by_cases c : (¬ (v < (nI (0))) ∧ (¬ ((nI (99)) < v)))
  · rw [if_pos c, if_pos c, if_pos c, if_pos c]
    by_cases c2 : (¬ (t < (nI (0))) ∧ (¬ ((nI (250)) < t)))
    · rw [if_pos c2, if_pos c2, if_pos c2, if_pos c2]
      by_cases c3 : rn = sl
      · rw [if_pos c3, if_pos c3, if_pos c3, if_pos c3]
        exact hid _
      · rw [if_neg c3, if_neg c3, if_neg c3, if_neg c3]
        by_cases c4 : v < z 0 8
        · rw [if_pos c4, if_pos c4, if_pos c4, if_pos c4]
          exact hid _
        · rw [if_neg c4, if_neg c4, if_neg c4, if_neg c4]
          by_cases c5 : tb_aw y sl ((n + 4 - 1) / 4) = true
          · rw [if_pos c5, if_pos c5, if_pos (hL.mpr c5), if_pos (hL.mpr c5)]
            exact hid _
          · rw [if_neg c5, if_neg c5, if_neg (fun e => c5 (hL.mp e)), if_neg (fun e => c5 (hL.mp e))]
            have hwe : ∀ q, q < 8 → ¬ tb_ep (tb_recM y) sl ((n + 4 - 1) / 4) 158 (11 + 46 * sl + (6 + q)) < 0 := fun q hq => by
              rw [tb_ep_e _ sl _ hp, tb_rec_M]
              obtain ⟨l, f, t', g1, g2, g3, g4, g5, g6, g7, g8⟩ := h.2.1.2.1.2.2.2.2.2 sl hsl
              by_cases cq : q < (n + 4 - 1) / 4
              · rw [if_pos (by omega)]
                have hlt : y 158 (11 + 46 * sl + (6 + q)) < y 158 2 := by
                  rcases Decidable.em (y 158 (11 + 46 * sl + (6 + q)) < y 158 2) with e | e
                  · exact e
                  · exact absurd ((tb_aw_e y sl _).mpr (fun a => e (a q cq))) c5
                exact tb_wear_1 (g8 q hq) hlt h.2.1.2.1.2.2.1
              · rw [if_neg (by omega), if_neg (by omega)]
                exact g8 q hq
            generalize (n + 4 - 1) / 4 = pg at hp hwe
            have fC := tb_rec_fC z (tb_rc z)
            have fM := tb_rec_fM y
            have ha := tb_at_l0 hsl
            generalize sz_X2_record z 0 (tb_rc z) = z1 at hJ fC
            generalize tb_recM y = y1 at hJ fM hwe
            have hs := hJ.2.1.2.1.2.2.2.2.2 sl hsl
            have W := tb_emptied (n := pg) hJ.2.1.1 hsl hp
            have hO : tb_O z1 (tb_ec (tb_ew z1 (tb_at 0 sl) pg) (tb_at 0 sl) (pg * 4)) 0 := tb_emptied_O hsl
            have hOr := tb_ep_or y1 sl pg
            have lo : ∀ j, (j < 11 + 46 * sl + 6 ∨ 57 + 46 * sl ≤ j) → tb_ep y1 sl pg 158 j = y1 158 j := fun j hj => by
              rw [tb_ep_e y1 sl pg hp, if_neg (by omega), if_neg (by omega)]
            have hk : ∀ k, 11 ≤ k → k < 15 → tb_ec (tb_ew z1 (tb_at 0 sl) pg) (tb_at 0 sl) (pg * 4) k = z1 k := fun k h1 h2 => by
              funext b
              rw [tb_ec_e, tb_ew_e, if_neg (by omega), if_neg (by omega)]
            generalize tb_ec (tb_ew z1 (tb_at 0 sl) pg) (tb_at 0 sl) (pg * 4) = z2 at W hO hk
            generalize tb_ep y1 sl pg = y2 at W hOr lo hwe
            have R : tb_R1 (sz_X0_expectImage z2 (tb_at 0 sl) v (nI n) t) 0 (tb_up (tb_up (tb_up (tb_up (tb_up (tb_up y2 158 ((11 + (46 * sl)) + 0) (nI (1))) 158 ((11 + (46 * sl)) + 1) v) 158 ((11 + (46 * sl)) + 2) (nI (n))) 158 ((11 + (46 * sl)) + 3) t) 158 ((11 + (46 * sl)) + 4) (nI (0))) 158 ((11 + (46 * sl)) + 5) (nI (0)) 158) := by
              unfold sz_X0_expectImage
              exact (((((W.ua hsl (by decide) rfl).ua hsl (by decide) rfl).ua hsl (by decide) rfl).ua hsl (by decide) rfl).ua hsl (by decide) rfl).ua hsl (by decide) rfl
            have hO2 : tb_O z1 (sz_X0_expectImage z2 (tb_at 0 sl) v (nI n) t) 0 := tb_expect_O hsl hO
            have hOr2 : tb_Or y1 (tb_up (tb_up (tb_up (tb_up (tb_up (tb_up y2 158 ((11 + (46 * sl)) + 0) (nI (1))) 158 ((11 + (46 * sl)) + 1) v) 158 ((11 + (46 * sl)) + 2) (nI (n))) 158 ((11 + (46 * sl)) + 3) t) 158 ((11 + (46 * sl)) + 4) (nI (0))) 158 ((11 + (46 * sl)) + 5) (nI (0))) := hOr.up.up.up.up.up.up
            refine ⟨(tb_gx_gw (fun i hi => R.vv hsl (by omega))).symm, hJ.slot hsl hO2 hOr2 R (fun j hj => ?_) (fun k h1 h2 => ?_) ?_, fC.tr (hO2.fC tb_D0), fM.tr hOr2.fM⟩
            · rw [tb_up_j _ _ _ (by omega), tb_up_j _ _ _ (by omega), tb_up_j _ _ _ (by omega), tb_up_j _ _ _ (by omega), tb_up_j _ _ _ (by omega), tb_up_j _ _ _ (by omega), lo j (by omega)]
            · unfold sz_X0_expectImage
              rw [tb_up_k _ _ _ (by omega), tb_up_k _ _ _ (by omega), tb_up_k _ _ _ (by omega), tb_up_k _ _ _ (by omega), tb_up_k _ _ _ (by omega), tb_up_k _ _ _ (by omega), hk k h1 h2]
            · refine ⟨n, 0, 0, ?_, hn.2, tb_up_s _ _ _ _, by omega, ?_, by omega, fun _ => rfl, fun q hq => ?_⟩
              · rw [tb_up_j _ _ _ (by omega), tb_up_j _ _ _ (by omega), tb_up_j _ _ _ (by omega), tb_up_s]
              · rw [tb_up_j _ _ _ (by omega), tb_up_s]
              · rw [tb_up_j _ _ _ (by omega), tb_up_j _ _ _ (by omega), tb_up_j _ _ _ (by omega), tb_up_j _ _ _ (by omega), tb_up_j _ _ _ (by omega), tb_up_j _ _ _ (by omega)]
                exact hwe q hq
    · rw [if_neg c2, if_neg c2, if_neg c2, if_neg c2]
      exact hid _
  · rw [if_neg c, if_neg c, if_neg c, if_neg c]
    exact hid _
end TBOPSB
