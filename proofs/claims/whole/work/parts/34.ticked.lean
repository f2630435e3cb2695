/-! A TICK, on both sides -/
section TBTICKED
variable {z z' z'' y y' y'' : tb_M} {d r p q j k N M n : Nat} {s s' : Nat → Int32} {v v' x : Int32}
theorem tb_R.ch (h : tb_R z d s N) (h1 : tb_R1 z' d s') (h0 : ∀ j, j < 4 → s' j = s j) (h7 : s' 7 = s 7) (h10 : s' 10 = s 10) (hp : ∀ j, 103 ≤ j → s' j = s j) (h4 : ∃ t, s' 4 = nI t ∧ t ≤ M) (hs : ∀ r, r < 2 → tb_oks s' r) (hk : ∀ c, c < 3 → z' (d + 12 + c) = z (d + 12 + c)) (hM : N ≤ M) : tb_R z' d s' M := by
  obtain ⟨_, ⟨a0, a1, a2, a3, _, _⟩, al, kp, e7, hal, e10, hkp, h2⟩ := h
  refine ⟨h1, ⟨by rw [h0 0 (by decide)]; exact a0, by rw [h0 1 (by decide)]; exact a1, by rw [h0 2 (by decide)]; exact a2, by rw [h0 3 (by decide)]; exact a3, h4, hs⟩, al, kp, by rw [h7, e7], by omega, by rw [h10, e10], hkp, fun b c hb hc => ?_⟩
  rw [hp _ (by omega), hk c hc]
  exact h2 b c hb hc
theorem tb_R.rn (h : tb_R z d (y 158) N) : tb_rn z d ≤ 2 ∧ y 158 3 = nI (tb_rn z d) ∧ z d 5 = nI (tb_rn z d) ∧ tb_rnM y = tb_rn z d := by
  obtain ⟨h1, ⟨_, _, _, ⟨t, h3, h4⟩, _⟩, _⟩ := h
  have e : tb_rn z d = t := by
    unfold tb_rn
    rw [← h1.d3, h3, nI_clamp (by omega)]
  have e2 : tb_rnM y = t := by
    unfold tb_rnM
    rw [h3, nI_clamp (by omega)]
  rw [e, e2]
  exact ⟨h4, h3, by rw [← h1.d3, h3], rfl⟩
theorem tb_oks.L (h1 : tb_R1 z d s) (hr : r < 2) (h : tb_oks s r) : tb_okF z (tb_at d r) := by
  obtain ⟨l, f, t, h2, h3, h4, h5, _⟩ := h
  rw [h1.a hr (by decide)] at h2 h4
  have e : tb_len z (tb_at d r) = l := by
    unfold tb_len
    rw [h2, nI_clamp (by omega)]
  have e2 : tb_fl z (tb_at d r) = f := by
    unfold tb_fl
    rw [h4, nI_clamp (by omega)]
  unfold tb_okF tb_okL
  rw [e, e2]
  exact ⟨⟨h2, h3⟩, h4, h5⟩
theorem tb_oks.LM (h : tb_oks (y 158) r) : tb_okFM y r := by
  obtain ⟨l, f, t, h2, h3, h4, h5, _⟩ := h
  have e : tb_lm y r = l := by
    unfold tb_lm
    rw [h2, nI_clamp (by omega)]
  have e2 : tb_fm y r = f := by
    unfold tb_fm
    rw [h4, nI_clamp (by omega)]
  unfold tb_okFM tb_okM
  rw [e, e2]
  exact ⟨⟨h2, h3⟩, h4, h5⟩
theorem tb_gold.okL (hg : tb_gold z d) : tb_okL z (d + 8) := by
  refine ⟨?_, ?_⟩
  · rw [hg.len]
    exact hg.2.1
  · rw [hg.len]
    decide
theorem tb_R.okL (hg : tb_gold z d) (h : tb_R z d s N) : ∀ r, tb_okL z (tb_at d r) := fun r => by
  by_cases hr : r < 2
  · exact ((h.2.1.2.2.2.2.2 r hr).L h.1 hr).1
  · have : tb_at d r = d + 8 := by
      unfold tb_at
      rw [if_neg (by omega), if_neg (by omega)]
    rw [this]
    exact hg.okL
theorem tb_R.al (h : tb_R z d s N) (hN : N < 2 ^ 30) : z (d + 11) 0 = nI (tb_al z d) ∧ tb_al z d ≤ N := by
  obtain ⟨h1, _, al, kp, e7, hal, _⟩ := h
  have e : tb_al z d = al := by
    unfold tb_al
    rw [← h1.d7, e7, nI_clamp (by omega)]
  rw [e]
  exact ⟨by rw [← h1.d7, e7], hal⟩
theorem tb_R.okS (hg : tb_gold z d) (h : tb_R z d s N) (hN : N + 1 < 2 ^ 30) : tb_okS z d := by
  obtain ⟨a, b⟩ := h.al (by omega)
  exact ⟨h.okL hg, a, by omega⟩
theorem tb_R.okT (hg : tb_gold z d) (h : tb_R z d (y 158) N) (hN : N + 1 < 2 ^ 30) : tb_okT z d := ⟨h.okS hg hN, h.rn.2.2.1, h.rn.1⟩
theorem tb_R.okTM (h : tb_R z d (y 158) N) : tb_okTM y := by
  refine ⟨?_, fun r hr => (h.2.1.2.2.2.2.2 r hr).LM.1⟩
  unfold tb_okRn
  rw [h.rn.2.2.2]
  exact ⟨h.rn.2.1, h.rn.1⟩
/-- a word of an area -/
theorem tb_wof (hg : tb_gold z d) (h1 : tb_R1 z d (y 158)) {w : Nat} (hr : r ≤ 2) (hw : w < 32) : sr_X6_wordOf y r w = z (tb_at d r + 1) w := by
  unfold sr_X6_wordOf
  by_cases h2 : r = 2
  · subst h2
    rw [if_pos rfl, tb_at_2]
    by_cases hw2 : 2 ≤ w
    · rw [if_pos hw2]
      exact (hg.2.2.2.2.2 w hw2 hw).symm
    · rw [if_neg hw2]
      have : w = 0 ∨ w = 1 := by omega
      rcases this with rfl | rfl
      · exact hg.2.2.2.1.symm
      · exact hg.2.2.2.2.1.symm
  · rw [if_neg h2, h1.ww (by omega) hw]
theorem tb_max_c (a b : Int32) : (if b ≤ a then a else b) = (if a < b then b else a) := by
  by_cases h : a < b
  · have : ¬ b ≤ a := by
      rw [Int32.le_iff_toInt_le]
      rw [Int32.lt_iff_toInt_lt] at h
      omega
    rw [if_pos h, if_neg this]
  · have : b ≤ a := by
      rw [Int32.le_iff_toInt_le]
      rw [Int32.lt_iff_toInt_lt] at h
      omega
    rw [if_neg h, if_pos this]
theorem tb_le_lt (a b : Int32) : a ≤ b ↔ ¬ b < a := by
  rw [Int32.le_iff_toInt_le, Int32.lt_iff_toInt_lt]
  omega
theorem tb_onT (hg : tb_gold z d) (h : tb_R z d (y 158) N) : sp_X6_isOnTrial y ↔ z (tb_at d (tb_rn z d)) 0 = nI 2 := by
  obtain ⟨hr, _, _, e⟩ := h.rn
  unfold sp_X6_isOnTrial
  rw [e]
  generalize tb_rn z d = r at hr
  by_cases h2 : r = 2
  · subst h2
    rw [tb_at_2, hg.1]
    exact ⟨fun c => absurd rfl c.1, fun c => absurd c (by decide)⟩
  · rw [h.1.a (r := r) (by omega) (by decide)]
    exact ⟨fun c => c.2, fun c => ⟨h2, c⟩⟩
theorem tb_tells (hg : tb_gold z d) (h : tb_R z d (y 158) N) {w t : Nat} (hw : w < 32) (ht : y 158 4 = nI t) (h0 : 0 < t) (hN : t < 2 ^ 31) : sp_X6_tells y w ↔ z (tb_at d (tb_rn z d) + 1) w = z d 6 := by
  obtain ⟨hr, _, _, e⟩ := h.rn
  unfold sp_X6_tells
  rw [e, tb_wof hg h.1 hr hw, ← h.1.d4]
  refine ⟨fun c => c.2, fun c => ⟨?_, c⟩⟩
  rw [c, ht]
  exact nI_nle h0 hN
/-- the tick counts, and the hanging -/
theorem tb_tick1 (hg : tb_gold z d) (h : tb_R z d (y 158) N) (hN : N + 1 < 2 ^ 30) :
    tb_R (sz_X1_needsStartInTick_m1 z d) d (sz_X6_tick_m1 y 158) (N + 1) ∧ tb_O z (sz_X1_needsStartInTick_m1 z d) d ∧ tb_Or y (sz_X6_tick_m1 y) ∧ (∃ t, sz_X6_tick_m1 y 158 4 = nI t ∧ 0 < t ∧ t ≤ N + 1) ∧ tb_rn (sz_X1_needsStartInTick_m1 z d) d = tb_rn z d := by
  obtain ⟨t, ht, htN⟩ := h.2.1.2.2.2.2.1
  have hrn := h.rn
  unfold sz_X1_needsStartInTick_m1 sz_X6_tick_m1
  -- the counts
  have R0 : tb_R1 (tb_up (tb_up z d 6 (z d 6 + nI 1)) d 9 (tb_up z d 6 (z d 6 + nI 1) d 9 + nI 1)) d (tb_up (tb_up y 158 9 (y 158 9 + nI 1)) 158 4 (tb_up y 158 9 (y 158 9 + nI 1) 158 4 + nI 1) 158) := by
    rw [tb_up_j _ _ _ (by decide), tb_up_j _ _ _ (by decide), tb_up_sw y _ _ (Or.inr (by decide))]
    exact (h.1.u4 (by rw [h.1.d4])).u9 (by rw [h.1.d9])
  have O0 : tb_O z (tb_up (tb_up z d 6 (z d 6 + nI 1)) d 9 (tb_up z d 6 (z d 6 + nI 1) d 9 + nI 1)) d := (tb_O.rf.up (by omega)).up (by omega)
  have Or0 : tb_Or y (tb_up (tb_up y 158 9 (y 158 9 + nI 1)) 158 4 (tb_up y 158 9 (y 158 9 + nI 1) 158 4 + nI 1)) := tb_Or.rf.up.up
  have J0 : ∀ j, j ≠ 4 → j ≠ 9 → tb_up (tb_up y 158 9 (y 158 9 + nI 1)) 158 4 (tb_up y 158 9 (y 158 9 + nI 1) 158 4 + nI 1) 158 j = y 158 j := fun j h4 h9 => by
    rw [tb_up_j _ _ _ h4, tb_up_j _ _ _ h9]
  have J4 : tb_up (tb_up y 158 9 (y 158 9 + nI 1)) 158 4 (tb_up y 158 9 (y 158 9 + nI 1) 158 4 + nI 1) 158 4 = nI (t + 1) := by
    rw [tb_up_s, tb_up_j _ _ _ (by decide), ht, nI_add]
  have K0 : ∀ k, k ≠ d → tb_up (tb_up z d 6 (z d 6 + nI 1)) d 9 (tb_up z d 6 (z d 6 + nI 1) d 9 + nI 1) k = z k := fun k hk => by
    rw [tb_up_k _ _ _ hk, tb_up_k _ _ _ hk]
  have D0 : ∀ j, j ≠ 6 → j ≠ 9 → tb_up (tb_up z d 6 (z d 6 + nI 1)) d 9 (tb_up z d 6 (z d 6 + nI 1) d 9 + nI 1) d j = z d j := fun j h4 h9 => by
    rw [tb_up_j _ _ _ h9, tb_up_j _ _ _ h4]
  generalize tb_up (tb_up z d 6 (z d 6 + nI 1)) d 9 (tb_up z d 6 (z d 6 + nI 1) d 9 + nI 1) = w at R0 O0 K0 D0
  generalize tb_up (tb_up y 158 9 (y 158 9 + nI 1)) 158 4 (tb_up y 158 9 (y 158 9 + nI 1) 158 4 + nI 1) = u at R0 Or0 J0 J4
  have W : tb_R w d (u 158) (N + 1) := h.ch R0 (fun j hj => J0 j (by omega) (by omega)) (J0 7 (by decide) (by decide)) (J0 10 (by decide) (by decide)) (fun j hj => J0 j (by omega) (by omega)) ⟨t + 1, J4, by omega⟩ (fun r hr => (h.2.1.2.2.2.2.2 r hr).cs (fun p hp => J0 _ (by omega) (by omega))) (fun c hc => K0 _ (by omega)) (by omega)
  have hrw : tb_rn w d = tb_rn z d := by
    unfold tb_rn
    rw [D0 5 (by decide) (by decide)]
  have hup : tb_R (tb_up w d 7 (w d 7 + nI 1)) d (tb_up u 158 5 (u 158 5 + nI 1) 158) (N + 1) ∧ tb_O z (tb_up w d 7 (w d 7 + nI 1)) d ∧ tb_Or y (tb_up u 158 5 (u 158 5 + nI 1)) ∧ (∃ t, tb_up u 158 5 (u 158 5 + nI 1) 158 4 = nI t ∧ 0 < t ∧ t ≤ N + 1) ∧ tb_rn (tb_up w d 7 (w d 7 + nI 1)) d = tb_rn z d := by
    refine ⟨W.ch (W.1.u5 (by rw [W.1.d5])) (fun j hj => tb_up_j _ _ _ (by omega)) (tb_up_j _ _ _ (by decide)) (tb_up_j _ _ _ (by decide)) (fun j hj => tb_up_j _ _ _ (by omega)) ⟨t + 1, by rw [tb_up_j _ _ _ (by decide), J4], by omega⟩ (fun r hr => (W.2.1.2.2.2.2.2 r hr).cs (fun p hp => tb_up_j _ _ _ (by omega))) (fun c hc => tb_up_k _ _ _ (by omega)) (Nat.le_refl _), O0.up (by omega), Or0.up, ⟨t + 1, by rw [tb_up_j _ _ _ (by decide), J4], by omega, by omega⟩, ?_⟩
    rw [← hrw]
    unfold tb_rn
    rw [tb_up_j _ _ _ (by decide)]
  have hT := tb_tells (w := 0) (O0.gold hg) W (by decide) J4 (by omega) (by omega)
  rw [hrw] at hT
  by_cases c : 0 < u 158 5
  · rw [if_pos c, if_pos (by rw [← W.1.d5]; exact c)]
    exact hup
  · rw [if_neg c, if_neg (by rw [← W.1.d5]; exact c)]
    by_cases c2 : sp_X6_tells u 0
    · rw [if_pos c2, if_pos (hT.mp c2)]
      exact hup
    · rw [if_neg c2, if_neg (fun e => c2 (hT.mpr e))]
      exact ⟨W, O0, Or0, ⟨t + 1, J4, by omega, by omega⟩, hrw⟩
/-- the confirming -/
theorem tb_tick2 (hg : tb_gold z d) (h : tb_R z d (y 158) N) (hN : N + 1 < 2 ^ 30) :
    tb_R (sz_X1_needsStartInTick_m2 z d) d (sz_X6_tick_m2 y 158) (N + 1) ∧ tb_O z (sz_X1_needsStartInTick_m2 z d) d ∧ tb_Or y (sz_X6_tick_m2 y) ∧ tb_rn (sz_X1_needsStartInTick_m2 z d) d = tb_rn z d := by
  obtain ⟨W, O0, Or0, ⟨t, J4, ht0, htN⟩, hrw⟩ := tb_tick1 hg h hN
  have hg1 := O0.gold hg
  unfold sz_X1_needsStartInTick_m2 sz_X6_tick_m2
  generalize sz_X1_needsStartInTick_m1 z d = w at W O0 hrw hg1
  generalize sz_X6_tick_m1 y = u at W Or0 J4
  have hT := tb_tells (w := 1) hg1 W (by decide) J4 ht0 (by omega)
  have hT2 := tb_onT hg1 W
  obtain ⟨hr, hr3, _, hrm⟩ := W.rn
  rw [hrw] at hT hT2 hr hrm
  have hid : tb_R w d (u 158) (N + 1) ∧ tb_O z w d ∧ tb_Or y u ∧ tb_rn w d = tb_rn z d := ⟨W, O0, Or0, hrw⟩
  generalize hrr : tb_rn z d = r at hT hT2 hr hid hrw hrm
  by_cases c : u 158 5 = 0
  · rw [if_pos c, if_pos (by rw [← W.1.d5]; exact c)]
    by_cases c2 : sp_X6_tells u 1
    · rw [if_pos c2, if_pos (hT.mp c2)]
      by_cases c3 : sp_X6_isOnTrial u
      · have c4 := hT2.mp c3
        rw [if_pos c3, if_pos c4, hrm]
        have hr2 : r < 2 := by
          rcases Nat.lt_or_ge r 2 with a | a
          · exact a
          · have e2 : r = 2 := by omega
            rw [e2, tb_at_2, hg1.1] at c4
            exact absurd c4 (by decide)
        have ha := tb_at_in d hr2
        have R3 := W.1.ua (v := nI 3) hr2 (p := 0) (by decide) rfl
        refine ⟨W.ch (R3.u6 ?_) (fun j hj => ?_) ?_ ?_ (fun j hj => ?_) ⟨t, ?_, by omega⟩ (fun r' hr' => ?_) (fun c hc => ?_) (Nat.le_refl _), (O0.up (by omega)).up (by omega), Or0.up.up, ?_⟩
        · rw [R3.d6, R3.a hr2 (by decide)]
          exact tb_max_c _ _
        · rw [tb_up_j _ _ _ (by omega), tb_up_j _ _ _ (by omega)]
        · rw [tb_up_j _ _ _ (by omega), tb_up_j _ _ _ (by omega)]
        · rw [tb_up_j _ _ _ (by omega), tb_up_j _ _ _ (by omega)]
        · rw [tb_up_j _ _ _ (by omega), tb_up_j _ _ _ (by omega)]
        · rw [tb_up_j _ _ _ (by omega), tb_up_j _ _ _ (by omega), J4]
        · refine (tb_oks.upst (y := u) (v := nI 3) W.2.1.2.2.2.2.2 hr2 (fun e => absurd e (by decide)) r' hr').cs (fun p hp => ?_)
          rw [tb_up_j _ _ _ (by omega)]
        · rw [tb_up_k _ _ _ (by omega), tb_up_k _ _ _ (by omega)]
        · refine Eq.trans ?_ hrw
          unfold tb_rn
          rw [tb_up_j _ _ _ (by decide), tb_up_k _ _ _ (by omega)]
      · rw [if_neg c3, if_neg (fun e => c3 (hT2.mpr e))]
        exact hid
    · rw [if_neg c2, if_neg (fun e => c2 (hT.mpr e))]
      exact hid
  · rw [if_neg c, if_neg (by rw [← W.1.d5]; exact c)]
    exact hid
theorem tb_ticked (hg : tb_gold z d) (h : tb_R z d (y 158) N) (hN : N + 2 < 2 ^ 30) :
    tb_R (tb_stk z d) d (sz_X6_tick_m3 y 158) (N + 2) ∧ tb_O z (tb_stk z d) d ∧ tb_Or y (sz_X6_tick_m3 y) ∧ (sp_X1_needsStartInTick z d ↔ sp_X6_tick y) := by
  obtain ⟨W, O0, Or0, hrw⟩ := tb_tick2 hg h (by omega)
  have hg1 := O0.gold hg
  unfold tb_stk sz_X6_tick_m3 sp_X1_needsStartInTick sp_X6_tick
  generalize sz_X1_needsStartInTick_m2 z d = w at W O0 hrw hg1
  generalize sz_X6_tick_m2 y = u at W Or0
  have hT2 := tb_onT hg1 W
  rw [hrw] at hT2
  have hS := tb_started (x := nI 1) hg1 W (by omega)
  have hst : tb_R (sz_X1_startBy w d (nI 1)) d (sz_X6_remember (sz_X6_starts_m9 u (nI 1)) (nI 1) 158) (N + 2) ∧ tb_O z (sz_X1_startBy w d (nI 1)) d ∧ tb_Or y (sz_X6_remember (sz_X6_starts_m9 u (nI 1)) (nI 1)) := ⟨hS.1, O0.tr hS.2.1, Or0.tr hS.2.2⟩
  have hC : (u 158 1 ≤ u 158 5 ∨ (sp_X6_isOnTrial u ∧ ¬ u 158 4 < nI 10 * u 158 1)) ↔ (¬ w d 7 < w (d + 1) 1 ∨ w (tb_at d (tb_rn z d)) 0 = nI 2 ∧ ¬ w d 6 < nI 10 * w (d + 1) 1) := by
    rw [hT2, W.1.set (q := 1) (by decide), W.1.d5, W.1.d4, tb_le_lt]
  by_cases c1 : ¬ w d 7 < w (d + 1) 1 ∨ w (tb_at d (tb_rn z d)) 0 = nI 2 ∧ ¬ w d 6 < nI 10 * w (d + 1) 1
  · rw [if_pos c1, if_pos (hC.mpr c1)]
    exact ⟨hst.1, hst.2.1, hst.2.2, hC.symm⟩
  · rw [if_neg c1, if_neg (fun e => c1 (hC.mp e))]
    exact ⟨W.mono (by omega), O0, Or0, hC.symm⟩
/-- many ticks -/
theorem tb_passed (hg : tb_gold z d) (h : tb_R z d (y 158) N) : ∀ i, N + 2 * i < 2 ^ 30 → tb_R (tb_lpZ z d i) d (tb_mpZ y i 158) (N + 2 * i) ∧ tb_O z (tb_lpZ z d i) d ∧ tb_Or y (tb_mpZ y i) ∧ tb_lpN z d i = tb_mpN y i
  | 0, _ => ⟨h, tb_O.rf, tb_Or.rf, rfl⟩
  | i + 1, hN => by
    obtain ⟨a, b, c, e⟩ := tb_passed hg h i (by omega)
    obtain ⟨a', b', c', e'⟩ := tb_ticked (b.gold hg) a (by omega)
    refine ⟨a', b.tr b', c.tr c', ?_⟩
    show (if sp_X1_needsStartInTick (tb_lpZ z d i) d then tb_lpN z d i + nI 1 else tb_lpN z d i) = tb_mpN y i + tb_b (sp_X6_tick (tb_mpZ y i))
    rw [← tb_b_c e', e]
    by_cases hc : sp_X1_needsStartInTick (tb_lpZ z d i) d
    · rw [if_pos hc, tb_b_t hc]
    · rw [if_neg hc, tb_b_f hc]
      exact (Int32.add_zero _).symm
end TBTICKED
