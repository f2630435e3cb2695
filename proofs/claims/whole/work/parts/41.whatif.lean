/-! WHAT IF, UNDO, SAVED STATES, on both sides -/
section TBWHATIF
variable {z z' z'' y y' y'' : tb_M} {a b d r p q j k N M n sl : Nat} {s s' : Nat → Int32} {v v' x w : Int32}
theorem tb_J.wi (h : tb_J z y N) (hO : tb_O z z' 15) (hy : ∀ k, k ≠ 158 → k ≠ 159 → y' k = y k) (h8 : ∀ j, j < 139 → y' 158 j = y 158 j) : tb_J z' y' N := by
  obtain ⟨g1, g2, g3, g4, g5⟩ := h
  exact ⟨g1.O tb_D15 hO, (g2.cz (fun k _ hk => hO k (by omega))).cs h8, g3.c (hO _ (by omega)) (fun k _ _ => hO k (by omega)) (by rw [hy _ (by decide) (by decide)]) (hy _ (by decide) (by decide)), g4.c (hO _ (by omega)) (fun k _ _ => hO k (by omega)) (hy _ (by decide) (by decide)) (hy _ (by decide) (by decide)), g5.c (hO _ (by omega)) (hO _ (by omega)) (by rw [hy _ (by decide) (by decide)]) (hy _ (by decide) (by decide))⟩
/-- the other device is made like the device -/
theorem tb_J.twin (h : tb_J z y N) : tb_R (sz_X1_copyFrom_m6 z 15 0) 15 (tb_nZ0 y 158) N ∧ tb_O z (sz_X1_copyFrom_m6 z 15 0) 15 ∧ tb_gold (sz_X1_copyFrom_m6 z 15 0) 15 ∧ (∀ k, k ≠ 159 → tb_nZ0 y k = y k) ∧ ∀ j, j < 139 → tb_nZ0 y 159 j = y 158 j := by
  obtain ⟨c1, _, _⟩ := tb_cD z (d := 15) (b := 0) (by omega)
  have e : tb_nZ0 y 158 = y 158 := tb_nZ0_k y (by decide)
  refine ⟨?_, c1, c1.gold (h.1 15 tb_D15), fun k hk => tb_nZ0_k y hk, fun j hj => ?_⟩
  · rw [e]
    exact h.2.1.copy (by omega)
  · unfold tb_nZ0
    rw [tb_mv_e _ (by decide), if_pos (by omega)]
    congr 1
    omega
/-- the reference goes back -/
theorem tb_back (hM : ∀ k, k ≠ 159 → k ≠ 158 → y' k = y k) (h9 : ∀ j, j < 139 → y' 159 j = y 158 j) : (∀ k, k ≠ 158 → k ≠ 159 → tb_mv y' 159 0 158 0 139 k = y k) ∧ ∀ j, j < 139 → tb_mv y' 159 0 158 0 139 158 j = y 158 j := by
  refine ⟨fun k h1 h2 => ?_, fun j hj => ?_⟩
  · rw [tb_mv_k _ h1]
    exact hM k h2 h1
  · rw [tb_mv_e _ (by decide), if_pos (by omega), Nat.zero_add, Nat.sub_zero]
    exact h9 j hj
theorem tb_Or.twin (h : tb_J z y N) (hO : tb_Or (tb_nZ0 y) y') : (∀ k, k ≠ 159 → k ≠ 158 → y' k = y k) ∧ ∀ j, j < 139 → y' 159 j = y 158 j := by
  obtain ⟨_, _, _, t4, t5⟩ := h.twin
  refine ⟨fun k h1 h2 => ?_, fun j hj => ?_⟩
  · rw [hO k h2, t4 k h1]
  · rw [hO 159 (by decide)]
    exact t5 j hj
theorem tb_back_fM (hM : ∀ k, k ≠ 158 → k ≠ 159 → y' k = y k) : tb_fM y y' := fun k hk => hM k (by omega) (by omega)
theorem o_ifStarted {qq : Prop} [Decidable qq] (h : tb_J z y N) (hN : N + 2 < 2 ^ 29) : tb_okS (sz_X1_copyFrom_m6 z 15 0) 15 ∧ sr_X5_ifStarted z qq = sr_X6_ifStarted y qq ∧ tb_J (sz_X5_ifStarted_m1 z qq) (tb_mv (sz_X6_ifStarted_m1 y qq) 159 0 158 0 139) N ∧ tb_fC z (sz_X5_ifStarted_m1 z qq) ∧ tb_fM y (tb_mv (sz_X6_ifStarted_m1 y qq) 159 0 158 0 139) := by
  obtain ⟨t1, t2, t3, t4, t5⟩ := h.twin
  have S := tb_started (x := nI (if qq then 2 else 0)) t3 t1 (by omega)
  have hO := t2.tr S.2.1
  have T := tb_Or.twin h S.2.2
  have B := tb_back T.1 T.2
  refine ⟨t1.okS t3 (by omega), ?_, ?_, ?_, ?_⟩
  · unfold sr_X5_ifStarted sr_X6_ifStarted sz_X5_ifStarted_m1 sz_X6_ifStarted_m1 sr_X1_badSlots sr_X6_badMany
    have W := S.1.1
    have e1 := W.a (r := 0) (p := 0) (by decide) (by decide)
    have e2 := W.a (r := 1) (p := 0) (by decide) (by decide)
    have e3 := h.2.1.1.a (r := 0) (p := 0) (by decide) (by decide)
    have e4 := h.2.1.1.a (r := 1) (p := 0) (by decide) (by decide)
    have e5 := W.d3
    rw [e1, e2, e5, t4 158 (by decide), e3, e4, hO (0 + 2) (by omega), hO (0 + 5) (by omega)]
    rfl
  · exact h.wi hO B.1 B.2
  · exact hO.fC tb_D15
  · exact tb_back_fM B.1
theorem o_ifPassed {t : Nat} (h : tb_J z y N) (hN : N + 1000 < 2 ^ 29) (ht : t ≤ 500) : (∀ i, i < t → tb_okT (tb_lpZ (sz_X1_copyFrom_m6 z 15 0) 15 i) 15) ∧ (∀ i, i < t → tb_okTM (tb_mpZ (tb_nZ0 y) i)) ∧ tb_lpN (sz_X1_copyFrom_m6 z 15 0) 15 t = tb_mpN (tb_nZ0 y) t ∧ (tb_lpZ (sz_X1_copyFrom_m6 z 15 0) 15 t) 15 5 = (tb_mpZ (tb_nZ0 y) t) 158 3 ∧ (∀ r, r < 2 → (tb_lpZ (sz_X1_copyFrom_m6 z 15 0) 15 t) (tb_at 15 r) 0 = (tb_mpZ (tb_nZ0 y) t) 158 ((11 + (46 * r)) + 0)) ∧ tb_J (tb_lpZ (sz_X1_copyFrom_m6 z 15 0) 15 t) (tb_mv (tb_mpZ (tb_nZ0 y) t) 159 0 158 0 139) N ∧ tb_fC z (tb_lpZ (sz_X1_copyFrom_m6 z 15 0) 15 t) ∧ tb_fM y (tb_mv (tb_mpZ (tb_nZ0 y) t) 159 0 158 0 139) := by
  obtain ⟨t1, t2, t3, t4, t5⟩ := h.twin
  have P := fun i (hi : i ≤ 500) => tb_passed t3 t1 i (by omega)
  obtain ⟨a, b, c, e⟩ := P t ht
  have hO := t2.tr b
  have T := tb_Or.twin h c
  have B := tb_back T.1 T.2
  exact ⟨fun i hi => (P i (by omega)).1.okT ((P i (by omega)).2.1.gold t3) (by omega), fun i hi => (P i (by omega)).1.okTM, e, a.1.d3.symm, fun r hr => (a.1.a hr (by decide)).symm, h.wi hO B.1 B.2, hO.fC tb_D15, tb_back_fM B.1⟩
theorem tb_next (u : tb_M) (d : Nat) (y : tb_M) (h : ∀ i, i < M → (sp_X1_needsStartInTick (tb_lpZ u d i) d ↔ sp_X6_tick (tb_mpZ y i))) (hO : ∀ i, i ≤ M → tb_O u (tb_lpZ u d i) d) (hO2 : ∀ i, i < M → tb_O u (sz_X1_needsStartInTick_m2 (tb_lpZ u d i) d) d) : ∀ k i, i + k ≤ M → tb_nsR u d k i = (if tb_nB y k i false = true then nI (tb_nJ y k i false) else -6) ∧ tb_O u (tb_nsZ u d k i) d ∧ tb_nJ y k i false ≤ i + k
  | 0, i, hk => ⟨rfl, hO i (by omega), Nat.le_refl _⟩
  | k + 1, i, hk => by
    obtain ⟨a1, a2, a3⟩ := tb_next u d y h hO hO2 k (i + 1) (by omega)
    have hi := h i (by omega)
    have eR : tb_nsR u d (k + 1) i = if sp_X1_needsStartInTick (tb_lpZ u d i) d then nI (i + 1) else tb_nsR u d k (i + 1) := rfl
    have eZ : tb_nsZ u d (k + 1) i = if sp_X1_needsStartInTick (tb_lpZ u d i) d then sz_X1_needsStartInTick_m2 (tb_lpZ u d i) d else tb_nsZ u d k (i + 1) := rfl
    have eB : tb_nB y (k + 1) i false = tb_nB y k (i + 1) (decide (sp_X6_tick (tb_mpZ y i))) := rfl
    have eJ : tb_nJ y (k + 1) i false = tb_nJ y k (i + 1) (decide (sp_X6_tick (tb_mpZ y i))) := rfl
    rw [eR, eZ, eB, eJ]
    by_cases c : sp_X1_needsStartInTick (tb_lpZ u d i) d
    · have eb : tb_nB y k (i + 1) true = true := by
        cases k with
        | zero => rfl
        | succ k => rfl
      have ej : tb_nJ y k (i + 1) true = i + 1 := by
        cases k with
        | zero => rfl
        | succ k => rfl
      rw [if_pos c, if_pos c, decide_eq_true (hi.mp c), eb, ej, if_pos rfl]
      exact ⟨rfl, hO2 i (by omega), by omega⟩
    · rw [if_neg c, if_neg c, decide_eq_false (fun e => c (hi.mpr e))]
      exact ⟨a1, a2, by omega⟩
theorem o_nextStart (h : tb_J z y N) (hN : N + 4000 < 2 ^ 29) : (∀ i, i < 2000 → tb_okT (tb_lpZ (sz_X1_copyFrom_m6 z 15 0) 15 i) 15) ∧ (∀ i, i < 2000 → tb_okTM (tb_mpZ (tb_nZ0 y) i)) ∧ tb_nsR (sz_X1_copyFrom_m6 z 15 0) 15 2000 0 = sr_X6_nextStart y ∧ tb_J (tb_nsZ (sz_X1_copyFrom_m6 z 15 0) 15 2000 0) (sz_X6_nextStart y) N ∧ tb_fC z (tb_nsZ (sz_X1_copyFrom_m6 z 15 0) 15 2000 0) ∧ tb_fM y (sz_X6_nextStart y) := by
  obtain ⟨t1, t2, t3, t4, t5⟩ := h.twin
  have P := fun i (hi : i ≤ 2000) => tb_passed t3 t1 i (by omega)
  have Q := fun i (hi : i < 2000) => (tb_ticked ((P i (by omega)).2.1.gold t3) (P i (by omega)).1 (by omega)).2.2.2
  have Q2 := fun i (hi : i < 2000) => (P i (by omega)).2.1.tr (tb_tick2 ((P i (by omega)).2.1.gold t3) (P i (by omega)).1 (by omega)).2.1
  obtain ⟨a1, a2, a3⟩ := tb_next (M := 2000) (sz_X1_copyFrom_m6 z 15 0) 15 (tb_nZ0 y) Q (fun i hi => (P i hi).2.1) Q2 2000 0 (by decide)
  have hO := t2.tr a2
  have T := tb_Or.twin h (P (tb_nJ (tb_nZ0 y) 2000 0 false) (by omega)).2.2.1
  have B := tb_back T.1 T.2
  exact ⟨fun i hi => (P i (by omega)).1.okT ((P i (by omega)).2.1.gold t3) (by omega), fun i hi => (P i (by omega)).1.okTM, a1, h.wi hO B.1 B.2, hO.fC tb_D15, tb_back_fM B.1⟩
-- undo
theorem o_undo (h : tb_J z y N) (hN : N < 2 ^ 29) : (¬ z 153 0 = 0 → 1 ≤ tb_rc z) ∧ sr_X5_undo z = sr_X6_undo y ∧ tb_J (sz_X5_undo z) (sz_X6_undo y) N ∧ tb_fC z (sz_X5_undo z) ∧ tb_fM y (sz_X6_undo y) := by
  obtain ⟨g1, g2, g3, g4, g5⟩ := h
  have hH := g3
  obtain ⟨rc, sz, e1, e2, e3, e4, e5, e6, e7⟩ := hH
  have e : tb_rc z = rc := by
    unfold tb_rc
    rw [e1, nI_clamp (by omega)]
  have em : tb_rcM y = sz := by
    unfold tb_rcM
    rw [e4, nI_clamp (by omega)]
  unfold sr_X5_undo sr_X6_undo sz_X5_undo sz_X6_undo sz_X5_undo_m1 sz_X2_takeBack sz_X2_takeBack_m1
  rw [e, em, e3]
  by_cases c : sz = 0
  · subst c
    rw [if_pos (show nI 0 = 0 from rfl), if_pos (show nI 0 = 0 from rfl), if_pos rfl, if_pos rfl]
    exact ⟨fun e => absurd rfl e, rfl, ⟨g1, g2, g3, g4, g5⟩, tb_fC.rf, tb_fM.rf⟩
  · have c2 : ¬ nI sz = 0 := nI_ne0 (by omega) (by omega)
    rw [if_neg c2, if_neg c2, if_neg c, if_neg c]
    have hm : (rc - 1) % 6 < 6 := Nat.mod_lt _ (by decide)
    have u0 : ∀ k, k ≠ 153 → tb_up z 153 1 (nI (rc - 1)) k = z k := fun k hk => tb_up_k _ _ _ hk
    have u1 : tb_up z 153 1 (nI (rc - 1)) 153 1 = nI (rc - 1) := tb_up_s _ _ _ _
    have u2 : tb_up z 153 1 (nI (rc - 1)) 153 0 = nI sz := by rw [tb_up_j _ _ _ (by decide), e3]
    have w0 : ∀ k, k ≠ 157 → tb_up y 157 3 (nI (sz - 1)) k = y k := fun k hk => tb_up_k _ _ _ hk
    have w1 : tb_up y 157 3 (nI (sz - 1)) 157 3 = nI (sz - 1) := tb_up_s _ _ _ _
    have w7 : tb_up y 157 3 (nI (sz - 1)) 157 7 = y 157 7 := tb_up_j _ _ _ (by decide)
    generalize tb_up z 153 1 (nI (rc - 1)) = z1 at u0 u1 u2
    generalize tb_up y 157 3 (nI (sz - 1)) = y1 at w0 w1 w7
    obtain ⟨c1, _, _⟩ := tb_cD z1 (d := 0) (b := 60 + 15 * ((rc - 1) % 6)) (by omega)
    have hi7 := e7 (sz - 1) (by omega)
    have hidx : rc - sz + (sz - 1) = rc - 1 := by omega
    rw [hidx] at hi7
    have hcopy : tb_R (sz_X1_copyFrom_m6 z1 0 (60 + 15 * ((rc - 1) % 6))) 0 (fun j => y 160 (139 * (sz - 1) + j)) N := (hi7.cz (fun k _ hk => u0 k (by omega))).copy (by omega)
    generalize sz_X1_copyFrom_m6 z1 0 (60 + 15 * ((rc - 1) % 6)) = z2 at c1 hcopy
    have k0 : ∀ k, 15 ≤ k → k ≠ 153 → tb_up z2 153 0 (z2 153 0 - nI 1) k = z k := fun k hk h3 => by
      rw [tb_up_k _ _ _ h3, c1 k (by omega), u0 k h3]
    have s1 : z2 153 0 - nI 1 = nI (sz - 1) := by
      rw [c1 153 (by omega), u2]
      obtain ⟨m, rfl⟩ : ∃ m, sz = m + 1 := ⟨sz - 1, by omega⟩
      exact nI_pred m
    rw [s1] at k0 ⊢
    have hmv3 : tb_mv y1 160 ((sz - 1) * 139) 158 0 139 157 = y1 157 := tb_mv_k _ (by decide) _
    refine ⟨fun _ => by omega, ?_, ⟨?_, ?_, ?_, ?_, ?_⟩, ?_, ?_⟩
    · rw [tb_up_s, hmv3, w1]
    · intro d hd
      obtain ⟨a1, a2⟩ := hd.lt
      refine (g1 d hd).c ?_ ?_
      · rw [tb_up_k _ _ _ (by omega), c1 _ (by omega), u0 _ (by omega)]
      · rw [tb_up_k _ _ _ (by omega), c1 _ (by omega), u0 _ (by omega)]
    · refine (hcopy.cz (fun k _ hk => tb_up_k _ _ _ (by omega))).cs (fun j hj => ?_)
      rw [tb_mv_e _ (by decide), if_pos (by omega), w0 160 (by decide)]
      have e9 : (sz - 1) * 139 + (j - 0) = 139 * (sz - 1) + j := by omega
      rw [e9]
    · refine ⟨rc - 1, sz - 1, ?_, by omega, tb_up_s _ _ _ _, ?_, by omega, by omega, fun i hi => ?_⟩
      · rw [tb_up_j _ _ _ (by decide), c1 153 (by omega), u1]
      · rw [hmv3, w1]
      · have hsub : rc - 1 - (sz - 1) + i = rc - sz + i := by omega
        have hm2 : (rc - sz + i) % 6 < 6 := Nat.mod_lt _ (by decide)
        rw [hsub, tb_mv_k _ (by decide), w0 160 (by decide)]
        exact (e7 i (by omega)).cz (fun k _ _ => k0 k (by omega) (by omega))
    · refine g4.c (k0 _ (by decide) (by decide)) (fun k _ _ => k0 k (by omega) (by omega)) ?_ ?_
      · rw [tb_mv_k _ (by decide), w0 _ (by decide)]
      · rw [tb_mv_k _ (by decide), w0 _ (by decide)]
    · refine g5.c (k0 _ (by decide) (by decide)) (k0 _ (by decide) (by decide)) ?_ ?_
      · rw [hmv3, w7]
      · rw [tb_mv_k _ (by decide), w0 _ (by decide)]
    · exact fun k hk => k0 k (by omega) (by omega)
    · intro k hk
      rw [tb_mv_k _ (by omega), w0 _ (by omega)]
-- saving
theorem o_save (h : tb_J z y N) (hq : q < 2) : (tb_up (sz_X5_save_m1 z q) 152 q (nI 1)) 0 5 = sr_X6_save y q ∧ tb_J (tb_up (sz_X5_save_m1 z q) 152 q (nI 1)) (tb_up (tb_mv y 158 0 161 (139 * q) 139) 162 q (nI (1))) N ∧ tb_fC z (tb_up (sz_X5_save_m1 z q) 152 q (nI 1)) ∧ tb_fM y (tb_up (tb_mv y 158 0 161 (139 * q) 139) 162 q (nI (1))) := by
  obtain ⟨g1, g2, g3, g4, g5⟩ := h
  unfold sz_X5_save_m1 sr_X6_save
  obtain ⟨c1, _, _⟩ := tb_cD z (d := 30 + 15 * q) (b := 0) (by omega)
  have hcopy : tb_R (sz_X1_copyFrom_m6 z (30 + 15 * q) 0) (30 + 15 * q) (y 158) N := g2.copy (by omega)
  generalize sz_X1_copyFrom_m6 z (30 + 15 * q) 0 = z1 at c1 hcopy
  have k0 : ∀ k, (k < 30 + 15 * q ∨ 30 + 15 * q + 15 ≤ k) → k ≠ 152 → tb_up z1 152 q (nI 1) k = z k := fun k hk h2 => by
    rw [tb_up_k _ _ _ h2, c1 k (by omega)]
  have m0 : ∀ k, k ≠ 161 → k ≠ 162 → tb_up (tb_mv y 158 0 161 (139 * q) 139) 162 q (nI 1) k = y k := fun k h1 h2 => by
    rw [tb_up_k _ _ _ h2, tb_mv_k _ h1]
  refine ⟨?_, ⟨?_, ?_, ?_, ?_, ?_⟩, fun k hk => k0 k (by omega) (by omega), fun k hk => m0 k (by omega) (by omega)⟩
  · rw [k0 0 (by omega) (by decide), m0 158 (by decide) (by decide), g2.1.d3]
  · intro d hd
    obtain ⟨a1, a2⟩ := hd.lt
    refine (g1 d hd).c ?_ ?_
    · rw [tb_up_k _ _ _ (by omega), c1 _ (by omega)]
    · rw [tb_up_k _ _ _ (by omega), c1 _ (by omega)]
  · rw [m0 158 (by decide) (by decide)]
    exact g2.cz (fun k _ hk => k0 k (by omega) (by omega))
  · exact g3.c (k0 _ (by omega) (by decide)) (fun k _ _ => k0 k (by omega) (by omega)) (by rw [m0 157 (by decide) (by decide)]) (m0 160 (by decide) (by decide))
  · intro q' hq'
    by_cases eq : q' = q
    · subst eq
      refine ⟨by rw [tb_up_s, tb_up_s], fun _ => ?_⟩
      refine (hcopy.cz (fun k _ _ => tb_up_k _ _ _ (by omega))).cs (fun j hj => ?_)
      rw [tb_up_k _ _ _ (by decide), tb_mv_e _ (by decide), if_pos (by omega)]
      have e9 : 0 + (139 * q' + j - 139 * q') = j := by omega
      rw [e9]
    · obtain ⟨a1, a2⟩ := g4 q' hq'
      refine ⟨?_, fun c => ?_⟩
      · rw [tb_up_j _ _ _ eq, tb_up_j _ _ _ eq, c1 152 (by omega), tb_mv_k _ (by decide), a1]
      · rw [tb_up_j _ _ _ eq, c1 152 (by omega)] at c
        refine ((a2 c).cz (fun k _ _ => k0 k (by omega) (by omega))).cs (fun j hj => ?_)
        rw [tb_up_k _ _ _ (by decide), tb_mv_e _ (by decide), if_neg (by omega)]
  · exact g5.c (k0 _ (by omega) (by decide)) (k0 _ (by omega) (by decide)) (by rw [m0 157 (by decide) (by decide)]) (m0 163 (by decide) (by decide))
theorem o_restore (h : tb_J z y N) (hN : N + 1 < 2 ^ 29) (hq : q < 2) : sr_X5_restore z q = sr_X6_restore y q ∧ tb_J (sz_X5_restore z q) (sz_X6_restore y q) (N + 1) ∧ tb_fC z (sz_X5_restore z q) ∧ tb_fM y (sz_X6_restore y q) := by
  have hJ := h.rec (by omega)
  obtain ⟨a1, a2⟩ := h.2.2.2.1 q hq
  unfold sr_X5_restore sr_X6_restore sz_X5_restore sz_X6_restore sz_X5_restore_m2 sz_X5_restore_m1 sz_X6_restore_m1
  rw [← a1]
  by_cases c : z 152 q = 0
  · rw [if_pos c, if_pos c, if_pos c, if_pos c]
    exact ⟨rfl, h.mono (by omega), tb_fC.rf, tb_fM.rf⟩
  · rw [if_neg c, if_neg c, if_neg c, if_neg c]
    have e52 : sz_X2_record z 0 (tb_rc z) 152 = z 152 := tb_rec_k z 0 _ (Or.inr (by omega))
    have hS := (hJ.2.2.2.1 q hq).2 (by rw [e52]; exact c)
    have fC := tb_rec_fC z (tb_rc z)
    have fM := tb_rec_fM y
    generalize sz_X2_record z 0 (tb_rc z) = z1 at hJ hS fC
    generalize tb_recM y = y1 at hJ hS fM
    obtain ⟨c1, _, _⟩ := tb_cD z1 (d := 0) (b := 30 + 15 * q) (by omega)
    have hcopy : tb_R (sz_X1_copyFrom_m6 z1 0 (30 + 15 * q)) 0 (fun j => y1 161 (139 * q + j)) (N + 1) := hS.copy (by omega)
    have hOr : tb_Or y1 (tb_mv y1 161 (139 * q) 158 0 139) := fun k hk => tb_mv_k _ hk _
    have R : tb_R (sz_X1_copyFrom_m6 z1 0 (30 + 15 * q)) 0 (tb_mv y1 161 (139 * q) 158 0 139 158) (N + 1) := hcopy.cs (fun j hj => by
      rw [tb_mv_e _ (by decide), if_pos (by omega), Nat.sub_zero])
    exact ⟨R.1.d3.symm, hJ.dev c1 hOr R (Nat.le_refl _), fC.tr (c1.fC tb_D0), fM.tr hOr.fM⟩
-- all words of the pad
theorem tb_fzs (h : tb_R1 z 0 (y 158)) (hsl : sl < 2) {f n : Nat} (hw : ∀ i, i < n → sr_X3_wordAt z i = sr_X6_padWord y i) : f + n ≤ 32 → tb_R1 (tb_fz z (tb_at 0 sl) f n) 0 (tb_fzM y sl f n 158) ∧ tb_O z (tb_fz z (tb_at 0 sl) f n) 0 ∧ tb_Or y (tb_fzM y sl f n) ∧ (∀ k, 11 ≤ k → tb_fz z (tb_at 0 sl) f n k = z k) ∧ ∀ j, (j < 11 + 46 * sl ∨ 57 + 46 * sl ≤ j ∨ j < 11 + 46 * sl + 14 ∧ j ≠ 11 + 46 * sl + 5) → tb_fzM y sl f n 158 j = y 158 j := by
  have ha := tb_at_l0 hsl
  induction n with
  | zero => exact fun _ => ⟨h, tb_O.rf, tb_Or.rf, fun _ _ => rfl, fun _ _ => rfl⟩
  | succ n ih =>
    intro hn
    obtain ⟨a1, a2, a3, a4, a5⟩ := ih (fun i hi => hw i (by omega)) (by omega)
    have e1 : sr_X3_wordAt (tb_fz z (tb_at 0 sl) f n) n = sr_X3_wordAt z n := by
      unfold sr_X3_wordAt sr_X3_digitAt
      rw [a4 156 (by decide)]
    have e2 : sr_X6_padWord (tb_fzM y sl f n) n = sr_X6_padWord y n := by
      unfold sr_X6_padWord
      rw [a3 163 (by decide)]
    have ez : tb_fz z (tb_at 0 sl) f (n + 1) = tb_up (tb_up (tb_fz z (tb_at 0 sl) f n) (tb_at 0 sl + 1) (f + n) (sr_X3_wordAt z n)) (tb_at 0 sl) 5 (nI (f + n + 1)) := by rw [← e1]; rfl
    have ey : tb_fzM y sl f (n + 1) = tb_up (tb_up (tb_fzM y sl f n) 158 ((11 + (46 * sl)) + (14 + (f + n))) (sr_X6_padWord y n)) 158 ((11 + (46 * sl)) + 5) (nI (f + n + 1)) := by rw [← e2]; rfl
    rw [ez, ey]
    refine ⟨(a1.uw hsl (by omega) (hw n (by omega)).symm).ua hsl (by decide) rfl, (a2.up (by omega)).up (by omega), a3.up.up, fun k hk => ?_, fun j hj => ?_⟩
    · rw [tb_up_k _ _ _ (by omega), tb_up_k _ _ _ (by omega), a4 k hk]
    · rw [tb_up_j _ _ _ (by omega), tb_up_j _ _ _ (by omega), a5 j hj]
theorem o_fillAll (h : tb_J z y N) (hN : N + 1 < 2 ^ 29) (hsl : sl < 2) : sr_X5_fillAll z sl = sr_X6_fillAll y sl ∧ tb_J (sz_X5_fillAll z sl) (sz_X6_fillAll y sl) (N + 1) ∧ tb_fC z (sz_X5_fillAll z sl) ∧ tb_fM y (sz_X6_fillAll y sl) := by
  have hJ := h.rec (by omega)
  obtain ⟨hF, hFM, el, ef⟩ := h.okF hsl
  have hst := h.2.1.1.a hsl (p := 0) (by decide)
  have hflt := o_fault h
  obtain ⟨p1, p2, p3, p4⟩ := h.2.2.2.2.okP
  have hid : ∀ v : Int32, v = v ∧ tb_J z y (N + 1) ∧ tb_fC z z ∧ tb_fM y y := fun v => ⟨rfl, h.mono (by omega), tb_fC.rf, tb_fM.rf⟩
  unfold sr_X5_fillAll sr_X6_fillAll sz_X5_fillAll sz_X6_fillAll
  rw [el, ef, hst, ← hflt, ← p3]
  by_cases c : tb_ff (sr_X3_digitAt z) (tb_tl (tb_pl z)) (tb_pl z) 0 = -6
  · rw [if_pos c, if_pos c, if_pos c, if_pos c]
    by_cases c2 : z (tb_at 0 sl) 0 = nI 1
    · rw [if_pos c2, if_pos c2, if_pos c2, if_pos c2]
      by_cases c3 : tb_pl z / 2 ≤ tb_lm y sl - tb_fm y sl
      · rw [if_pos c3, if_pos c3, if_pos c3, if_pos c3]
        have hwd : ∀ i, i < tb_pl z / 2 → sr_X3_wordAt (sz_X2_record z 0 (tb_rc z)) i = sr_X6_padWord (tb_recM y) i := fun i hi => by
          have e1 : sr_X3_wordAt (sz_X2_record z 0 (tb_rc z)) i = sr_X3_wordAt z i := by
            unfold sr_X3_wordAt sr_X3_digitAt
            rw [tb_rec_k z 0 _ (Or.inr (by omega))]
          have e2 : sr_X6_padWord (tb_recM y) i = sr_X6_padWord y i := by
            unfold sr_X6_padWord
            rw [tb_recM_k y (by decide)]
          rw [e1, e2]
          exact tb_words_e h c hi
        have hs := hJ.2.1.2.1.2.2.2.2.2 sl hsl
        have fC := tb_rec_fC z (tb_rc z)
        have fM := tb_rec_fM y
        have ef2 := tb_rec_fm y sl
        have el2 := tb_rec_lm y sl
        have hl := hFM.1.2
        have ha := tb_at_l0 hsl
        have hfl := hFM.2.2
        generalize tb_fm y sl = f at c3 ef2 hfl
        generalize tb_lm y sl = l at c3 el2 hl hfl
        generalize tb_pl z / 2 = n at c3 hwd
        generalize sz_X2_record z 0 (tb_rc z) = z1 at hJ hwd fC
        generalize tb_recM y = y1 at hJ hwd fM hs ef2 el2
        obtain ⟨q1, q2, q3, q4, q5⟩ := tb_fzs (f := f) hJ.2.1.1 hsl hwd (by omega)
        have hs' : tb_oks (tb_fzM y1 sl f n 158) sl ∧ tb_fzM y1 sl f n 158 (11 + 46 * sl + 5) = nI (f + n) := by
          obtain ⟨l', f', t, e1, e2, e3, e4, e5, e6, e7, e8⟩ := hs
          have hl' : l' = l := by
            rw [← el2]
            unfold tb_lm
            rw [e1, nI_clamp (by omega)]
          have hf' : f' = f := by
            rw [← ef2]
            unfold tb_fm
            rw [e3, nI_clamp (by omega)]
          subst hl' hf'
          have e9 := tb_fzM_5 e3 n
          exact ⟨⟨l', f' + n, t, by rw [q5 _ (by omega), e1], e2, e9, by omega, by rw [q5 _ (by omega), e5], e6, fun e => e7 (by rw [← q5 _ (by omega), e]), fun q hq => by rw [q5 _ (by omega)]; exact e8 q hq⟩, e9⟩
        have J2 := hJ.slot hsl q2 q3 q1 (fun j hj => q5 j (by omega)) (fun k h1 _ => q4 k h1) hs'.1
        generalize tb_fz z1 (tb_at 0 sl) f n = z2 at q1 q2 q4 J2
        generalize tb_fzM y1 sl f n = y2 at q1 q3 q5 J2 hs'
        have O3 := o_wipe J2
        refine ⟨?_, O3.2.1, (fC.tr (q2.fC tb_D0)).tr O3.2.2.1, (fM.tr q3.fM).tr O3.2.2.2⟩
        rw [tb_up_k _ _ _ (by omega), tb_up_k _ _ _ (by decide), ← q1.a hsl (by decide)]
      · rw [if_neg c3, if_neg c3, if_neg c3, if_neg c3]
        exact hid _
    · rw [if_neg c2, if_neg c2, if_neg c2, if_neg c2]
      exact hid _
  · rw [if_neg c, if_neg c, if_neg c, if_neg c]
    exact hid _
end TBWHATIF
