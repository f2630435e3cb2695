/-! THE OPERATIONS, on both sides: finishing, repairing -/
section TBOPSC
variable {z z' z'' y y' y'' : tb_M} {a b d r p q j k N M n sl : Nat} {s s' : Nat → Int32} {v v' x w : Int32}
theorem tb_snd2 (h : tb_R1 z d (y 158)) (hr : r < 2) (ho : tb_oks (y 158) r) : sp_X6_isSound y r ↔ tb_sm (z (tb_at d r + 1)) (tb_len z (tb_at d r)) = z (tb_at d r) 3 := by
  have hl := ho.LM.1.2
  have el : tb_len z (tb_at d r) = tb_lm y r := by
    unfold tb_len tb_lm
    rw [h.a hr (by decide)]
  have h1 : tb_sm (sr_X6_wordOf y r) (tb_lm y r) = tb_sm (z (tb_at d r + 1)) (tb_len z (tb_at d r)) := by
    rw [el]
    refine tb_sm_c (fun i hi => ?_)
    unfold sr_X6_wordOf
    rw [if_neg (by omega), h.ww hr (by omega)]
  unfold sp_X6_isSound
  rw [h1, h.a hr (by decide)]
theorem o_finish (h : tb_J z y N) (hN : N + 1 < 2 ^ 29) (hsl : sl < 2) : sr_X5_finish z sl = sr_X6_finish y sl ∧ tb_J (sz_X5_finish z sl) (sz_X6_finish y sl) (N + 1) ∧ tb_fC z (sz_X5_finish z sl) ∧ tb_fM y (sz_X6_finish y sl) := by
  have hJ := h.rec (by omega)
  obtain ⟨hF, hFM, el, ef⟩ := h.okF hsl
  have hst := h.2.1.1.a hsl (p := 0) (by decide)
  have hid : ∀ v : Int32, v = v ∧ tb_J z y (N + 1) ∧ tb_fC z z ∧ tb_fM y y := fun v => ⟨rfl, h.mono (by omega), tb_fC.rf, tb_fM.rf⟩
  unfold sr_X5_finish sr_X6_finish sz_X5_finish sz_X6_finish sz_X5_finish_m1 sz_X6_finish_m2 sz_X6_finish_m1
  rw [el, ef, hst]
  by_cases c2 : z (tb_at 0 sl) 0 = nI 1
  · rw [if_pos c2, if_pos c2, if_pos c2, if_pos c2]
    by_cases c3 : tb_lm y sl - tb_fm y sl ≤ 0
    · rw [if_pos c3, if_pos c3, if_pos c3, if_pos c3]
      have hs := hJ.2.1.2.1.2.2.2.2.2 sl hsl
      have hst1 : tb_recM y 158 (11 + 46 * sl + 0) = nI 1 := by rw [tb_rec_M, hst, c2]
      have W := hJ.2.1.1
      have fC := tb_rec_fC z (tb_rc z)
      have fM := tb_rec_fM y
      have ha := tb_at_l0 hsl
      have ok0 := hJ.2.1.2.1.1
      generalize sz_X2_record z 0 (tb_rc z) = z1 at hJ W fC
      generalize tb_recM y = y1 at hJ W fM hs hst1 ok0
      have hS := tb_snd2 W hsl hs
      obtain ⟨l, f, t, e1, e2, e3, e4, e5, e6, e7, e8⟩ := hs
      have ht : t = 0 := e7 hst1
      by_cases c4 : sp_X6_isSound y1 sl
      · rw [if_pos c4, if_pos c4, if_pos (hS.mp c4), if_pos (hS.mp c4), tb_b_t c4]
        have k0 : tb_up z1 (tb_at 0 sl) 0 (nI 2) 1 0 = y1 158 0 := by
          rw [tb_up_k _ _ _ (by omega), W.set (q := 0) (by decide)]
        have m0 : tb_up y1 158 (11 + 46 * sl + 0) (nI 2) 158 0 = y1 158 0 := tb_up_j _ _ _ (by omega)
        rw [k0, m0]
        have hO : tb_O z1 (tb_up (tb_up z1 (tb_at 0 sl) 0 (nI 2)) (tb_at 0 sl) 4 (y1 158 0)) 0 := (tb_O.rf.up (by omega)).up (by omega)
        have hOr : tb_Or y1 (tb_up (tb_up y1 158 (11 + 46 * sl + 0) (nI 2)) 158 (11 + 46 * sl + 4) (y1 158 0)) := tb_Or.rf.up.up
        refine ⟨rfl, hJ.slot hsl hO hOr ((W.ua hsl (by decide) rfl).ua hsl (by decide) rfl) (fun j hj => ?_) (fun k h1 h2 => ?_) ?_, fC.tr (hO.fC tb_D0), fM.tr hOr.fM⟩
        · rw [tb_up_j _ _ _ (by omega), tb_up_j _ _ _ (by omega)]
        · rw [tb_up_k _ _ _ (by omega), tb_up_k _ _ _ (by omega)]
        · obtain ⟨t0, a0, b0, d0⟩ := ok0
          refine ⟨l, f, t0, ?_, e2, ?_, e4, ?_, d0, fun e => ?_, fun q hq => ?_⟩
          · rw [tb_up_j _ _ _ (by omega), tb_up_j _ _ _ (by omega), e1]
          · rw [tb_up_j _ _ _ (by omega), tb_up_j _ _ _ (by omega), e3]
          · rw [tb_up_s, a0]
          · rw [tb_up_j _ _ _ (by omega), tb_up_s] at e
            exact absurd e (by decide)
          · rw [tb_up_j _ _ _ (by omega), tb_up_j _ _ _ (by omega)]
            exact e8 q hq
      · rw [if_neg c4, if_neg c4, if_neg (fun e => c4 (hS.mpr e)), if_neg (fun e => c4 (hS.mpr e)), tb_b_f c4]
        have m4 : tb_up (tb_up y1 158 (11 + 46 * sl + 0) (nI 4)) 158 (11 + 46 * sl + 4) (nI 0) = tb_up y1 158 (11 + 46 * sl + 0) (nI 4) := by
          have : tb_up y1 158 (11 + 46 * sl + 0) (nI 4) 158 (11 + 46 * sl + 4) = nI 0 := by rw [tb_up_j _ _ _ (by omega), e5, ht]
          rw [← this, tb_up_id]
        rw [m4]
        have hO : tb_O z1 (tb_up z1 (tb_at 0 sl) 0 (nI 4)) 0 := tb_O.rf.up (by omega)
        have hOr : tb_Or y1 (tb_up y1 158 (11 + 46 * sl + 0) (nI 4)) := tb_Or.rf.up
        refine ⟨rfl, hJ.slot hsl hO hOr (W.ua hsl (by decide) rfl) (fun j hj => tb_up_j _ _ _ (by omega)) (fun k h1 h2 => tb_up_k _ _ _ (by omega)) ?_, fC.tr (hO.fC tb_D0), fM.tr hOr.fM⟩
        exact tb_oks.st (s := y1 158) ⟨l, f, t, e1, e2, e3, e4, e5, e6, e7, e8⟩ (tb_up_s _ _ _ _) (fun p hp h0 => tb_up_j _ _ _ (by omega)) (fun e => absurd e (by decide))
    · rw [if_neg c3, if_neg c3, if_neg c3, if_neg c3]
      exact hid _
  · rw [if_neg c2, if_neg c2, if_neg c2, if_neg c2]
    exact hid _
-- repairing
def tb_gs : Int32 := tb_sm (fun _ => nI 0) 2
theorem tb_take_e (z : tb_M) (a : Nat) : sz_X0_takeGoldenImage z a = tb_up (tb_up (tb_up (tb_up (tb_up (tb_up (tb_up (tb_up (tb_up (tb_up (tb_up (tb_up z a 0 (nI 1)) a 1 (nI 0)) a 2 (nI 2)) a 3 (nI 0)) a 4 (nI 0)) a 5 (nI 0)) (a + 1) 0 (nI 0)) a 5 (nI (0 + 1))) (a + 1) 1 (nI 0)) a 5 (nI (1 + 1))) a 3 tb_gs) a 0 (nI 3) := by
  unfold sz_X0_takeGoldenImage sz_X0_expectImage
  have e : tb_sm ((tb_up (tb_up (tb_up (tb_up (tb_up (tb_up (tb_up (tb_up (tb_up (tb_up z a 0 (nI 1)) a 1 (nI 0)) a 2 (nI 2)) a 3 (nI 0)) a 4 (nI 0)) a 5 (nI 0)) (a + 1) 0 (nI 0)) a 5 (nI (0 + 1))) (a + 1) 1 (nI 0)) a 5 (nI (1 + 1))) (a + 1)) (tb_len (tb_up (tb_up (tb_up (tb_up (tb_up (tb_up (tb_up (tb_up (tb_up (tb_up z a 0 (nI 1)) a 1 (nI 0)) a 2 (nI 2)) a 3 (nI 0)) a 4 (nI 0)) a 5 (nI 0)) (a + 1) 0 (nI 0)) a 5 (nI (0 + 1))) (a + 1) 1 (nI 0)) a 5 (nI (1 + 1))) a) = tb_gs := by
    have el : tb_len (tb_up (tb_up (tb_up (tb_up (tb_up (tb_up (tb_up (tb_up (tb_up (tb_up z a 0 (nI 1)) a 1 (nI 0)) a 2 (nI 2)) a 3 (nI 0)) a 4 (nI 0)) a 5 (nI 0)) (a + 1) 0 (nI 0)) a 5 (nI (0 + 1))) (a + 1) 1 (nI 0)) a 5 (nI (1 + 1))) a = 2 := by
      unfold tb_len
      rw [tb_up_j _ _ _ (by decide), tb_up_k _ _ _ (by omega), tb_up_j _ _ _ (by decide), tb_up_k _ _ _ (by omega), tb_up_j _ _ _ (by decide), tb_up_j _ _ _ (by decide), tb_up_j _ _ _ (by decide), tb_up_s]
      decide
    rw [el]
    refine tb_sm_c (fun i hi => ?_)
    have : i = 0 ∨ i = 1 := by omega
    rcases this with rfl | rfl
    · rw [tb_up_k _ _ _ (by omega), tb_up_j _ _ _ (by decide), tb_up_k _ _ _ (by omega), tb_up_s]
    · rw [tb_up_k _ _ _ (by omega), tb_up_s]
  rw [e]
theorem tb_wg_e (y : tb_M) : tb_sm (sr_X6_wordOf y 2) 2 = tb_gs := by
  refine tb_sm_c (fun i hi => ?_)
  unfold sr_X6_wordOf
  rw [if_pos rfl, if_neg (by omega)]
theorem tb_wg_0 (y : tb_M) : sr_X6_wordOf y 2 0 = nI 0 := by
  unfold sr_X6_wordOf
  rw [if_pos rfl, if_neg (by omega)]
theorem tb_wg_1 (y : tb_M) : sr_X6_wordOf y 2 1 = nI 0 := by
  unfold sr_X6_wordOf
  rw [if_pos rfl, if_neg (by omega)]
def tb_rep (y : tb_M) (sl : Nat) : tb_M := tb_up (tb_up (tb_up (tb_up (tb_up (tb_up (tb_up (tb_up y 158 ((11 + (46 * sl)) + 0) (nI (3))) 158 ((11 + (46 * sl)) + 1) (nI (0))) 158 ((11 + (46 * sl)) + 2) (nI (2))) 158 ((11 + (46 * sl)) + 3) tb_gs) 158 ((11 + (46 * sl)) + 4) (nI (0))) 158 ((11 + (46 * sl)) + 5) (nI (2))) 158 ((11 + (46 * sl)) + 14) (nI 0)) 158 ((11 + (46 * sl)) + 15) (nI 0)
theorem tb_rep_e (y : tb_M) (sl : Nat) : sz_X6_repair_m2 y sl = tb_rep (tb_ep (tb_recM y) sl 1) sl := by
  unfold sz_X6_repair_m2 sz_X6_repair_m1 tb_rep
  rw [tb_wg_e, tb_wg_0, tb_wg_1]
  rfl
theorem tb_rep_R1 (h : tb_R1 z 0 (y 158)) (hsl : sl < 2) : tb_R1 (sz_X0_takeGoldenImage z (tb_at 0 sl)) 0 (tb_rep y sl 158) := by
  rw [tb_take_e]
  have R := ((((((((((((h.ua hsl (v := nI 1) (p := 0) (by decide) rfl).ua hsl (v := nI 0) (p := 1) (by decide) rfl).ua hsl (v := nI 2) (p := 2) (by decide) rfl).ua hsl (v := nI 0) (p := 3) (by decide) rfl).ua hsl (v := nI 0) (p := 4) (by decide) rfl).ua hsl (v := nI 0) (p := 5) (by decide) rfl).uw hsl (v := nI 0) (p := 0) (by decide) rfl).ua hsl (v := nI (0 + 1)) (p := 5) (by decide) rfl).uw hsl (v := nI 0) (p := 1) (by decide) rfl).ua hsl (v := nI (1 + 1)) (p := 5) (by decide) rfl).ua hsl (v := tb_gs) (p := 3) (by decide) rfl).ua hsl (v := nI 3) (p := 0) (by decide) rfl)
  refine R.cs (fun j hj => ?_)
  unfold tb_rep
  simp only [tb_up_e]
  by_cases c0 : j = 11 + 46 * sl + 0
  · rw [if_neg (by omega), if_neg (by omega), if_neg (by omega), if_neg (by omega), if_neg (by omega), if_neg (by omega), if_neg (by omega), if_pos c0, if_pos c0]
  by_cases c1 : j = 11 + 46 * sl + 1
  · rw [if_neg (by omega), if_neg (by omega), if_neg (by omega), if_neg (by omega), if_neg (by omega), if_neg (by omega), if_pos c1, if_neg c0, if_neg (by omega), if_neg (by omega), if_neg (by omega), if_neg (by omega), if_neg (by omega), if_neg (by omega), if_neg (by omega), if_neg (by omega), if_neg (by omega), if_pos c1]
  by_cases c2 : j = 11 + 46 * sl + 2
  · rw [if_neg (by omega), if_neg (by omega), if_neg (by omega), if_neg (by omega), if_neg (by omega), if_pos c2, if_neg c0, if_neg (by omega), if_neg (by omega), if_neg (by omega), if_neg (by omega), if_neg (by omega), if_neg (by omega), if_neg (by omega), if_neg (by omega), if_pos c2]
  by_cases c3 : j = 11 + 46 * sl + 3
  · rw [if_neg (by omega), if_neg (by omega), if_neg (by omega), if_neg (by omega), if_pos c3, if_neg c0, if_pos c3]
  by_cases c4 : j = 11 + 46 * sl + 4
  · rw [if_neg (by omega), if_neg (by omega), if_neg (by omega), if_pos c4, if_neg c0, if_neg c3, if_neg (by omega), if_neg (by omega), if_neg (by omega), if_neg (by omega), if_neg (by omega), if_pos c4]
  by_cases c5 : j = 11 + 46 * sl + 5
  · rw [if_neg (by omega), if_neg (by omega), if_pos c5, if_neg c0, if_neg c3, if_pos c5]
  by_cases c14 : j = 11 + 46 * sl + 14
  · rw [if_neg (by omega), if_pos c14, if_neg c0, if_neg c3, if_neg c5, if_neg (by omega), if_neg (by omega), if_pos (by omega)]
  by_cases c15 : j = 11 + 46 * sl + 15
  · rw [if_pos c15, if_neg c0, if_neg c3, if_neg c5, if_pos (by omega)]
  rw [if_neg c15, if_neg c14, if_neg c5, if_neg c4, if_neg c3, if_neg c2, if_neg c1, if_neg c0, if_neg c0, if_neg c3, if_neg c5, if_neg (by omega), if_neg c5, if_neg (by omega), if_neg c5, if_neg c4, if_neg c3, if_neg c2, if_neg c1, if_neg c0]
theorem o_repair (h : tb_J z y N) (hN : N + 1 < 2 ^ 29) (hsl : sl < 2) : sr_X5_repair z sl = sr_X6_repair y sl ∧ tb_J (sz_X5_repair z sl) (sz_X6_repair y sl) (N + 1) ∧ tb_fC z (sz_X5_repair z sl) ∧ tb_fM y (sz_X6_repair y sl) := by
  have hJ := h.rec (by omega)
  have hid : ∀ v : Int32, v = v ∧ tb_J z y (N + 1) ∧ tb_fC z z ∧ tb_fM y y := fun v => ⟨rfl, h.mono (by omega), tb_fC.rf, tb_fM.rf⟩
  have hL := (tb_lefts (n := 1) h.2.1 hsl (by decide)).1
  have hA : tb_aw y sl 1 = true ↔ ¬ (y 158 (11 + 46 * sl + (6 + 0)) < y 158 2) := by
    rw [tb_aw_e]
    constructor
    · intro c c2
      exact c (fun i hi => by
        have : i = 0 := by omega
        rw [this]
        exact c2)
    · intro c c2
      exact c (c2 0 (by decide))
  rw [hA] at hL
  unfold sr_X5_repair sr_X6_repair sz_X5_repair sz_X6_repair sz_X5_repair_m1
  rw [h.2.1.1.d3, h.2.1.1.d6, tb_rep_e]
  by_cases c : z 0 5 = nI 2
  · rw [if_pos c, if_pos c, if_pos c, if_pos c]
    by_cases c5 : ¬ (y 158 (11 + 46 * sl + (6 + 0)) < y 158 2)
    · rw [if_pos c5, if_pos c5, if_pos (hL.mpr c5), if_pos (hL.mpr c5)]
      exact hid _
    · rw [if_neg c5, if_neg c5, if_neg (fun e => c5 (hL.mp e)), if_neg (fun e => c5 (hL.mp e))]
      by_cases c4 : z 0 8 ≤ 0
      · rw [if_pos c4, if_pos c4, if_pos c4, if_pos c4]
        have hwe : ∀ q, q < 8 → ¬ tb_ep (tb_recM y) sl 1 158 (11 + 46 * sl + (6 + q)) < 0 := fun q hq => by
          rw [tb_ep_e _ sl _ (by decide), tb_rec_M]
          obtain ⟨l, f, t', g1, g2, g3, g4, g5, g6, g7, g8⟩ := h.2.1.2.1.2.2.2.2.2 sl hsl
          by_cases cq : q < 1
          · rw [if_pos (by omega)]
            have e0 : q = 0 := by omega
            subst e0
            exact tb_wear_1 (g8 0 hq) (Decidable.not_not.mp c5) h.2.1.2.1.2.2.1
          · rw [if_neg (by omega), if_neg (by omega)]
            exact g8 q hq
        have fC := tb_rec_fC z (tb_rc z)
        have fM := tb_rec_fM y
        have ha := tb_at_l0 hsl
        generalize sz_X2_record z 0 (tb_rc z) = z1 at hJ fC
        generalize tb_recM y = y1 at hJ fM hwe
        have hs := hJ.2.1.2.1.2.2.2.2.2 sl hsl
        have W := tb_emptied (n := 1) hJ.2.1.1 hsl (by decide)
        have hO : tb_O z1 (tb_ec (tb_ew z1 (tb_at 0 sl) 1) (tb_at 0 sl) (1 * 4)) 0 := tb_emptied_O hsl
        have hOr := tb_ep_or y1 sl 1
        have lo : ∀ j, (j < 11 + 46 * sl + 6 ∨ 57 + 46 * sl ≤ j) → tb_ep y1 sl 1 158 j = y1 158 j := fun j hj => by
          rw [tb_ep_e y1 sl 1 (by decide), if_neg (by omega), if_neg (by omega)]
        have hk : ∀ k, 11 ≤ k → k < 15 → tb_ec (tb_ew z1 (tb_at 0 sl) 1) (tb_at 0 sl) (1 * 4) k = z1 k := fun k h1 h2 => by
          funext b
          rw [tb_ec_e, tb_ew_e, if_neg (by omega), if_neg (by omega)]
        generalize tb_ec (tb_ew z1 (tb_at 0 sl) 1) (tb_at 0 sl) (1 * 4) = z2 at W hO hk
        generalize tb_ep y1 sl 1 = y2 at W hOr lo hwe
        have R := tb_rep_R1 W hsl
        have hO2 : tb_O z1 (sz_X0_takeGoldenImage z2 (tb_at 0 sl)) 0 := by
          rw [tb_take_e]
          exact (((((((((((hO.up (by omega)).up (by omega)).up (by omega)).up (by omega)).up (by omega)).up (by omega)).up (by omega)).up (by omega)).up (by omega)).up (by omega)).up (by omega)).up (by omega)
        have hOr2 : tb_Or y1 (tb_rep y2 sl) := by
          unfold tb_rep
          exact hOr.up.up.up.up.up.up.up.up
        have hw0 : tb_rep y2 sl 158 (11 + 46 * sl + 6) = y2 158 (11 + 46 * sl + (6 + 0)) := by
          unfold tb_rep
          rw [tb_up_j _ _ _ (by omega), tb_up_j _ _ _ (by omega), tb_up_j _ _ _ (by omega), tb_up_j _ _ _ (by omega), tb_up_j _ _ _ (by omega), tb_up_j _ _ _ (by omega), tb_up_j _ _ _ (by omega), tb_up_j _ _ _ (by omega)]
        have hlo : ∀ j, (j < 11 + 46 * sl ∨ 11 + 46 * sl + 6 ≤ j ∧ j ≠ 11 + 46 * sl + 14 ∧ j ≠ 11 + 46 * sl + 15) → tb_rep y2 sl 158 j = y2 158 j := fun j hj => by
          unfold tb_rep
          rw [tb_up_j _ _ _ (by omega), tb_up_j _ _ _ (by omega), tb_up_j _ _ _ (by omega), tb_up_j _ _ _ (by omega), tb_up_j _ _ _ (by omega), tb_up_j _ _ _ (by omega), tb_up_j _ _ _ (by omega), tb_up_j _ _ _ (by omega)]
        refine ⟨?_, hJ.slot hsl hO2 hOr2 R (fun j hj => ?_) (fun k h1 h2 => ?_) ?_, fC.tr (hO2.fC tb_D0), fM.tr hOr2.fM⟩
        · have e1 := R.vv hsl (p := 0) (by decide)
          have e2 := hwe 0 (by decide)
          rw [← hw0] at e2
          show (if nI 0 < sz_X0_takeGoldenImage z2 (tb_at 0 sl) (tb_at 0 sl + 2) 0 then sz_X0_takeGoldenImage z2 (tb_at 0 sl) (tb_at 0 sl + 2) 0 else nI 0) = tb_rep y2 sl 158 (11 + 46 * sl + 6)
          rw [← e1]
          show (if nI 0 < tb_rep y2 sl 158 (11 + 46 * sl + 6) then tb_rep y2 sl 158 (11 + 46 * sl + 6) else nI 0) = tb_rep y2 sl 158 (11 + 46 * sl + 6)
          obtain ⟨m, hm, em⟩ := nI_of e2
          rw [em]
          rcases Nat.eq_zero_or_pos m with e0 | e0
          · rw [e0]
            rfl
          · rw [if_pos (nI_lt e0 hm)]
        · rw [hlo j (by omega), lo j (by omega)]
        · rw [tb_take_e]
          rw [tb_up_k _ _ _ (by omega), tb_up_k _ _ _ (by omega), tb_up_k _ _ _ (by omega), tb_up_k _ _ _ (by omega), tb_up_k _ _ _ (by omega), tb_up_k _ _ _ (by omega), tb_up_k _ _ _ (by omega), tb_up_k _ _ _ (by omega), tb_up_k _ _ _ (by omega), tb_up_k _ _ _ (by omega), tb_up_k _ _ _ (by omega), tb_up_k _ _ _ (by omega), hk k h1 h2]
        · refine ⟨2, 2, 0, ?_, by decide, ?_, by decide, ?_, by decide, fun _ => rfl, fun q hq => ?_⟩
          · unfold tb_rep
            rw [tb_up_j _ _ _ (by omega), tb_up_j _ _ _ (by omega), tb_up_j _ _ _ (by omega), tb_up_j _ _ _ (by omega), tb_up_j _ _ _ (by omega), tb_up_s]
          · unfold tb_rep
            rw [tb_up_j _ _ _ (by omega), tb_up_j _ _ _ (by omega), tb_up_s]
          · unfold tb_rep
            rw [tb_up_j _ _ _ (by omega), tb_up_j _ _ _ (by omega), tb_up_j _ _ _ (by omega), tb_up_s]
          · rw [hlo _ (by omega)]
            exact hwe q hq
      · rw [if_neg c4, if_neg c4, if_neg c4, if_neg c4]
        exact hid _
  · rw [if_neg c, if_neg c, if_neg c, if_neg c]
    exact hid _
end TBOPSC
