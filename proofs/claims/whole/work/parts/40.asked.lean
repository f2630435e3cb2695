/-! WHAT IS ASKED, on both sides -/
section TBASKED
variable {z z' z'' y y' y'' : tb_M} {a b d r p q j k N M n sl : Nat} {s s' : Nat → Int32} {v v' x w : Int32}
theorem tb_wo_wm (h : tb_R1 z 0 (y 158)) (hsl : sl < 2) : ∀ n, n ≤ 8 → tb_wo (z (tb_at 0 sl + 2)) (z 1 2) n = tb_wm y sl n
  | 0, _ => rfl
  | n + 1, hn => by
    have ih := tb_wo_wm h hsl n (by omega)
    show (if z (tb_at 0 sl + 2) n < z 1 2 then tb_wo (z (tb_at 0 sl + 2)) (z 1 2) n else tb_wo (z (tb_at 0 sl + 2)) (z 1 2) n + nI 1) = tb_wm y sl n + tb_b (¬ (y 158 ((11 + (46 * sl)) + (6 + n)) < y 158 2))
    rw [ih, h.vv hsl (by omega), h.set (q := 2) (by decide)]
    by_cases c : z (tb_at 0 sl + 2) n < z (0 + 1) 2
    · rw [if_pos c, tb_b_f (fun e => e c)]
      exact (Int32.add_zero _).symm
    · rw [if_neg c, tb_b_t c]
theorem o_slot (h : tb_J z y N) (hsl : sl < 2) : sr_X5_slot z sl w = sr_X6_slot y sl w := by
  have R := h.2.1.1
  have ok := h.2.1.2.1.2.2.2.2.2 sl hsl
  have e6 : tb_sm (z (tb_at 0 sl + 1)) (tb_len z (tb_at 0 sl)) = tb_sm (sr_X6_wordOf y sl) (tb_lm y sl) := by
    have el := (h.okF hsl).2.2.1
    have hl := ok.LM.1.2
    rw [el]
    refine tb_sm_c (fun i hi => ?_)
    unfold sr_X6_wordOf
    rw [if_neg (by omega), R.ww hsl (by omega)]
  have e7 : tb_gx (fun i => y 158 ((11 + (46 * sl)) + (6 + i))) 8 = tb_gw (z (tb_at 0 sl + 2)) 8 := tb_gx_gw (fun i hi => R.vv hsl hi)
  unfold sr_X5_slot sr_X6_slot
  rw [R.a hsl (p := 0) (by decide), R.a hsl (p := 1) (by decide), R.a hsl (p := 2) (by decide), R.a hsl (p := 3) (by decide), R.a hsl (p := 4) (by decide), R.a hsl (p := 5) (by decide), e6, e7, tb_wo_wm R hsl 8 (by decide)]
theorem o_word (h : tb_J z y N) {w : Nat} (hr : r ≤ 2) (hw : w < 32) : z (tb_at 0 r + 1) w = sr_X6_wordOf y r w := (tb_wof (h.1 0 tb_D0) h.2.1.1 hr hw).symm
theorem o_wear (h : tb_J z y N) {w : Nat} (hsl : sl < 2) (hw : w < 8) : z (tb_at 0 sl + 2) w = y 158 ((11 + (46 * sl)) + (6 + w)) := (h.2.1.1.vv hsl hw).symm
theorem o_count (h : tb_J z y N) : sr_X5_count z w = sr_X6_count y w := by
  have R := h.2.1.1
  obtain ⟨n, p1, p2, _⟩ := h.2.2.2.2
  obtain ⟨rc, sz, _, _, h3, h4, _⟩ := h.2.2.1
  have e7 : tb_sm (z (tb_at 0 2 + 1)) (tb_len z (tb_at 0 2)) = tb_sm (sr_X6_wordOf y 2) 2 := by
    have hg := h.1 0 tb_D0
    rw [tb_at_2, hg.len]
    exact tb_sm_c (fun i hi => (tb_wof hg R (r := 2) (by decide) (by omega)).symm)
  unfold sr_X5_count sr_X6_count
  rw [R.d3, R.d4, R.d5, R.d6, R.d7, R.d8, R.d9, R.set (q := 0) (by decide), R.set (q := 1) (by decide), R.set (q := 2) (by decide), p1, p2, h3, h4, e7]
theorem tb_J.kp (h : tb_J z y N) (hN : N < 2 ^ 29) : tb_okK z ∧ z 11 2 = y 158 10 ∧ y 158 10 = nI (tb_kp z) ∧ tb_kp z ≤ 12 := by
  obtain ⟨R, _, al, kp, e7, hal, e10, hkp, _⟩ := h.2.1
  have e1 : tb_al z 0 = al := by
    unfold tb_al
    rw [← R.d7, e7, nI_clamp (by omega)]
  have e2 : tb_kp z = kp := by
    have := R.d10
    unfold tb_kp
    rw [show z 11 2 = y 158 10 from this.symm, e10, nI_clamp (by omega)]
  unfold tb_okK
  rw [e1, e2]
  exact ⟨⟨R.d7.symm.trans e7, by omega, R.d10.symm.trans e10, by omega, by omega⟩, R.d10.symm, e10, by omega⟩
theorem o_past (h : tb_J z y N) (hN : N < 2 ^ 29) (hb : b < tb_kp z) : (∀ w, w < 3 → sr_X5_past z b (nI w) = y 158 ((103 + (3 * b)) + w)) ∧ ((¬ (¬ (x < nI 0) ∧ (¬ (nI 2 < x)))) → sr_X5_past z b x = -2) := by
  obtain ⟨R, _, al, kp, e7, hal, e10, hkp, h2⟩ := h.2.1
  have e1 : tb_al z 0 = al := by
    unfold tb_al
    rw [← R.d7, e7, nI_clamp (by omega)]
  have e2 : tb_kp z = kp := by
    have := R.d10
    unfold tb_kp
    rw [show z 11 2 = y 158 10 from this.symm, e10, nI_clamp (by omega)]
  rw [e2] at hb
  unfold sr_X5_past
  rw [e1]
  refine ⟨fun w hw => ?_, fun hx => ?_⟩
  · have hp := h2 b w hb hw
    have : w = 0 ∨ w = 1 ∨ w = 2 := by omega
    rcases this with rfl | rfl | rfl
    · rw [if_pos rfl]
      exact hp.symm
    · rw [if_neg (by decide), if_pos rfl]
      exact hp.symm
    · rw [if_neg (by decide), if_neg (by decide), if_pos rfl]
      exact hp.symm
  · rw [if_neg (fun e => hx (by rw [e]; decide)), if_neg (fun e => hx (by rw [e]; decide)), if_neg (fun e => hx (by rw [e]; decide))]
-- the pad
theorem tb_Pj.okP (h : tb_Pj z y) : tb_okP z ∧ tb_okPM y ∧ tb_pl z = tb_plM y ∧ ∀ i, i < tb_pl z → z 156 i = y 163 i := by
  obtain ⟨n, h1, h2, h3, h4⟩ := h
  have e : tb_pl z = n := by
    unfold tb_pl
    rw [h1, nI_clamp (by omega)]
  have e2 : tb_plM y = n := by
    unfold tb_plM
    rw [h2, nI_clamp (by omega)]
  unfold tb_okP tb_okPM
  rw [e, e2]
  exact ⟨⟨h1, h3⟩, ⟨h2, h3⟩, rfl, h4⟩
theorem tb_dig (h : z 156 k = y 163 k) : (0 ≤ sr_X3_digitAt z k ↔ ¬ sr_X6_digitOf (y 163 k) = -6) ∧ (0 ≤ sr_X3_digitAt z k → sr_X3_digitAt z k = sr_X6_digitOf (y 163 k)) := by
  unfold sr_X3_digitAt sr_X6_digitOf
  rw [h]
  by_cases c : (¬ (y 163 k < (nI (48))) ∧ (¬ ((nI (57)) < y 163 k)))
  · rw [if_pos c, if_pos c]
    obtain ⟨t, e, h1, h2⟩ := tb_rng c.1 c.2 (by decide) (by decide)
    have e3 : y 163 k - nI 48 = nI (t - 48) := by
      rw [e]
      obtain ⟨m, rfl⟩ : ∃ m, t = m + 48 := ⟨t - 48, by omega⟩
      rw [show m + 48 - 48 = m by omega, ← nI_add m 48]
      exact Int32.add_sub_cancel _ _
    rw [e3]
    refine ⟨⟨fun _ e4 => ?_, fun _ => nI_le (a := 0) (by omega) (by omega)⟩, fun _ => rfl⟩
    have : (nI (t - 48)).toInt = ((-6 : Int32)).toInt := by rw [e4]
    rw [nI_toInt (by omega)] at this
    have e6 : ((-6 : Int32)).toInt = -6 := by decide
    omega
  · rw [if_neg c, if_neg c]
    by_cases c2 : (¬ (y 163 k < (nI (97))) ∧ (¬ ((nI (102)) < y 163 k)))
    · rw [if_pos c2, if_pos c2]
      obtain ⟨t, e, h1, h2⟩ := tb_rng c2.1 c2.2 (by decide) (by decide)
      have e3 : y 163 k - nI 97 + nI 10 = nI (t - 97 + 10) := by
        rw [e]
        obtain ⟨m, rfl⟩ : ∃ m, t = m + 97 := ⟨t - 97, by omega⟩
        rw [show m + 97 - 97 = m by omega, ← nI_add m 97, ← nI_add m 10]
        congr 1
        exact Int32.add_sub_cancel _ _
      rw [e3]
      refine ⟨⟨fun _ e4 => ?_, fun _ => nI_le (a := 0) (by omega) (by omega)⟩, fun _ => rfl⟩
      have : (nI (t - 97 + 10)).toInt = ((-6 : Int32)).toInt := by rw [e4]
      rw [nI_toInt (by omega)] at this
      have e6 : ((-6 : Int32)).toInt = -6 := by decide
      omega
    · rw [if_neg c2, if_neg c2]
      exact ⟨⟨fun e => absurd e (by decide), fun e => absurd rfl e⟩, fun e => absurd e (by decide)⟩
theorem tb_tl_e (n : Nat) : tb_tl n = tb_tlM n := by
  unfold tb_tl tb_tlM
  by_cases c : n = 0
  · rw [if_pos c, if_pos (by omega)]
  · rw [if_neg c, if_neg (show ¬ n ≤ 0 by omega)]
    by_cases c2 : n % 2 = 1
    · rw [if_pos c2, if_neg (show ¬ n % 2 = 0 by omega)]
    · rw [if_neg c2, if_pos (show n % 2 = 0 by omega)]
theorem tb_ff_e {F G : Nat → Int32} {t : Int32} : ∀ k i, (∀ j, i ≤ j → j < i + k → (0 ≤ F j ↔ ¬ G j = -6)) → tb_ff F t k i = tb_fF G t k i
  | 0, _, _ => rfl
  | k + 1, i, h => by
    have hi := h i (by omega) (by omega)
    have ih := tb_ff_e (F := F) (G := G) (t := t) k (i + 1) (fun j h1 h2 => h j (by omega) (by omega))
    show (if 0 ≤ F i then tb_ff F t k (i + 1) else nI i) = (if G i = -6 then nI i else tb_fF G t k (i + 1))
    rw [ih]
    by_cases c : G i = -6
    · rw [if_pos c, if_neg (fun e => hi.mp e c)]
    · rw [if_neg c, if_pos (hi.mpr c)]
theorem tb_ff_ok {F : Nat → Int32} {t : Int32} : ∀ k i, i + k < 2 ^ 30 → tb_ff F t k i = -6 → ∀ j, i ≤ j → j < i + k → 0 ≤ F j
  | 0, i, _, _, j, h1, h2 => absurd h2 (by omega)
  | k + 1, i, hk, h, j, h1, h2 => by
    have h : (if 0 ≤ F i then tb_ff F t k (i + 1) else nI i) = -6 := h
    by_cases c : 0 ≤ F i
    · rw [if_pos c] at h
      by_cases e : j = i
      · rw [e]
        exact c
      · exact tb_ff_ok k (i + 1) (by omega) h j (by omega) (by omega)
    · rw [if_neg c] at h
      exfalso
      have : (nI i).toInt = ((-6 : Int32)).toInt := by rw [h]
      rw [nI_toInt (by omega)] at this
      have e6 : ((-6 : Int32)).toInt = -6 := by decide
      omega
theorem o_fault (h : tb_J z y N) : tb_ff (sr_X3_digitAt z) (tb_tl (tb_pl z)) (tb_pl z) 0 = tb_fF (fun i => sr_X6_digitOf (y 163 i)) (tb_tlM (tb_plM y)) (tb_plM y) 0 := by
  obtain ⟨h1, h2, h3, h4⟩ := h.2.2.2.2.okP
  rw [← h3, tb_tl_e]
  exact tb_ff_e _ _ (fun j _ hj => (tb_dig (h4 j (by omega))).1)
theorem tb_words_e (h : tb_J z y N) (hf : tb_ff (sr_X3_digitAt z) (tb_tl (tb_pl z)) (tb_pl z) 0 = -6) (hk : k < tb_pl z / 2) : sr_X3_wordAt z k = sr_X6_padWord y k := by
  obtain ⟨h1, h2, h3, h4⟩ := h.2.2.2.2.okP
  have hl := h1.2
  have ok := tb_ff_ok _ _ (by omega) hf
  unfold sr_X3_wordAt sr_X6_padWord
  rw [(tb_dig (h4 (2 * k) (by omega))).2 (ok _ (by omega) (by omega)), (tb_dig (h4 (2 * k + 1) (by omega))).2 (ok _ (by omega) (by omega))]
theorem o_padSum (h : tb_J z y N) : sr_X5_padSum z = sr_X6_padSum y := by
  have e := o_fault h
  have e3 := h.2.2.2.2.okP.2.2.1
  unfold sr_X5_padSum sr_X6_padSum
  rw [← e]
  by_cases c : tb_ff (sr_X3_digitAt z) (tb_tl (tb_pl z)) (tb_pl z) 0 = -6
  · rw [if_pos c, if_pos c, ← e3]
    exact tb_sm_c (fun i hi => tb_words_e h c hi)
  · rw [if_neg c, if_neg c]
theorem tb_J.pad (h : tb_J z y N) (hz : ∀ k, k ≠ 155 → k ≠ 156 → z' k = z k) (hy : ∀ k, k ≠ 157 → k ≠ 163 → y' k = y k) (h3 : y' 157 3 = y 157 3) (hP : tb_Pj z' y') : tb_J z' y' N := by
  obtain ⟨g1, g2, g3, g4, _⟩ := h
  refine ⟨g1.kk (fun k hk => hz k (by omega) (by omega)), ?_, g3.c (hz _ (by decide) (by decide)) (fun k _ _ => hz k (by omega) (by omega)) h3 (hy _ (by decide) (by decide)), g4.c (hz _ (by decide) (by decide)) (fun k _ _ => hz k (by omega) (by omega)) (hy _ (by decide) (by decide)) (hy _ (by decide) (by decide)), hP⟩
  rw [hy 158 (by decide) (by decide)]
  exact g2.cz (fun k _ _ => hz k (by omega) (by omega))
theorem o_wipe (h : tb_J z y N) : z 155 0 = y 157 7 ∧ tb_J (tb_up z 155 0 (nI 0)) (tb_up y 157 7 (nI 0)) N ∧ tb_fC z (tb_up z 155 0 (nI 0)) ∧ tb_fM y (tb_up y 157 7 (nI 0)) := by
  obtain ⟨n, p1, p2, _⟩ := h.2.2.2.2
  refine ⟨by rw [p1, p2], h.pad (fun k h1 h2 => tb_up_k _ _ _ h1) (fun k h1 h2 => tb_up_k _ _ _ h1) (tb_up_j _ _ _ (by decide)) ⟨0, tb_up_s _ _ _ _, tb_up_s _ _ _ _, by decide, fun i hi => absurd hi (Nat.not_lt_zero i)⟩, fun k hk => tb_up_k _ _ _ (by omega), fun k hk => tb_up_k _ _ _ (by omega)⟩
-- putting
theorem tb_puB_f : ∀ k (u : Int64), tb_puB k u false = false
  | 0, _ => rfl
  | k + 1, u => by
    show (if (u &&& (255 : Int64)) = ((0 : Int64)) then false else tb_puB k (tb_ushr u (nI 8)) (false && _)) = false
    rw [Bool.false_and, tb_puB_f k]
    by_cases c : (u &&& (255 : Int64)) = ((0 : Int64))
    · rw [if_pos c]
    · rw [if_neg c]
theorem tb_ci_e : ∀ k (u : Int64) f, tb_ci k u f = if tb_puB k u true = true ∧ tb_puY k u = 0 then tb_puF k u f else 0
  | 0, u, f => by
    show (if u = (0 : Int64) then f else 0) = if true = true ∧ u = 0 then f else 0
    by_cases c : u = 0
    · rw [if_pos c, if_pos ⟨rfl, c⟩]
    · rw [if_neg c, if_neg (fun e => c e.2)]
  | k + 1, u, f => by
    have ih := tb_ci_e k (tb_ushr u (nI 8)) (f + 1)
    show (if ¬ ((u &&& (255 : Int64)).toInt32 < nI 33) ∧ (¬ (nI 126 < (u &&& (255 : Int64)).toInt32)) then tb_ci k (tb_ushr u (nI 8)) (f + 1) else (if u = (0 : Int64) then f else 0)) = if (if (u &&& (255 : Int64)) = ((0 : Int64)) then true else tb_puB k (tb_ushr u (nI 8)) (true && decide (¬ (((u &&& (255 : Int64)).toInt32) < nI 33) ∧ (¬ (nI 126 < ((u &&& (255 : Int64)).toInt32)))))) = true ∧ (if (u &&& (255 : Int64)) = ((0 : Int64)) then u else tb_puY k (tb_ushr u (nI 8))) = 0 then (if (u &&& (255 : Int64)) = ((0 : Int64)) then f else tb_puF k (tb_ushr u (nI 8)) (f + 1)) else 0
    by_cases c0 : (u &&& (255 : Int64)) = ((0 : Int64))
    · have c1 : ¬ (¬ ((u &&& (255 : Int64)).toInt32 < nI 33) ∧ (¬ (nI 126 < (u &&& (255 : Int64)).toInt32))) := by
        rw [c0]
        decide
      rw [if_neg c1, if_pos c0, if_pos c0, if_pos c0]
      by_cases c : u = 0
      · rw [if_pos c, if_pos ⟨rfl, c⟩]
      · rw [if_neg c, if_neg (fun e => c e.2)]
    · rw [if_neg c0, if_neg c0, if_neg c0]
      by_cases c1 : ¬ ((u &&& (255 : Int64)).toInt32 < nI 33) ∧ (¬ (nI 126 < (u &&& (255 : Int64)).toInt32))
      · rw [if_pos c1, ih, Bool.true_and, decide_eq_true c1]
      · rw [if_neg c1, Bool.true_and, decide_eq_false c1, tb_puB_f]
        have c2 : ¬ u = 0 := by
          intro e
          apply c0
          rw [e]
          decide
        rw [if_neg c2, if_neg (fun e => absurd e.1 (by decide))]
theorem tb_ap_p (hl : y 157 3 = v) {u : Int64} (h0 : ∀ i, i < n → z 156 i = y 163 i) : ∀ j, (∀ i, i < n + j → tb_ap z u n b j 156 i = tb_apM y u n b j 163 i) ∧ (∀ k, k ≠ 155 → k ≠ 156 → tb_ap z u n b j k = z k) ∧ (∀ k, k ≠ 157 → k ≠ 163 → tb_apM y u n b j k = y k) ∧ tb_apM y u n b j 157 3 = v
  | 0 => ⟨h0, fun _ _ _ => rfl, fun _ _ _ => rfl, hl⟩
  | j + 1 => by
    obtain ⟨a1, a2, a3, a4⟩ := tb_ap_p hl (u := u) h0 j
    refine ⟨fun i hi => ?_, fun k h1 h2 => ?_, fun k h1 h2 => ?_, ?_⟩
    · show tb_up (tb_up (tb_ap z u n b j) 156 (n + j) _) 155 0 _ 156 i = tb_up (tb_up (tb_apM y u n b j) 163 (n + j) _) 157 7 _ 163 i
      rw [tb_up_k _ _ _ (by decide), tb_up_e, tb_up_k _ _ _ (by decide), tb_up_e]
      by_cases c : i = n + j
      · rw [if_pos c, if_pos c]
      · rw [if_neg c, if_neg c]
        exact a1 i (by omega)
    · show tb_up (tb_up (tb_ap z u n b j) 156 (n + j) _) 155 0 _ k = z k
      rw [tb_up_k _ _ _ h1, tb_up_k _ _ _ h2, a2 k h1 h2]
    · show tb_up (tb_up (tb_apM y u n b j) 163 (n + j) _) 157 7 _ k = y k
      rw [tb_up_k _ _ _ h1, tb_up_k _ _ _ h2, a3 k h1 h2]
    · show tb_up (tb_up (tb_apM y u n b j) 163 (n + j) _) 157 7 _ 157 3 = v
      rw [tb_up_j _ _ _ (by decide), tb_up_k _ _ _ (by decide), a4]
theorem o_put {u : Int64} (h : tb_J z y N) : sr_X5_put z u = sr_X6_put y u ∧ tb_J (sz_X5_put z u) (sz_X6_put y u) N ∧ tb_fC z (sz_X5_put z u) ∧ tb_fM y (sz_X6_put y u) := by
  obtain ⟨h1, h2, h3, h4⟩ := h.2.2.2.2.okP
  have hid : ∀ v : Int32, v = v ∧ tb_J z y N ∧ tb_fC z z ∧ tb_fM y y := fun v => ⟨rfl, h, tb_fC.rf, tb_fM.rf⟩
  unfold sr_X5_put sr_X6_put sz_X5_put sz_X6_put
  rw [tb_ci_e, ← h3]
  by_cases cF : tb_puF 8 u 0 = 0
  · have : (if tb_puB 8 u true = true ∧ tb_puY 8 u = 0 then tb_puF 8 u 0 else 0) = 0 := by
      rw [cF]
      split <;> rfl
    rw [this, if_pos rfl, if_pos rfl, if_pos cF, if_pos cF]
    exact hid _
  rw [if_neg cF, if_neg cF]
  by_cases cB : tb_puB 8 u true = true
  · rw [if_pos cB, if_pos cB]
    by_cases cY : tb_puY 8 u = 0
    · rw [if_pos cY, if_pos cY, if_pos (show tb_puB 8 u true = true ∧ tb_puY 8 u = 0 from ⟨cB, cY⟩), if_neg cF, if_neg cF]
      generalize tb_puF 8 u 0 = c at cF
      by_cases cl : c ≤ 64 - tb_pl z
      · have hl := h1.2
        rw [if_pos cl, if_pos cl, if_pos (by omega), if_pos (by omega)]
        obtain ⟨n, p1, p2, p3, p4⟩ := h.2.2.2.2
        have en : tb_pl z = n := by
          unfold tb_pl
          rw [p1, nI_clamp (by omega)]
        rw [en] at cl ⊢
        obtain ⟨a1, a2, a3, a4⟩ := tb_ap_p (v := y 157 3) rfl (b := c) (u := u) p4 c
        have e1 : tb_ap z u n c c 155 0 = nI (n + c) := by
          obtain ⟨m, rfl⟩ : ∃ m, c = m + 1 := ⟨c - 1, by omega⟩
          exact tb_up_s _ _ _ _
        have e2 : tb_apM y u n c c 157 7 = nI (n + c) := by
          obtain ⟨m, rfl⟩ : ∃ m, c = m + 1 := ⟨c - 1, by omega⟩
          exact tb_up_s _ _ _ _
        refine ⟨by rw [e1, e2], h.pad a2 a3 a4 ⟨n + c, e1, e2, by omega, a1⟩, fun k hk => a2 k (by omega) (by omega), fun k hk => a3 k (by omega) (by omega)⟩
      · rw [if_neg cl, if_neg cl, if_neg (by omega), if_neg (by omega)]
        exact hid _
    · rw [if_neg cY, if_neg cY, if_neg (show ¬ (tb_puB 8 u true = true ∧ tb_puY 8 u = 0) from fun e => cY e.2), if_pos rfl, if_pos rfl]
      exact hid _
  · rw [if_neg cB, if_neg cB, if_neg (show ¬ (tb_puB 8 u true = true ∧ tb_puY 8 u = 0) from fun e => cB e.1), if_pos rfl, if_pos rfl]
    exact hid _
end TBASKED
