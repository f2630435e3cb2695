/-! THE OPERATIONS, on both sides -/
def tb_fC (z z1 : tb_M) : Prop := ∀ k, 157 ≤ k → z1 k = z k
def tb_fM (y y1 : tb_M) : Prop := ∀ k, k < 157 → y1 k = y k
section TBOPS
variable {z z' z'' y y' y'' : tb_M} {a b d r p q j k N M n sl : Nat} {s s' : Nat → Int32} {v v' x w : Int32}
theorem tb_fC.rf : tb_fC z z := fun _ _ => rfl
theorem tb_fM.rf : tb_fM z z := fun _ _ => rfl
theorem tb_fC.tr (h : tb_fC z z') (h' : tb_fC z' z'') : tb_fC z z'' := fun k hk => (h' k hk).trans (h k hk)
theorem tb_fM.tr (h : tb_fM z z') (h' : tb_fM z' z'') : tb_fM z z'' := fun k hk => (h' k hk).trans (h k hk)
theorem tb_O.fC (hd : tb_isD d) (h : tb_O z z' d) : tb_fC z z' := fun k hk => h k (by have := hd.lt; omega)
theorem tb_Or.fM (h : tb_Or y y') : tb_fM y y' := fun k hk => h k (by omega)
theorem tb_rec_fC (z : tb_M) (rc : Nat) : tb_fC z (sz_X2_record z 0 rc) := fun k hk => tb_rec_k z 0 rc (Or.inr (by omega))
theorem tb_rec_fM (y : tb_M) : tb_fM y (tb_recM y) := fun k hk => tb_recM_k y (by omega)
theorem tb_J.nx (h : tb_J z z N) (hC : tb_fC z z') : tb_J z z' N := h.own (fun _ _ => rfl) (fun k hk => hC k hk)
theorem tb_J.nx2 (h : tb_J z' y' N) (hM : tb_fM z' y') : tb_J y' y' N := h.own (fun k hk => hM k hk) (fun _ _ => rfl)
theorem tb_rng {a b : Nat} (h : ¬ v < nI a) (h2 : ¬ nI b < v) (hb : b < 2 ^ 31) (ha : a < 2 ^ 31) : ∃ t, v = nI t ∧ a ≤ t ∧ t ≤ b := by
  have h0 : ¬ v < 0 := by
    intro c
    apply h
    rw [Int32.lt_iff_toInt_lt] at c ⊢
    rw [nI_toInt ha]
    have : (0 : Int32).toInt = 0 := rfl
    omega
  obtain ⟨t, ht, rfl⟩ := nI_of h0
  refine ⟨t, rfl, ?_, ?_⟩
  · rcases Nat.lt_or_ge t a with c | c
    · exact absurd (nI_lt c ha) h
    · exact c
  · rcases Nat.lt_or_ge b t with c | c
    · exact absurd (nI_lt c ht) h2
    · exact c
/-- a change of one slot behind a record -/
theorem tb_W.rec (h : tb_J z y N) (hN : N < 2 ^ 29) : tb_R (sz_X2_record z 0 (tb_rc z)) 0 (tb_recM y 158) (N + 1) := (h.rec hN).2.1
theorem tb_value {q : Nat} (hq : q < 3) : sp_X6_isValue q v ↔ (¬ v < nI 1 ∧ ¬ tb_mx q < v) := by
  unfold sp_X6_isValue tb_mx
  have : q = 0 ∨ q = 1 ∨ q = 2 := by omega
  rcases this with rfl | rfl | rfl
  · simp
  · simp
  · simp
theorem o_set (h : tb_J z y N) (hN : N + 1 < 2 ^ 29) (hq : q < 3) : sr_X5_set z q v = sr_X6_set y q v ∧ tb_J (sz_X5_set z q v) (sz_X6_set y q v) (N + 1) ∧ tb_fC z (sz_X5_set z q v) ∧ tb_fM y (sz_X6_set y q v) := by
  have hv := tb_value (v := v) hq
  have hJ := h.rec (by omega)
  unfold sr_X5_set sr_X6_set sz_X5_set sz_X6_set sz_X5_set_m1 sz_X6_set_m1
  by_cases c : sp_X6_isValue q v
  · rw [if_pos c, if_pos c, if_pos (hv.mp c), if_pos (hv.mp c)]
    have W := hJ.2.1
    have fC := tb_rec_fC z (tb_rc z)
    have fM := tb_rec_fM y
    generalize sz_X2_record z 0 (tb_rc z) = z1 at hJ W fC
    generalize tb_recM y = y1 at hJ W fM
    have hO : tb_O z1 (tb_up z1 1 q v) 0 := tb_O.rf.up (by omega)
    have hOr : tb_Or y1 (tb_up y1 158 q v) := tb_Or.rf.up
    have hj : ∀ j, j ≠ q → tb_up y1 158 q v 158 j = y1 158 j := fun j hj => tb_up_j _ _ _ hj
    refine ⟨(W.1.set hq).symm, hJ.dev hO hOr ?_ (Nat.le_refl _), fC.tr (hO.fC tb_D0), fM.tr hOr.fM⟩
    have R := W.1.us (v := v) (v' := v) hq rfl
    obtain ⟨_, ⟨a0, a1, a2, a3, a4, a5⟩, al, kp, e7, hal, e10, hkp, h2⟩ := W
    obtain ⟨b1, b2⟩ := hv.mp c
    refine ⟨R, ⟨?_, ?_, ?_, ?_, ?_, fun r hr => (a5 r hr).cs (fun p hp => hj _ (by omega))⟩, al, kp, by rw [hj 7 (by omega), e7], hal, by rw [hj 10 (by omega), e10], hkp, fun b' c' hb hc => ?_⟩
    · by_cases e : q = 0
      · subst e
        rw [tb_up_s]
        exact tb_rng (a := 1) (b := 9) b1 b2 (by decide) (by decide)
      · rw [hj 0 (by omega)]
        exact a0
    · by_cases e : q = 1
      · subst e
        rw [tb_up_s]
        exact tb_rng (a := 1) (b := 99) b1 b2 (by decide) (by decide)
      · rw [hj 1 (by omega)]
        exact a1
    · by_cases e : q = 2
      · subst e
        rw [tb_up_s]
        exact tb_rng (a := 1) (b := 60) b1 b2 (by decide) (by decide)
      · rw [hj 2 (by omega)]
        exact a2
    · rw [hj 3 (by omega)]
      exact a3
    · rw [hj 4 (by omega)]
      exact a4
    · rw [hj _ (by omega), tb_up_k _ _ _ (by omega)]
      exact h2 b' c' hb hc
  · rw [if_neg c, if_neg c, if_neg (fun e => c (hv.mpr e)), if_neg (fun e => c (hv.mpr e))]
    exact ⟨rfl, h.mono (by omega), tb_fC.rf, tb_fM.rf⟩
/-- what belongs to a slot, and is changed behind a record -/
theorem tb_J.slot (h : tb_J z y N) (hsl : sl < 2) (hO : tb_O z z' 0) (hOr : tb_Or y y') (hR : tb_R1 z' 0 (y' 158)) (hj : ∀ j, (j < 11 + 46 * sl ∨ 57 + 46 * sl ≤ j) → y' 158 j = y 158 j) (hk : ∀ k, 11 ≤ k → k < 15 → z' k = z k) (hs : tb_oks (y' 158) sl) : tb_J z' y' N := by
  refine h.dev hO hOr (h.2.1.ch hR (fun j hj' => hj j (by omega)) (hj 7 (by omega)) (hj 10 (by omega)) (fun j hj' => hj j (by omega)) ?_ (fun r hr => ?_) (fun c hc => hk _ (by omega) (by omega)) (Nat.le_refl _)) (Nat.le_refl _)
  · obtain ⟨t, a, b⟩ := h.2.1.2.1.2.2.2.2.1
    exact ⟨t, by rw [hj 4 (by omega), a], b⟩
  · by_cases e : r = sl
    · rw [e]
      exact hs
    · exact (h.2.1.2.1.2.2.2.2.2 r hr).cs (fun p hp => hj _ (by omega))
theorem tb_J.okF (h : tb_J z y N) (hsl : sl < 2) : tb_okF z (tb_at 0 sl) ∧ tb_okFM y sl ∧ tb_len z (tb_at 0 sl) = tb_lm y sl ∧ tb_fl z (tb_at 0 sl) = tb_fm y sl := by
  have hs := h.2.1.2.1.2.2.2.2.2 sl hsl
  refine ⟨hs.L h.2.1.1 hsl, hs.LM, ?_, ?_⟩
  · unfold tb_len tb_lm
    rw [h.2.1.1.a hsl (by decide)]
  · unfold tb_fl tb_fm
    rw [h.2.1.1.a hsl (by decide)]
theorem tb_rec_fm (y : tb_M) (r : Nat) : tb_fm (tb_recM y) r = tb_fm y r := by
  unfold tb_fm
  rw [tb_rec_M]
theorem tb_rec_lm (y : tb_M) (r : Nat) : tb_lm (tb_recM y) r = tb_lm y r := by
  unfold tb_lm
  rw [tb_rec_M]
theorem tb_at_l0 (hsl : sl < 2) : tb_at 0 sl = 2 ∨ tb_at 0 sl = 5 := by
  have := tb_at_in 0 hsl
  omega
theorem o_fill (h : tb_J z y N) (hN : N + 1 < 2 ^ 29) (hsl : sl < 2) : sr_X5_fill z sl w = sr_X6_fill y sl w ∧ tb_J (sz_X5_fill z sl w) (sz_X6_fill y sl w) (N + 1) ∧ tb_fC z (sz_X5_fill z sl w) ∧ tb_fM y (sz_X6_fill y sl w) := by
  have hJ := h.rec (by omega)
  obtain ⟨hF, hFM, el, ef⟩ := h.okF hsl
  have hst := h.2.1.1.a hsl (p := 0) (by decide)
  have hid : ∀ v : Int32, v = v ∧ tb_J z y (N + 1) ∧ tb_fC z z ∧ tb_fM y y := fun v => ⟨rfl, h.mono (by omega), tb_fC.rf, tb_fM.rf⟩
  unfold sr_X5_fill sr_X6_fill sz_X5_fill sz_X6_fill sz_X5_fill_m1 sz_X6_fill_m1 sz_X6_fills
  rw [el, ef, hst]
  by_cases c : (¬ (w < (nI (0))) ∧ (¬ ((nI (255)) < w)))
  · rw [if_pos c, if_pos c, if_pos c, if_pos c]
    by_cases c2 : z (tb_at 0 sl) 0 = nI 1
    · rw [if_pos c2, if_pos c2, if_pos c2, if_pos c2]
      by_cases c3 : tb_lm y sl - tb_fm y sl = 0
      · rw [if_pos c3, if_pos c3, if_pos c3, if_pos c3]
        exact hid _
      · rw [if_neg c3, if_neg c3, if_neg c3, if_neg c3]
        have hs := hJ.2.1.2.1.2.2.2.2.2 sl hsl
        have W := hJ.2.1.1
        have fC := tb_rec_fC z (tb_rc z)
        have fM := tb_rec_fM y
        have ef2 := tb_rec_fm y sl
        have el2 := tb_rec_lm y sl
        have hl := hFM.1.2
        have ha := tb_at_l0 hsl
        generalize tb_fm y sl = f at c3 ef2
        generalize tb_lm y sl = l at c3 el2 hl
        generalize sz_X2_record z 0 (tb_rc z) = z1 at hJ W fC
        generalize tb_recM y = y1 at hJ W fM hs ef2 el2
        have hf : f < 32 := by omega
        have hO : tb_O z1 (tb_up (tb_up z1 (tb_at 0 sl + 1) f w) (tb_at 0 sl) 5 (nI (f + 1))) 0 := (tb_O.rf.up (by omega)).up (by omega)
        have hOr : tb_Or y1 (tb_up (tb_up y1 158 (11 + 46 * sl + (14 + f)) w) 158 (11 + 46 * sl + 5) (nI (f + 1))) := tb_Or.rf.up.up
        refine ⟨by rw [tb_up_s, tb_up_s], hJ.slot hsl hO hOr ((W.uw hsl hf rfl).ua hsl (by decide) rfl) (fun j hj => ?_) (fun k h1 h2 => ?_) ?_, fC.tr (hO.fC tb_D0), fM.tr hOr.fM⟩
        · rw [tb_up_j _ _ _ (by omega), tb_up_j _ _ _ (by omega)]
        · rw [tb_up_k _ _ _ (by omega), tb_up_k _ _ _ (by omega)]
        · obtain ⟨l', f', t, e1, e2, e3, e4, e5, e6, e7, e8⟩ := hs
          have hl' : l' = l := by
            rw [← el2]
            unfold tb_lm
            rw [e1, nI_clamp (by omega)]
          have hf' : f' = f := by
            rw [← ef2]
            unfold tb_fm
            rw [e3, nI_clamp (by omega)]
          refine ⟨l', f + 1, t, ?_, e2, tb_up_s _ _ _ _, by omega, ?_, e6, fun e => e7 ?_, fun q hq => by rw [tb_up_j _ _ _ (by omega), tb_up_j _ _ _ (by omega)]; exact e8 q hq⟩
          · rw [tb_up_j _ _ _ (by omega), tb_up_j _ _ _ (by omega), e1]
          · rw [tb_up_j _ _ _ (by omega), tb_up_j _ _ _ (by omega), e5]
          · rw [← e, tb_up_j _ _ _ (by omega), tb_up_j _ _ _ (by omega)]
    · rw [if_neg c2, if_neg c2, if_neg c2, if_neg c2]
      exact hid _
  · rw [if_neg c, if_neg c, if_neg c, if_neg c]
    exact hid _
theorem o_damage {w : Nat} (h : tb_J z y N) (hN : N + 1 < 2 ^ 29) (hsl : sl < 2) (hw : w < 32) : sr_X5_damage z sl w v = sr_X6_damage y sl w v ∧ tb_J (sz_X5_damage z sl w v) (sz_X6_damage y sl w v) (N + 1) ∧ tb_fC z (sz_X5_damage z sl w v) ∧ tb_fM y (sz_X6_damage y sl w v) := by
  have hJ := h.rec (by omega)
  unfold sr_X5_damage sr_X6_damage sz_X5_damage sz_X6_damage sz_X5_damage_m1 sz_X6_damage_m1
  by_cases c : (¬ (v < (nI (1))) ∧ (¬ ((nI (255)) < v)))
  · rw [if_pos c, if_pos c, if_pos c, if_pos c]
    have hs := hJ.2.1.2.1.2.2.2.2.2 sl hsl
    have W := hJ.2.1.1
    have fC := tb_rec_fC z (tb_rc z)
    have fM := tb_rec_fM y
    have ha := tb_at_l0 hsl
    generalize sz_X2_record z 0 (tb_rc z) = z1 at hJ W fC
    generalize tb_recM y = y1 at hJ W fM hs
    have hO : tb_O z1 (tb_up z1 (tb_at 0 sl + 1) w (z1 (tb_at 0 sl + 1) w ^^^ v)) 0 := tb_O.rf.up (by omega)
    have hOr : tb_Or y1 (tb_up y1 158 (11 + 46 * sl + (14 + w)) (y1 158 (11 + 46 * sl + (14 + w)) ^^^ v)) := tb_Or.rf.up
    refine ⟨by rw [tb_up_s, tb_up_s, W.ww hsl hw], hJ.slot hsl hO hOr (W.uw hsl hw (by rw [W.ww hsl hw])) (fun j hj => tb_up_j _ _ _ (by omega)) (fun k h1 h2 => tb_up_k _ _ _ (by omega)) (hs.cs (fun p hp => tb_up_j _ _ _ (by omega))), fC.tr (hO.fC tb_D0), fM.tr hOr.fM⟩
  · rw [if_neg c, if_neg c, if_neg c, if_neg c]
    exact ⟨rfl, h.mono (by omega), tb_fC.rf, tb_fM.rf⟩
theorem o_start {qq : Prop} [Decidable qq] (h : tb_J z y N) (hN : N + 2 < 2 ^ 29) : sr_X5_start z qq = (sz_X6_start_m1 y qq) 158 3 ∧ tb_J (sz_X5_start z qq) (sz_X6_start_m1 y qq) (N + 2) ∧ tb_fC z (sz_X5_start z qq) ∧ tb_fM y (sz_X6_start_m1 y qq) := by
  have hJ := h.rec (by omega)
  have S := tb_started (x := nI (if qq then 2 else 0)) (hJ.1 0 tb_D0) hJ.2.1 (by omega)
  unfold sr_X5_start sz_X5_start sz_X6_start_m1 sz_X5_start_m1
  exact ⟨S.1.1.d3.symm, hJ.dev S.2.1 S.2.2 S.1 (by omega), (tb_rec_fC z (tb_rc z)).tr (S.2.1.fC tb_D0), (tb_rec_fM y).tr S.2.2.fM⟩
theorem o_pass {t : Nat} (h : tb_J z y N) (hN : N + 1001 < 2 ^ 29) (ht : t ≤ 500) : (∀ i, i < t → tb_okT (tb_lpZ (sz_X2_record z 0 (tb_rc z)) 0 i) 0) ∧ (∀ i, i < t → tb_okTM (tb_mpZ (tb_recM y) i)) ∧ tb_lpN (sz_X2_record z 0 (tb_rc z)) 0 t = tb_mpN (tb_recM y) t ∧ tb_J (tb_lpZ (sz_X2_record z 0 (tb_rc z)) 0 t) (tb_mpZ (tb_recM y) t) (N + 1001) ∧ tb_fC z (tb_lpZ (sz_X2_record z 0 (tb_rc z)) 0 t) ∧ tb_fM y (tb_mpZ (tb_recM y) t) := by
  have hJ := h.rec (by omega)
  have hg := hJ.1 0 tb_D0
  have P := fun i (hi : i ≤ 500) => tb_passed hg hJ.2.1 i (by omega)
  obtain ⟨a, b, c, e⟩ := P t ht
  refine ⟨fun i hi => (P i (by omega)).1.okT ((P i (by omega)).2.1.gold hg) (by omega), fun i hi => (P i (by omega)).1.okTM, e, hJ.dev b c (a.mono (by omega)) (by omega), (tb_rec_fC z (tb_rc z)).tr (b.fC tb_D0), (tb_rec_fM y).tr c.fM⟩
end TBOPS
