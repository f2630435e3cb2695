/-! THE CHOICE of the area that is started -/
def tb_Q (z : tb_M) (d : Nat) (y : tb_M) : Prop := tb_R1 z d (y 158) ∧ tb_gold z d ∧ (∀ r, r < 2 → z (tb_at d r) 0 = nI 2 → ¬ z (tb_at d r) 4 ≤ 0) ∧ ∀ r, r < 2 → ∃ l, z (tb_at d r) 2 = nI l ∧ l ≤ 32
section TBCHOICE
variable {z z' y y' : tb_M} {d r p q j k N n : Nat} {s s' : Nat → Int32} {v v' x : Int32}
theorem tb_canT (h : tb_Q z d y) (hr : r < 2) : sp_X6_canBe y r (nI 2) ↔ z (tb_at d r) 0 = nI 2 := by
  have h1 := h.1.a hr (p := 0) (by decide)
  have h2 := h.1.a hr (p := 4) (by decide)
  constructor
  · intro c
    rw [← h1]
    exact c.1
  · intro c
    refine ⟨by rw [h1]; exact c, Or.inr ?_⟩
    rw [h2]
    exact h.2.2.1 r hr c
theorem tb_canC (h : tb_Q z d y) (hr : r < 2) : sp_X6_canBe y r (nI 3) ↔ z (tb_at d r) 0 = nI 3 := by
  have h1 := h.1.a hr (p := 0) (by decide)
  constructor
  · intro c
    rw [← h1]
    exact c.1
  · intro c
    exact ⟨by rw [h1]; exact c, Or.inl rfl⟩
theorem tb_newest (h : tb_Q z d y) (hc : ∀ r, r < 2 → (sp_X6_canBe y r x ↔ z (tb_at d r) 0 = x)) : sr_X1_newestThatIs z d x = tb_gr y x := by
  have a0 := hc 0 (by decide)
  have a1 := hc 1 (by decide)
  have v0 := h.1.a (r := 0) (p := 1) (by decide) (by decide)
  have v1 := h.1.a (r := 1) (p := 1) (by decide) (by decide)
  rw [tb_at_0] at a0 v0
  rw [tb_at_1] at a1 v1
  unfold sr_X1_newestThatIs tb_gr
  rw [v0, v1]
  by_cases h1 : z (d + 5) 0 = x
  · by_cases h0 : z (d + 2) 0 = x
    · rw [if_pos h1, if_pos h0, if_pos h0, if_pos (a0.mpr h0), if_pos (a1.mpr h1)]
    · rw [if_pos h1, if_neg h0, if_neg (fun c => h0 (a0.mp c)), if_pos (a1.mpr h1)]
  · by_cases h0 : z (d + 2) 0 = x
    · rw [if_neg h1, if_pos h0, if_pos (a0.mpr h0), if_neg (fun c => h1 (a1.mp c))]
    · rw [if_neg h1, if_neg h0, if_neg (fun c => h0 (a0.mp c)), if_neg (fun c => h1 (a1.mp c))]
theorem tb_best (h : tb_Q z d y) : sr_X1_bestArea z d = tb_ch y := by
  unfold sr_X1_bestArea tb_ch
  rw [tb_newest h (fun r hr => tb_canT h hr), tb_newest h (fun r hr => tb_canC h hr)]
theorem tb_gr_lt (y : tb_M) (x : Int32) : tb_gr y x ≤ 2 ∧ (∀ r, r < 2 → tb_gr y x = r → sp_X6_canBe y r x) ∧ (tb_gr y x = 2 → ∀ r, r < 2 → ¬ sp_X6_canBe y r x) := by
  unfold tb_gr
  by_cases h0 : sp_X6_canBe y 0 x
  · by_cases h1 : sp_X6_canBe y 1 x
    · have hall : ∀ r, r < 2 → sp_X6_canBe y r x := by
        intro r hr
        have : r = 0 ∨ r = 1 := by omega
        rcases this with rfl | rfl
        · exact h0
        · exact h1
      rw [if_pos h0, if_pos h1]
      by_cases hv : y 158 ((11 + (46 * 1)) + 1) ≤ y 158 ((11 + (46 * 0)) + 1)
      · rw [if_pos hv]
        exact ⟨by decide, fun r hr _ => hall r hr, fun c => absurd c (by decide)⟩
      · rw [if_neg hv]
        exact ⟨by decide, fun r hr _ => hall r hr, fun c => absurd c (by decide)⟩
    · rw [if_pos h0, if_neg h1]
      exact ⟨by decide, fun r hr e => by subst e; exact h0, fun c => absurd c (by decide)⟩
  · by_cases h1 : sp_X6_canBe y 1 x
    · rw [if_neg h0, if_pos h1]
      exact ⟨by decide, fun r hr e => by subst e; exact h1, fun c => absurd c (by decide)⟩
    · rw [if_neg h0, if_neg h1]
      refine ⟨by decide, fun r hr e => by omega, fun _ r hr => ?_⟩
      have : r = 0 ∨ r = 1 := by omega
      rcases this with rfl | rfl
      · exact h0
      · exact h1
theorem tb_ch_lt (y : tb_M) : tb_ch y ≤ 2 := by
  unfold tb_ch
  by_cases h : tb_gr y (nI 2) = 2
  · rw [if_pos h]
    exact (tb_gr_lt y _).1
  · rw [if_neg h]
    exact (tb_gr_lt y _).1
theorem tb_ch_st (hr : r < 2) (h : tb_ch y = r) : y 158 (11 + 46 * r + 0) = nI 2 ∨ y 158 (11 + 46 * r + 0) = nI 3 := by
  unfold tb_ch at h
  by_cases c : tb_gr y (nI 2) = 2
  · rw [if_pos c] at h
    exact Or.inr ((tb_gr_lt y (nI 3)).2.1 r hr h).1
  · rw [if_neg c] at h
    exact Or.inl ((tb_gr_lt y (nI 2)).2.1 r hr h).1
theorem tb_Q.lm (h : tb_Q z d y) (hr : r < 2) : tb_lm y r = tb_len z (tb_at d r) := by
  unfold tb_lm tb_len
  rw [h.1.a hr (p := 2) (by decide)]
theorem tb_Q.len (h : tb_Q z d y) (hr : r < 2) : tb_len z (tb_at d r) ≤ 32 := by
  obtain ⟨l, h1, h2⟩ := h.2.2.2 r hr
  unfold tb_len
  rw [h1, nI_clamp (by omega)]
  exact h2
theorem tb_snd (h : tb_Q z d y) (hr : r < 2) : sp_X6_isSound y r ↔ tb_sm (z (tb_at d r + 1)) (tb_len z (tb_at d r)) = z (tb_at d r) 3 := by
  have h1 : tb_sm (sr_X6_wordOf y r) (tb_lm y r) = tb_sm (z (tb_at d r + 1)) (tb_len z (tb_at d r)) := by
    rw [h.lm hr]
    refine tb_sm_c (fun i hi => ?_)
    have := h.len hr
    unfold sr_X6_wordOf
    rw [if_neg (by omega), h.1.ww hr (by omega)]
  unfold sp_X6_isSound
  rw [h1, h.1.a hr (by decide)]
theorem tb_at_in (d : Nat) {r : Nat} (hr : r < 2) : tb_at d r = d + 2 ∨ tb_at d r = d + 5 := by
  have : r = 0 ∨ r = 1 := by omega
  rcases this with rfl | rfl
  · exact Or.inl rfl
  · exact Or.inr rfl
theorem tb_at_n2 (d : Nat) {r' r : Nat} (hr' : r' < 2) (hr : r < 2) (e : r' ≠ r) : tb_at d r' ≠ tb_at d r := by
  have h1 : r' = 0 ∨ r' = 1 := by omega
  have h2 : r = 0 ∨ r = 1 := by omega
  rcases h1 with rfl | rfl
  · rcases h2 with rfl | rfl
    · exact absurd rfl e
    · rw [tb_at_0, tb_at_1]; omega
  · rcases h2 with rfl | rfl
    · rw [tb_at_0, tb_at_1]; omega
    · exact absurd rfl e
theorem tb_Q.mark (h : tb_Q z d y) (hr : r < 2) : tb_Q (tb_up z (tb_at d r) 0 (nI 4)) d (tb_up y 158 (11 + 46 * r + 0) (nI 4)) := by
  have ha := tb_at_in d hr
  refine ⟨h.1.ua hr (by decide) rfl, h.2.1.c (tb_up_k _ _ _ (by omega)) (tb_up_k _ _ _ (by omega)), fun r' hr' => ?_, fun r' hr' => ?_⟩
  · by_cases e : r' = r
    · subst e
      rw [tb_up_s]
      exact fun c => absurd c (by decide)
    · rw [tb_up_k _ _ _ (tb_at_n2 d hr' hr e)]
      exact h.2.2.1 r' hr'
  · by_cases e : r' = r
    · subst e
      rw [tb_up_j _ _ _ (by decide)]
      exact h.2.2.2 r' hr'
    · rw [tb_up_k _ _ _ (tb_at_n2 d hr' hr e)]
      exact h.2.2.2 r' hr'
/-- the reference's choice, of any memory -/
def tb_cv (y : tb_M) : Nat := if tb_ch y = 2 then tb_ch y else (if (sp_X6_isSound y (tb_ch y)) then tb_ch y else (if tb_ch (tb_up y 158 ((11 + (46 * (tb_ch y))) + 0) (nI (4))) = 2 then tb_ch (tb_up y 158 ((11 + (46 * (tb_ch y))) + 0) (nI (4))) else (if (sp_X6_isSound (tb_up y 158 ((11 + (46 * (tb_ch y))) + 0) (nI (4))) (tb_ch (tb_up y 158 ((11 + (46 * (tb_ch y))) + 0) (nI (4))))) then tb_ch (tb_up y 158 ((11 + (46 * (tb_ch y))) + 0) (nI (4))) else tb_ch (tb_up (tb_up y 158 ((11 + (46 * (tb_ch y))) + 0) (nI (4))) 158 ((11 + (46 * (tb_ch (tb_up y 158 ((11 + (46 * (tb_ch y))) + 0) (nI (4)))))) + 0) (nI (4))))))
def tb_cm (y : tb_M) : tb_M := if tb_ch y = 2 then y else (if (sp_X6_isSound y (tb_ch y)) then y else (if tb_ch (tb_up y 158 ((11 + (46 * (tb_ch y))) + 0) (nI (4))) = 2 then (tb_up y 158 ((11 + (46 * (tb_ch y))) + 0) (nI (4))) else (if (sp_X6_isSound (tb_up y 158 ((11 + (46 * (tb_ch y))) + 0) (nI (4))) (tb_ch (tb_up y 158 ((11 + (46 * (tb_ch y))) + 0) (nI (4))))) then (tb_up y 158 ((11 + (46 * (tb_ch y))) + 0) (nI (4))) else (tb_up (tb_up y 158 ((11 + (46 * (tb_ch y))) + 0) (nI (4))) 158 ((11 + (46 * (tb_ch (tb_up y 158 ((11 + (46 * (tb_ch y))) + 0) (nI (4)))))) + 0) (nI (4))))))
theorem tb_cv_e (y : tb_M) (x : Int32) : sv_X6_starts_v1 y x = tb_cv (sz_X6_starts_m4 y x) := rfl
theorem tb_cm_e (y : tb_M) (x : Int32) : sz_X6_starts_m5 y x = tb_cm (sz_X6_starts_m4 y x) := rfl
theorem tb_cm_ind {P : tb_M → Prop} (hm : ∀ y r, r < 2 → P y → P (tb_up y 158 (11 + 46 * r + 0) (nI 4))) (h : P y) : P (tb_cm y) := by
  unfold tb_cm
  by_cases h1 : tb_ch y = 2
  · rw [if_pos h1]
    exact h
  rw [if_neg h1]
  have hr : tb_ch y < 2 := by have := tb_ch_lt y; omega
  by_cases h2 : sp_X6_isSound y (tb_ch y)
  · rw [if_pos h2]
    exact h
  rw [if_neg h2]
  have hp := hm y _ hr h
  generalize tb_up y 158 (11 + 46 * tb_ch y + 0) (nI 4) = y1 at hp
  by_cases h3 : tb_ch y1 = 2
  · rw [if_pos h3]
    exact hp
  rw [if_neg h3]
  have hr' : tb_ch y1 < 2 := by have := tb_ch_lt y1; omega
  by_cases h4 : sp_X6_isSound y1 (tb_ch y1)
  · rw [if_pos h4]
    exact hp
  rw [if_neg h4]
  exact hm y1 _ hr' hp
theorem tb_choice (h : tb_Q z d y) : sr_X1_soundArea z d = tb_cv y ∧ tb_cv y ≤ 2 ∧ tb_Q (sz_X1_soundArea z d) d (tb_cm y) ∧ ∀ P : tb_M → Prop, (∀ z r, r < 2 → P z → P (tb_up z (tb_at d r) 0 (nI 4))) → P z → P (sz_X1_soundArea z d) := by
  have hb := tb_best h
  have hl := tb_ch_lt y
  unfold sr_X1_soundArea sz_X1_soundArea tb_cv tb_cm
  rw [hb]
  generalize hr : tb_ch y = r at hl
  by_cases h2 : r = 2
  · subst h2
    rw [tb_at_2, if_pos h.2.1.snd, if_pos rfl, if_pos h.2.1.snd, if_pos rfl]
    exact ⟨rfl, by decide, h, fun P _ hp => hp⟩
  have hr2 : r < 2 := by omega
  rw [if_neg h2, if_neg h2]
  by_cases hs : sp_X6_isSound y r
  · rw [if_pos hs, if_pos hs, if_pos ((tb_snd h hr2).mp hs), if_pos ((tb_snd h hr2).mp hs)]
    exact ⟨rfl, hl, h, fun P _ hp => hp⟩
  rw [if_neg hs, if_neg hs, if_neg (fun c => hs ((tb_snd h hr2).mpr c)), if_neg (fun c => hs ((tb_snd h hr2).mpr c))]
  have hq := h.mark hr2
  have hb' := tb_best hq
  have hl' := tb_ch_lt (tb_up y 158 (11 + 46 * r + 0) (nI 4))
  have hne : r < 2 → tb_ch (tb_up y 158 (11 + 46 * r + 0) (nI 4)) = r → False := by
    intro _ c
    have := tb_ch_st hr2 c
    rw [tb_up_s] at this
    rcases this with c | c
    · exact absurd c (by decide)
    · exact absurd c (by decide)
  rw [hb']
  generalize hk : tb_up z (tb_at d r) 0 (nI 4) = z1 at hq hb'
  generalize hw : tb_up y 158 (11 + 46 * r + 0) (nI 4) = y1 at hq hb' hl' hne
  generalize ht : tb_ch y1 = t at hl' hne
  by_cases h3 : t = 2
  · subst h3
    rw [tb_at_2, if_pos hq.2.1.snd, if_pos rfl, if_pos hq.2.1.snd, if_pos rfl]
    exact ⟨rfl, by decide, hq, fun P hm hp => by rw [← hk]; exact hm _ r hr2 hp⟩
  have ht2 : t < 2 := by omega
  rw [if_neg h3, if_neg h3]
  by_cases hs' : sp_X6_isSound y1 t
  · rw [if_pos hs', if_pos hs', if_pos ((tb_snd hq ht2).mp hs'), if_pos ((tb_snd hq ht2).mp hs')]
    exact ⟨rfl, hl', hq, fun P hm hp => by rw [← hk]; exact hm _ r hr2 hp⟩
  rw [if_neg hs', if_neg hs', if_neg (fun c => hs' ((tb_snd hq ht2).mpr c)), if_neg (fun c => hs' ((tb_snd hq ht2).mpr c))]
  have hq2 := hq.mark ht2
  have hl2 := tb_ch_lt (tb_up y1 158 (11 + 46 * t + 0) (nI 4))
  have hrt : t ≠ r := fun e => hne hr2 (by rw [e])
  have h4 : tb_ch (tb_up y1 158 (11 + 46 * t + 0) (nI 4)) = 2 := by
    by_cases c : tb_ch (tb_up y1 158 (11 + 46 * t + 0) (nI 4)) = 2
    · exact c
    · exfalso
      have c2 : tb_ch (tb_up y1 158 (11 + 46 * t + 0) (nI 4)) < 2 := by omega
      have c3 := tb_ch_st c2 rfl
      generalize tb_ch (tb_up y1 158 (11 + 46 * t + 0) (nI 4)) = u at c2 c3
      have hu : u = t ∨ u = r := by omega
      rcases hu with rfl | rfl
      · rw [tb_up_s] at c3
        rcases c3 with c | c
        · exact absurd c (by decide)
        · exact absurd c (by decide)
      · rw [tb_up_j _ _ _ (by omega), ← hw, tb_up_s] at c3
        rcases c3 with c | c
        · exact absurd c (by decide)
        · exact absurd c (by decide)
  refine ⟨h4.symm, by rw [h4]; exact Nat.le_refl 2, hq2, fun P hm hp => hm _ t ht2 (by rw [← hk]; exact hm _ r hr2 hp)⟩
end TBCHOICE
