/-! A START, on both sides: the two stay together -/
section TBSTARTED
variable {z z' z'' y y' y'' : tb_M} {d r p q j k N n : Nat} {s s' : Nat → Int32} {v v' x : Int32}
/-- the reference's first half of a start, of any memory -/
theorem tb_use_sw (z : tb_M) {a : Nat} (h : a ≠ d) : sz_X0_useTry_m1 (tb_up z d j v) a = tb_up (sz_X0_useTry_m1 z a) d j v := by
  unfold sz_X0_useTry_m1
  rw [tb_up_k _ _ _ h]
  by_cases c : z a 0 = nI 2
  · rw [if_pos c, if_pos c, tb_up_sw _ _ _ (Or.inl (Ne.symm h))]
  · rw [if_neg c, if_neg c]
/-- the class: what lies in the memory ahead of the start's own row -/
def tb_e1 (z : tb_M) (d : Nat) (x : Int32) : tb_M := sz_X0_useTry_m1 (sz_X1_soundArea (sz_X1_startBy_m2 z d x) d) (tb_at d (sr_X1_soundArea (sz_X1_startBy_m2 z d x) d))
theorem tb_e1_m3 (z : tb_M) (d : Nat) (x : Int32) : sz_X1_startBy_m3 z d x = tb_up (tb_up (tb_up (tb_e1 z d x) d 5 (nI (sr_X1_soundArea (sz_X1_startBy_m2 z d x) d))) d 6 (nI 0)) d 7 (nI 0) := by
  unfold sz_X1_startBy_m3 tb_e1
  rw [tb_use_sw]
  have : tb_at d (sr_X1_soundArea (sz_X1_startBy_m2 z d x) d) = d + 2 ∨ tb_at d (sr_X1_soundArea (sz_X1_startBy_m2 z d x) d) = d + 5 ∨ tb_at d (sr_X1_soundArea (sz_X1_startBy_m2 z d x) d) = d + 8 := by
    unfold tb_at
    split
    · exact Or.inl rfl
    · split
      · exact Or.inr (Or.inl rfl)
      · exact Or.inr (Or.inr rfl)
  omega
theorem tb_m2_O : tb_O z (sz_X1_startBy_m2 z d x) d := by
  rw [tb_m2_n]
  exact (tb_O.rf.up (by omega)).up (by omega)
theorem tb_m2_k (h2 : k ≠ d + 2) (h5 : k ≠ d + 5) : sz_X1_startBy_m2 z d x k = z k := by
  rw [tb_m2_n, tb_up_k _ _ _ h5, tb_up_k _ _ _ h2]
theorem tb_M4_j (h0 : j ≠ 11) (h1 : j ≠ 57) : sz_X6_starts_m4 y x 158 j = y 158 j := by
  rw [tb_M4_n, tb_up_j _ _ _ (by omega), tb_up_j _ _ _ (by omega)]
theorem tb_M4_or : tb_Or y (sz_X6_starts_m4 y x) := by
  rw [tb_M4_n]
  exact tb_Or.rf.up.up
/-- both sides after the choice and the try -/
theorem tb_tried (hg : tb_gold z d) (h : tb_R1 z d (y 158)) (hs : ∀ r, r < 2 → tb_oks (y 158) r) :
    sr_X1_soundArea (sz_X1_startBy_m2 z d x) d = sv_X6_starts_v1 y x ∧ sv_X6_starts_v1 y x ≤ 2 ∧ tb_R1 (tb_e1 z d x) d (sz_X6_starts_m6 y x 158) ∧ (∀ r, r < 2 → tb_oks (sz_X6_starts_m6 y x 158) r) ∧ tb_O z (tb_e1 z d x) d ∧ tb_Or y (sz_X6_starts_m6 y x) ∧ (∀ k, k = d ∨ d + 11 ≤ k → tb_e1 z d x k = z k) ∧ (∀ j, (j < 11 ∨ 103 ≤ j) → sz_X6_starts_m6 y x 158 j = y 158 j) := by
  have hQ := tb_M4_Q (x := x) hg h hs
  obtain ⟨hv, hl, hq, hP⟩ := tb_choice hQ
  have ho := tb_cm_oks (tb_M4_oks (x := x) hs)
  have hO : tb_O z (sz_X1_soundArea (sz_X1_startBy_m2 z d x) d) d := tb_m2_O.tr (hP (fun u => tb_O (sz_X1_startBy_m2 z d x) u d) (fun u r hr hp => hp.up (by have := tb_at_in d hr; omega)) tb_O.rf)
  have hOr : tb_Or y (tb_cm (sz_X6_starts_m4 y x)) := tb_M4_or.tr (tb_cm_or _)
  have hk : ∀ k, k = d ∨ d + 11 ≤ k → sz_X1_soundArea (sz_X1_startBy_m2 z d x) d k = z k := fun k hk => (hP (fun u => u k = sz_X1_startBy_m2 z d x k) (fun u r hr hp => by
    show tb_up u _ _ _ k = _
    rw [tb_up_k _ _ _ (by have := tb_at_in d hr; omega)]
    exact hp) rfl).trans (tb_m2_k (by omega) (by omega))
  have hj : ∀ j, (j < 11 ∨ 103 ≤ j) → tb_cm (sz_X6_starts_m4 y x) 158 j = y 158 j := fun j hj => (tb_cm_j _ (by omega) (by omega)).trans (tb_M4_j (by omega) (by omega))
  refine ⟨hv, hl, ?_⟩
  unfold tb_e1
  unfold sz_X6_starts_m6
  rw [hv, tb_cv_e, tb_cm_e]
  generalize tb_cv (sz_X6_starts_m4 y x) = r at hl
  generalize tb_cm (sz_X6_starts_m4 y x) = u at hq ho hOr hj
  generalize sz_X1_soundArea (sz_X1_startBy_m2 z d x) d = w at hq hO hk
  unfold sz_X0_useTry_m1
  by_cases h2 : r = 2
  · subst h2
    rw [if_pos rfl, tb_at_2, hq.2.1.1, if_neg (by decide)]
    exact ⟨hq.1, ho, hO, hOr, hk, hj⟩
  have hr : r < 2 := by omega
  rw [if_neg h2, ← hq.1.a hr (p := 0) (by decide)]
  by_cases hc : u 158 (11 + 46 * r + 0) = nI 2
  · rw [if_pos hc, if_pos hc]
    refine ⟨hq.1.ua hr (by decide) (by rw [hq.1.a hr (by decide)]), fun r' hr' => ?_, hO.up (by have := tb_at_in d hr; omega), hOr.up, fun k hk' => ?_, fun j hj' => ?_⟩
    · by_cases e : r' = r
      · subst e
        obtain ⟨l, f, t, h1, h2, h3, h4, h5, h6, h7, h8⟩ := ho r' hr'
        have ht : ¬ t = 0 := by
          intro e
          apply hq.2.2.1 r' hr (by rw [← hq.1.a hr (by decide), hc])
          rw [← hq.1.a hr (by decide), h5, e]
          decide
        refine ⟨l, f, t - 1, ?_, h2, ?_, h4, ?_, by omega, fun e => ?_, fun q hq' => by rw [tb_up_j _ _ _ (by omega)]; exact h8 q hq'⟩
        · rw [tb_up_j _ _ _ (by omega), h1]
        · rw [tb_up_j _ _ _ (by omega), h3]
        · rw [tb_up_s, h5]
          obtain ⟨m, rfl⟩ : ∃ m, t = m + 1 := ⟨t - 1, by omega⟩
          exact nI_pred m
        · rw [tb_up_j _ _ _ (by omega), hc] at e
          exact absurd e (by decide)
      · exact (ho r' hr').cs (fun p hp => tb_up_j _ _ _ (by omega))
    · rw [tb_up_k _ _ _ (by have := tb_at_in d hr; omega)]
      exact hk k hk'
    · rw [tb_up_j _ _ _ (by omega)]
      exact hj j hj'
  · rw [if_neg hc, if_neg hc]
    exact ⟨hq.1, ho, hO, hOr, hk, hj⟩
theorem tb_up_e (z : tb_M) (k j b : Nat) (v : Int32) : tb_up z k j v k b = if b = j then v else z k b := by
  by_cases h : b = j
  · rw [if_pos h, h, tb_up_s]
  · rw [if_neg h, tb_up_j _ _ _ h]
theorem tb_kept_c {al : Nat} : (if nI 12 < nI (min al 12) + nI 1 then nI 12 else nI (min al 12) + nI 1) = nI (min (al + 1) 12) := by
  have h : nI (min al 12) + nI 1 = nI (min al 12 + 1) := (nI_add _ _)
  rw [h]
  by_cases c : al < 12
  · rw [if_neg (nI_nlt (by omega) (by omega))]
    congr 1
    omega
  · rw [if_pos (nI_lt (by omega) (by omega))]
    congr 1
    omega
theorem tb_kept_m {al : Nat} : nI (min al 12) + tb_b (¬ nI 12 ≤ nI (min al 12)) = nI (min (al + 1) 12) := by
  by_cases c : al < 12
  · have hc : ¬ nI 12 ≤ nI (min al 12) := nI_ge (by omega) (by omega)
    rw [tb_b_t hc, nI_add]
    congr 1
    omega
  · have hc : nI 12 ≤ nI (min al 12) := nI_le (by omega) (by omega)
    rw [tb_b_f (fun h => h hc), nI_add]
    congr 1
    omega
theorem tb_started (hg : tb_gold z d) (h : tb_R z d (y 158) N) (hN : N + 1 < 2 ^ 30) :
    tb_R (sz_X1_startBy z d x) d (sz_X6_remember (sz_X6_starts_m9 y x) x 158) (N + 1) ∧ tb_O z (sz_X1_startBy z d x) d ∧ tb_Or y (sz_X6_remember (sz_X6_starts_m9 y x) x) := by
  obtain ⟨h1, ⟨hs0, hs1, hs2, hs3, hs4, hsl⟩, al, kp, e7, hal, e10, hkp, h2⟩ := h
  obtain ⟨hv, hl, t1, t2, t3, t4, t5, t6⟩ := tb_tried (x := x) hg h1 hsl
  have hala : tb_al z d = al := by
    unfold tb_al
    rw [← h1.d7, e7, nI_clamp (by omega)]
  unfold sz_X1_startBy
  rw [tb_e1_m3, hv, hala]
  unfold sz_X6_starts_m9 sz_X6_starts_m8 sz_X6_starts_m7
  generalize sv_X6_starts_v1 y x = r at hl
  generalize sz_X6_starts_m6 y x = u at t1 t2 t4 t6
  generalize tb_e1 z d x = w at t1 t3 t5
  -- the row of the reference ahead of its past
  have w9 : tb_up (tb_up (tb_up w d 5 (nI r)) d 6 (nI 0)) d 7 (nI 0) d 9 = z d 9 := by
    rw [tb_up_j _ _ _ (by decide), tb_up_j _ _ _ (by decide), tb_up_j _ _ _ (by decide), t5 d (Or.inl rfl)]
  rw [w9]
  have R4 : tb_R1 (tb_up (tb_up (tb_up w d 5 (nI r)) d 6 (nI 0)) d 7 (nI 0)) d (tb_up (tb_up (tb_up u 158 3 (nI r)) 158 4 (nI 0)) 158 5 (nI 0) 158) := ((t1.u3 rfl).u4 rfl).u5 rfl
  have O4 : tb_O z (tb_up (tb_up (tb_up w d 5 (nI r)) d 6 (nI 0)) d 7 (nI 0)) d := ((t3.up (by omega)).up (by omega)).up (by omega)
  have K4 : ∀ k, d + 11 ≤ k → tb_up (tb_up (tb_up w d 5 (nI r)) d 6 (nI 0)) d 7 (nI 0) k = z k := fun k hk => by
    rw [tb_up_k _ _ _ (by omega), tb_up_k _ _ _ (by omega), tb_up_k _ _ _ (by omega), t5 k (Or.inr hk)]
  have J4 : ∀ j, (5 < j ∧ j < 11 ∨ 103 ≤ j) → tb_up (tb_up (tb_up u 158 3 (nI r)) 158 4 (nI 0)) 158 5 (nI 0) 158 j = y 158 j := fun j hj => by
    rw [tb_up_j _ _ _ (by omega), tb_up_j _ _ _ (by omega), tb_up_j _ _ _ (by omega), t6 j (by omega)]
  have J3 : tb_up (tb_up (tb_up u 158 3 (nI r)) 158 4 (nI 0)) 158 5 (nI 0) 158 3 = nI r := by
    rw [tb_up_j _ _ _ (by decide), tb_up_j _ _ _ (by decide), tb_up_s]
  have J40 : tb_up (tb_up (tb_up u 158 3 (nI r)) 158 4 (nI 0)) 158 5 (nI 0) 158 4 = nI 0 := by
    rw [tb_up_j _ _ _ (by decide), tb_up_s]
  have J2 : ∀ j, j < 3 → tb_up (tb_up (tb_up u 158 3 (nI r)) 158 4 (nI 0)) 158 5 (nI 0) 158 j = y 158 j := fun j hj => by
    rw [tb_up_j _ _ _ (by omega), tb_up_j _ _ _ (by omega), tb_up_j _ _ _ (by omega), t6 j (by omega)]
  have S4 : ∀ r', r' < 2 → tb_oks (tb_up (tb_up (tb_up u 158 3 (nI r)) 158 4 (nI 0)) 158 5 (nI 0) 158) r' := fun r' hr' => (t2 r' hr').cs (fun p hp => by
    rw [tb_up_j _ _ _ (by omega), tb_up_j _ _ _ (by omega), tb_up_j _ _ _ (by omega)])
  have Or4 : tb_Or y (tb_up (tb_up (tb_up u 158 3 (nI r)) 158 4 (nI 0)) 158 5 (nI 0)) := t4.up.up.up
  generalize tb_up (tb_up (tb_up w d 5 (nI r)) d 6 (nI 0)) d 7 (nI 0) = w at R4 O4 K4
  generalize tb_up (tb_up (tb_up u 158 3 (nI r)) 158 4 (nI 0)) 158 5 (nI 0) = u at R4 J4 J3 J40 J2 S4 Or4
  clear w9 t1 t2 t3 t4 t5 t6
  rw [J4 7 (by decide), e7, nI_add]
  have j8 : tb_up u 158 7 (nI (al + 1)) 158 8 = y 158 8 := by rw [tb_up_j _ _ _ (by decide), J4 8 (by decide)]
  rw [j8]
  -- the class's own chain, in one form
  have hA : sz_X4_add_m1 w (d + 11) r x (z d 9) al = tb_up (tb_up (tb_up (tb_up (tb_up (tb_up w (d + 11) 0 (nI (al + 1))) (d + 11) 2 (nI (min (al + 1) 12))) (d + 11 + 1) (al % 12) (nI r)) (d + 11 + 2) (al % 12) x) (d + 11 + 3) (al % 12) (z d 9)) (d + 11) 1 (y 158 8 + tb_b (x = nI 1)) := by
    have k2 : tb_up w (d + 11) 0 (nI (al + 1)) (d + 11) 2 = nI (min al 12) := by
      rw [tb_up_j _ _ _ (by decide), ← R4.d10, J4 10 (by decide), e10, hkp]
    have k1 : tb_up (tb_up (tb_up (tb_up (tb_up w (d + 11) 0 (nI (al + 1))) (d + 11) 2 (nI (min (al + 1) 12))) (d + 11 + 1) (al % 12) (nI r)) (d + 11 + 2) (al % 12) x) (d + 11 + 3) (al % 12) (z d 9) (d + 11) 1 = y 158 8 := by
      rw [tb_up_k _ _ _ (by omega), tb_up_k _ _ _ (by omega), tb_up_k _ _ _ (by omega), tb_up_j _ _ _ (by decide), tb_up_j _ _ _ (by decide), ← R4.d8, J4 8 (by decide)]
    unfold sz_X4_add_m1
    rw [k2, tb_kept_c, k1]
    by_cases hx : x = nI 1
    · rw [if_pos hx, tb_b_t hx]
    · rw [if_neg hx, tb_b_f hx]
      have e0 : y 158 8 + nI 0 = y 158 8 := Int32.add_zero _
      rw [e0]
      conv => rhs; rw [← k1]
      rw [tb_up_id]
  rw [hA]
  generalize hb : y 158 8 + tb_b (x = nI 1) = b8
  refine ⟨⟨?_, ⟨?_, ?_, ?_, ?_, ?_, ?_⟩, al + 1, min (al + 1) 12, ?_, by omega, ?_, rfl, ?_⟩, ?_, ?_⟩
  · have R5 : tb_R1 (tb_up (tb_up (tb_up (tb_up (tb_up (tb_up w (d + 11) 0 (nI (al + 1))) (d + 11) 2 (nI (min (al + 1) 12))) (d + 11 + 1) (al % 12) (nI r)) (d + 11 + 2) (al % 12) x) (d + 11 + 3) (al % 12) (z d 9)) (d + 11) 1 b8) d (tb_up (tb_up (tb_up u 158 7 (nI (al + 1))) 158 10 (nI (min (al + 1) 12))) 158 8 b8 158) :=
      ((((((R4.u7 rfl).u10 rfl).ux (by omega)).ux (by omega)).ux (by omega))).u8 rfl
    refine R5.cs (fun j hj => ?_)
    by_cases h10 : j = 10
    · subst h10
      rw [tb_rem_10, tb_up_j _ _ _ (by decide), tb_up_j _ _ _ (by decide), J4 10 (by decide), e10, hkp, tb_kept_m, tb_up_j _ _ _ (by decide), tb_up_s]
    · rw [tb_rem_lo _ _ hj h10]
      by_cases h8 : j = 8
      · rw [h8, tb_up_s, tb_up_s]
      · rw [tb_up_j _ _ _ h8, tb_up_j _ _ _ h8, tb_up_j _ _ _ h10]
  · obtain ⟨t, a, b, c⟩ := hs0
    exact ⟨t, by rw [tb_rem_lo _ _ (by decide) (by decide), tb_up_j _ _ _ (by decide), tb_up_j _ _ _ (by decide), J2 0 (by decide), a], b, c⟩
  · obtain ⟨t, a, b, c⟩ := hs1
    exact ⟨t, by rw [tb_rem_lo _ _ (by decide) (by decide), tb_up_j _ _ _ (by decide), tb_up_j _ _ _ (by decide), J2 1 (by decide), a], b, c⟩
  · obtain ⟨t, a, b, c⟩ := hs2
    exact ⟨t, by rw [tb_rem_lo _ _ (by decide) (by decide), tb_up_j _ _ _ (by decide), tb_up_j _ _ _ (by decide), J2 2 (by decide), a], b, c⟩
  · exact ⟨r, by rw [tb_rem_lo _ _ (by decide) (by decide), tb_up_j _ _ _ (by decide), tb_up_j _ _ _ (by decide), J3], hl⟩
  · exact ⟨0, by rw [tb_rem_lo _ _ (by decide) (by decide), tb_up_j _ _ _ (by decide), tb_up_j _ _ _ (by decide), J40], by omega⟩
  · intro r' hr'
    refine (S4 r' hr').cs (fun p hp => ?_)
    rw [tb_rem_lo _ _ (by omega) (by omega), tb_up_j _ _ _ (by omega), tb_up_j _ _ _ (by omega)]
  · rw [tb_rem_lo _ _ (by decide) (by decide), tb_up_j _ _ _ (by decide), tb_up_s]
  · rw [tb_rem_10, tb_up_j _ _ _ (by decide), tb_up_j _ _ _ (by decide), J4 10 (by decide), e10, hkp, tb_kept_m]
  · intro b c hb' hc
    have hc' : c = 0 ∨ c = 1 ∨ c = 2 := by omega
    have L : tb_up (tb_up (tb_up (tb_up (tb_up (tb_up w (d + 11) 0 (nI (al + 1))) (d + 11) 2 (nI (min (al + 1) 12))) (d + 11 + 1) (al % 12) (nI r)) (d + 11 + 2) (al % 12) x) (d + 11 + 3) (al % 12) (z d 9)) (d + 11) 1 b8 (d + 12 + c) ((al + 1 - 1 - b) % 12) = if b = 0 then (if c = 0 then nI r else if c = 1 then x else z d 9) else z (d + 12 + c) ((al - 1 - (b - 1)) % 12) := by
      rw [tb_up_k _ _ _ (by omega)]
      have hidx : b ≠ 0 → (al + 1 - 1 - b) % 12 ≠ al % 12 := by omega
      have hidx2 : b ≠ 0 → al + 1 - 1 - b = al - 1 - (b - 1) := by omega
      by_cases hb0 : b = 0
      · subst hb0
        rw [if_pos rfl]
        have : (al + 1 - 1 - 0) = al := by omega
        rw [this]
        rcases hc' with rfl | rfl | rfl
        · rw [tb_up_k _ _ _ (by omega), tb_up_k _ _ _ (by omega), if_pos rfl]
          exact tb_up_s _ _ _ _
        · rw [tb_up_k _ _ _ (by omega), if_neg (by decide), if_pos rfl]
          exact tb_up_s _ _ _ _
        · rw [if_neg (by decide), if_neg (by decide)]
          exact tb_up_s _ _ _ _
      · rw [if_neg hb0, ← hidx2 hb0]
        have hi := hidx hb0
        generalize (al + 1 - 1 - b) % 12 = i at hi
        rcases hc' with rfl | rfl | rfl
        · rw [tb_up_k _ _ _ (by omega), tb_up_k _ _ _ (by omega)]
          refine (tb_up_j _ _ _ hi).trans ?_
          rw [tb_up_k _ _ _ (by omega), tb_up_k _ _ _ (by omega), K4 _ (by omega)]
        · rw [tb_up_k _ _ _ (by omega)]
          refine (tb_up_j _ _ _ hi).trans ?_
          rw [tb_up_k _ _ _ (by omega), tb_up_k _ _ _ (by omega), tb_up_k _ _ _ (by omega), K4 _ (by omega)]
        · refine (tb_up_j _ _ _ hi).trans ?_
          rw [tb_up_k _ _ _ (by omega), tb_up_k _ _ _ (by omega), tb_up_k _ _ _ (by omega), tb_up_k _ _ _ (by omega), K4 _ (by omega)]
    rw [L]
    by_cases hb0 : b = 0
    · subst hb0
      rw [if_pos rfl]
      rcases hc' with rfl | rfl | rfl
      · rw [if_pos rfl]
        refine (tb_rem_103 _ _).trans ?_
        rw [tb_up_j _ _ _ (by decide), tb_up_j _ _ _ (by decide), J3]
      · rw [if_neg (by decide), if_pos rfl]
        exact tb_rem_104 _ _
      · rw [if_neg (by decide), if_neg (by decide)]
        refine (tb_rem_105 _ _).trans ?_
        rw [tb_up_j _ _ _ (by decide), tb_up_j _ _ _ (by decide), J4 9 (by decide), h1.d9]
    · rw [if_neg hb0, tb_rem_hi _ _ (by omega) (by omega), tb_up_j _ _ _ (by omega), tb_up_j _ _ _ (by omega), J4 _ (by omega)]
      have e3 : 103 + 3 * b + c - 3 = 103 + 3 * (b - 1) + c := by omega
      rw [e3]
      exact h2 (b - 1) c (by omega) hc
  · exact (((((O4.up (by omega)).up (by omega)).up (by omega)).up (by omega)).up (by omega)).up (by omega)
  · exact (Or4.up.up).tr (tb_rem_or _ _)
end TBSTARTED
