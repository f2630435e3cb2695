/-! THE WHOLE WORLD out of what the two constructors made -/
theorem arrV_c {cA : ClassId} {n : Nat} {f f' : Nat → Value} (h : ∀ j, j < n → f j = f' j) : arrV cA n f = arrV cA n f' := by
  unfold arrV
  congr 2
  funext j
  exact h j.1 j.2
theorem tc_pl (n c k : Nat) (hk : k < n) : (List.range n)[k]? = some k := List.getElem?_range hk
theorem tc_bl_g (g : tb_G) (ad : Nat → Nat) (z : Nat → Nat → Int32) {c : Nat} (hc : c < 15) : (tc_bl g ad z)[c]? = some (ad c, tb_d (tc_ga g ad) 0 c (z c)) := by
  unfold tc_bl
  rw [List.getElem?_map, List.getElem?_range hc]
  rfl
theorem tc_bl_n (g : tb_G) (ad : Nat → Nat) (z : Nat → Nat → Int32) : (tc_bl g ad z).length = 15 := by
  simp [tc_bl]
theorem tc_ds_n (g : tb_G) (ads : Nat → Nat → Nat) (zs : Nat → Nat → Nat → Int32) : ∀ n, (tc_ds g ads zs n).length = 15 * n
  | 0 => rfl
  | n + 1 => by
    show (tc_ds g ads zs n ++ tc_bl g (ads n) (zs n)).length = _
    rw [List.length_append, tc_bl_n, tc_ds_n g ads zs n]
    omega
theorem tc_ds_g (g : tb_G) (ads : Nat → Nat → Nat) (zs : Nat → Nat → Nat → Int32) : ∀ n i c, i < n → c < 15 → (tc_ds g ads zs n)[15 * i + c]? = some (ads i c, tb_d (tc_ga g (ads i)) 0 c (zs i c))
  | 0, i, c, hi, _ => absurd hi (Nat.not_lt_zero i)
  | n + 1, i, c, hi, hc => by
    show (tc_ds g ads zs n ++ tc_bl g (ads n) (zs n))[15 * i + c]? = _
    by_cases h : i = n
    · subst h
      rw [List.getElem?_append_right (by rw [tc_ds_n]; omega), tc_ds_n, show 15 * i + c - 15 * i = c by omega]
      exact tc_bl_g g _ _ hc
    · rw [List.getElem?_append_left (by rw [tc_ds_n]; omega)]
      exact tc_ds_g g ads zs n i c (by omega) hc
/-- a device's cells, as the whole world has them -/
theorem tc_d_e (g g' : tb_G) {ad : Nat → Nat} {d c : Nat} (f : Nat → Int32) (hg : g'.2.2.2.1 = g.2.2.2.1) (h : ∀ c, c < 15 → tb_ad g' (d + c) = ad c) (hc : c < 15) : tb_d (tc_ga g ad) 0 c f = tb_d g' d c f := by
  have e : ∀ c, c < 15 → tb_ad (tc_ga g ad) (0 + c) = tb_ad g' (d + c) := fun c hc => by
    rw [h c hc, Nat.zero_add]
    rfl
  have eI : ∀ n, tb_ai (tc_ga g ad) n f = tb_ai g' n f := fun n => by
    unfold tb_ai
    rw [hg]
    rfl
  rcases (show c = 0 ∨ c = 1 ∨ c = 2 ∨ c = 3 ∨ c = 4 ∨ c = 5 ∨ c = 6 ∨ c = 7 ∨ c = 8 ∨ c = 9 ∨ c = 10 ∨ c = 11 ∨ c = 12 ∨ c = 13 ∨ c = 14 by omega) with rfl | rfl | rfl | rfl | rfl | rfl | rfl | rfl | rfl | rfl | rfl | rfl | rfl | rfl | rfl
  · show tb_dev _ _ _ = tb_dev _ _ _
    unfold tb_dev
    rw [e 1 (by decide), e 2 (by decide), e 5 (by decide), e 8 (by decide), e 11 (by decide)]
  · exact eI 3
  · show tb_area _ _ _ = tb_area _ _ _
    unfold tb_area
    rw [show 0 + 2 + 1 = 0 + 3 from rfl, show 0 + 2 + 2 = 0 + 4 from rfl, e 3 (by decide), e 4 (by decide)]
  · exact eI 32
  · exact eI 8
  · show tb_area _ _ _ = tb_area _ _ _
    unfold tb_area
    rw [show 0 + 5 + 1 = 0 + 6 from rfl, show 0 + 5 + 2 = 0 + 7 from rfl, e 6 (by decide), e 7 (by decide)]
  · exact eI 32
  · exact eI 8
  · show tb_area _ _ _ = tb_area _ _ _
    unfold tb_area
    rw [show 0 + 8 + 1 = 0 + 9 from rfl, show 0 + 8 + 2 = 0 + 10 from rfl, e 9 (by decide), e 10 (by decide)]
  · exact eI 32
  · exact eI 8
  · show tb_sts _ _ _ = tb_sts _ _ _
    unfold tb_sts
    rw [show 0 + 11 + 1 = 0 + 12 from rfl, show 0 + 11 + 2 = 0 + 13 from rfl, show 0 + 11 + 3 = 0 + 14 from rfl, e 12 (by decide), e 13 (by decide), e 14 (by decide)]
  · exact eI 12
  · exact eI 12
  · exact eI 12
