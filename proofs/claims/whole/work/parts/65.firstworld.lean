/-! THE WHOLE WORLD, all its cells -/
section TCMADE
variable {g : tb_G} {A : Nat → Prop} {H : Heap} {h0 sq bq hq tq pq kq m0 a1 a2 a3 a4 a5 a6 : Nat} {fS fH : Nat → Option Nat} {f : Nat → Int32} {ad ad0 ad1 ad2 ad3 : Nat → Nat} {z z0 z1 z2 z3 : Nat → Nat → Int32} {ads : Nat → Nat → Nat} {zs : Nat → Nat → Nat → Int32}
def tc_wT (g : tb_G) (h0 sq bq hq tq pq kq : Nat) (fS fH : Nat → Option Nat) (ad0 ad1 ad2 ad3 : Nat → Nat) (z0 z1 z2 z3 : Nat → Nat → Int32) (ads : Nat → Nat → Nat) (zs : Nat → Nat → Nat → Int32) : va_W := tc_LT (h0, tc_eT (.ref (ad0 0)) (.ref (ad1 0)) (.ref sq) (.ref bq) (.ref hq) (.ref pq)) (tc_bl g ad0 z0) (tc_bl g ad1 z1) (sq, tc_eQ g 2 fS) (tc_bl g ad2 z2) (tc_bl g ad3 z3) (bq, .inl (g.2.2.2.2.1, 2, .inl (fun _ => nI 0))) ([(hq, .inr (2, [.int (nI 0), .int (nI 0), .ref tq])), (tq, tc_eQ g 6 fH)] ++ tc_ds g ads zs 6) [(pq, .inr (3, [.int (nI 0), .ref kq])), (kq, tc_eI g 64 (fun _ => nI 0))]
theorem tc_kb0 (hA0 : ∀ c, c < 15 → ad (0 + c) = ad0 c ∧ z (0 + c) = z0 c) {c : Nat} (hc : c < 15) : tc_key (tc_wT g h0 sq bq hq tq pq kq fS fH ad0 ad1 ad2 ad3 z0 z1 z2 z3 ads zs ++ tc_wM g m0 a1 a2 a3 a4 a5 a6 f) g ad z H (0 + c) := by
  have e : tc_po (0 + c) = 1 + c := by
    unfold tc_po
    (repeat' split) <;> omega
  refine tc_keyB (d := 0) tb_D0 hA0 hc ?_
  rw [e]
  exact tc_q1 (tc_bl_g g ad0 z0 hc)
theorem tc_kb1 (hA1 : ∀ c, c < 15 → ad (15 + c) = ad1 c ∧ z (15 + c) = z1 c) {c : Nat} (hc : c < 15) : tc_key (tc_wT g h0 sq bq hq tq pq kq fS fH ad0 ad1 ad2 ad3 z0 z1 z2 z3 ads zs ++ tc_wM g m0 a1 a2 a3 a4 a5 a6 f) g ad z H (15 + c) := by
  have e : tc_po (15 + c) = 16 + c := by
    unfold tc_po
    (repeat' split) <;> omega
  refine tc_keyB (d := 15) tb_D15 hA1 hc ?_
  rw [e]
  exact tc_q2 (tc_bl_n _ _ _) (tc_bl_g g ad1 z1 hc)
theorem tc_kb2 (hA2 : ∀ c, c < 15 → ad (30 + c) = ad2 c ∧ z (30 + c) = z2 c) {c : Nat} (hc : c < 15) : tc_key (tc_wT g h0 sq bq hq tq pq kq fS fH ad0 ad1 ad2 ad3 z0 z1 z2 z3 ads zs ++ tc_wM g m0 a1 a2 a3 a4 a5 a6 f) g ad z H (30 + c) := by
  have e : tc_po (30 + c) = 32 + c := by
    unfold tc_po
    (repeat' split) <;> omega
  refine tc_keyB (d := 30) (tb_DS (j := 0) (by decide)) hA2 hc ?_
  rw [e]
  exact tc_q4 (tc_bl_n _ _ _) (tc_bl_n _ _ _) (tc_bl_g g ad2 z2 hc)
theorem tc_kb3 (hA3 : ∀ c, c < 15 → ad (45 + c) = ad3 c ∧ z (45 + c) = z3 c) {c : Nat} (hc : c < 15) : tc_key (tc_wT g h0 sq bq hq tq pq kq fS fH ad0 ad1 ad2 ad3 z0 z1 z2 z3 ads zs ++ tc_wM g m0 a1 a2 a3 a4 a5 a6 f) g ad z H (45 + c) := by
  have e : tc_po (45 + c) = 47 + c := by
    unfold tc_po
    (repeat' split) <;> omega
  refine tc_keyB (d := 45) (tb_DS (j := 1) (by decide)) hA3 hc ?_
  rw [e]
  exact tc_q5 (tc_bl_n _ _ _) (tc_bl_n _ _ _) (tc_bl_n _ _ _) (tc_bl_g g ad3 z3 hc)
theorem tc_kb4 (hA4 : ∀ i, i < 6 → ∀ c, c < 15 → ad (60 + 15 * i + c) = ads i c ∧ z (60 + 15 * i + c) = zs i c) {i c : Nat} (hi : i < 6) (hc : c < 15) : tc_key (tc_wT g h0 sq bq hq tq pq kq fS fH ad0 ad1 ad2 ad3 z0 z1 z2 z3 ads zs ++ tc_wM g m0 a1 a2 a3 a4 a5 a6 f) g ad z H (60 + 15 * i + c) := by
  have e : tc_po (60 + 15 * i + c) = 63 + (2 + (15 * i + c)) := by
    unfold tc_po
    (repeat' split) <;> omega
  refine tc_keyB (d := 60 + 15 * i) (tb_DH hi) (hA4 i hi) hc ?_
  rw [e]
  exact tc_q7 (tc_bl_n _ _ _) (tc_bl_n _ _ _) (tc_bl_n _ _ _) (tc_bl_n _ _ _) (tc_in2 (n := 2) rfl (tc_ds_g g ads zs 6 i c hi hc))
theorem tc_kx (hA0 : ∀ c, c < 15 → ad (0 + c) = ad0 c ∧ z (0 + c) = z0 c) (hA1 : ∀ c, c < 15 → ad (15 + c) = ad1 c ∧ z (15 + c) = z1 c) (hA2 : ∀ c, c < 15 → ad (30 + c) = ad2 c ∧ z (30 + c) = z2 c) (hA3 : ∀ c, c < 15 → ad (45 + c) = ad3 c ∧ z (45 + c) = z3 c) (hA4 : ∀ i, i < 6 → ∀ c, c < 15 → ad (60 + 15 * i + c) = ads i c ∧ z (60 + 15 * i + c) = zs i c) (hA5 : ∀ c, ad (150 + c) = tc_xf h0 sq bq hq tq pq kq m0 a1 a2 a3 a4 a5 a6 c ∧ z (150 + c) = tc_yf f c) (hS : fS 0 = some (ad2 0) ∧ fS 1 = some (ad3 0)) (hF : ∀ i, i < 6 → fH i = some (ads i 0)) {c : Nat} (hc : c < 14) : tc_key (tc_wT g h0 sq bq hq tq pq kq fS fH ad0 ad1 ad2 ad3 z0 z1 z2 z3 ads zs ++ tc_wM g m0 a1 a2 a3 a4 a5 a6 f) g ad z H (150 + c) := by
  have x0 : ad 150 = h0 := (hA5 0).1
  have x1 : ad 151 = sq := (hA5 1).1
  have x2 : ad 152 = bq := (hA5 2).1
  have x3 : ad 153 = hq := (hA5 3).1
  have x4 : ad 154 = tq := (hA5 4).1
  have x5 : ad 155 = pq := (hA5 5).1
  have x6 : ad 156 = kq := (hA5 6).1
  have x7 : ad 157 = m0 := (hA5 7).1
  have x8 : ad 158 = a1 := (hA5 8).1
  have x9 : ad 159 = a2 := (hA5 9).1
  have x10 : ad 160 = a3 := (hA5 10).1
  have x11 : ad 161 = a4 := (hA5 11).1
  have x12 : ad 162 = a5 := (hA5 12).1
  have x13 : ad 163 = a6 := (hA5 13).1
  have hn : ([(hq, .inr (2, [.int (nI 0), .int (nI 0), .ref tq])), (tq, tc_eQ g 6 fH)] ++ tc_ds g ads zs 6 : va_W).length = 92 := by
    rw [List.length_append, tc_ds_n]
    rfl
  rcases (show c = 0 ∨ c = 1 ∨ c = 2 ∨ c = 3 ∨ c = 4 ∨ c = 5 ∨ c = 6 ∨ c = 7 ∨ c = 8 ∨ c = 9 ∨ c = 10 ∨ c = 11 ∨ c = 12 ∨ c = 13 by omega) with rfl | rfl | rfl | rfl | rfl | rfl | rfl | rfl | rfl | rfl | rfl | rfl | rfl | rfl
  · refine tc_keyE (e := tc_eT (.ref (ad0 0)) (.ref (ad1 0)) (.ref sq) (.ref bq) (.ref hq) (.ref pq)) ?_ ?_
    · show _[tc_po 150]? = some (ad 150, _)
      rw [x0]
      exact tc_q0
    · show (_ : va_E) = tc_eT (.ref (ad 0)) (.ref (ad 15)) (.ref (ad 151)) (.ref (ad 152)) (.ref (ad 153)) (.ref (ad 155))
      rw [show ad 0 = ad0 0 from (hA0 0 (by decide)).1, show ad 15 = ad1 0 from (hA1 0 (by decide)).1, x1, x2, x3, x5]
  · refine tc_keyQ (q := sq) (n := 2) (f := fS) (f' := fun j => some (ad (30 + 15 * j))) x1 (tc_q3 (tc_bl_n _ _ _) (tc_bl_n _ _ _)) rfl (fun j hj => ?_)
    rcases (show j = 0 ∨ j = 1 by omega) with rfl | rfl
    · rw [hS.1]
      exact congrArg some (hA2 0 (by decide)).1.symm
    · rw [hS.2]
      exact congrArg some (hA3 0 (by decide)).1.symm
  · refine tc_keyE (e := .inl (g.2.2.2.2.1, 2, .inl (fun _ => nI 0))) ?_ ?_
    · show _[tc_po 152]? = some (ad 152, _)
      rw [x2]
      exact tc_q6 (tc_bl_n _ _ _) (tc_bl_n _ _ _) (tc_bl_n _ _ _) (tc_bl_n _ _ _)
    · show (_ : va_E) = .inl (g.2.2.2.2.1, 2, .inl (z 152))
      rw [show z 152 = tc_yf f 2 from (hA5 2).2]
      rfl
  · refine tc_keyE (e := .inr (2, [.int (nI 0), .int (nI 0), .ref tq])) ?_ ?_
    · show _[tc_po 153]? = some (ad 153, _)
      rw [x3]
      exact tc_q7 (c := 0) (tc_bl_n _ _ _) (tc_bl_n _ _ _) (tc_bl_n _ _ _) (tc_bl_n _ _ _) rfl
    · show (_ : va_E) = .inr (2, [.int (z 153 0), .int (z 153 1), .ref (ad 154)])
      rw [show z 153 = tc_yf f 3 from (hA5 3).2, x4]
      rfl
  · refine tc_keyQ (q := tq) (n := 6) (f := fH) (f' := fun j => some (ad (60 + 15 * j))) x4 (tc_q7 (c := 1) (tc_bl_n _ _ _) (tc_bl_n _ _ _) (tc_bl_n _ _ _) (tc_bl_n _ _ _) rfl) rfl (fun j hj => ?_)
    rw [hF j hj]
    exact congrArg some (hA4 j hj 0 (by decide)).1.symm
  · refine tc_keyE (e := .inr (3, [.int (nI 0), .ref kq])) ?_ ?_
    · show _[tc_po 155]? = some (ad 155, _)
      rw [x5]
      exact tc_q8 (c := 0) (tc_bl_n _ _ _) (tc_bl_n _ _ _) (tc_bl_n _ _ _) (tc_bl_n _ _ _) hn rfl
    · show (_ : va_E) = .inr (3, [.int (z 155 0), .ref (ad 156)])
      rw [show z 155 = tc_yf f 5 from (hA5 5).2, x6]
      rfl
  · refine tc_keyE (e := tc_eI g 64 (fun _ => nI 0)) ?_ ?_
    · show _[tc_po 156]? = some (ad 156, _)
      rw [x6]
      exact tc_q8 (c := 1) (tc_bl_n _ _ _) (tc_bl_n _ _ _) (tc_bl_n _ _ _) (tc_bl_n _ _ _) hn rfl
    · show (_ : va_E) = tc_eI g 64 (z 156)
      rw [show z 156 = tc_yf f 6 from (hA5 6).2]
      rfl
  · refine tc_keyE (e := .inr (6, [.ref a1, .ref a2, .ref a3, .int (nI 0), .ref a4, .ref a5, .ref a6, .int (nI 0)])) ?_ ?_
    · show _[tc_po 157]? = some (ad 157, _)
      rw [x7]
      exact tc_q9 (c := 0) (tc_bl_n _ _ _) (tc_bl_n _ _ _) (tc_bl_n _ _ _) (tc_bl_n _ _ _) hn rfl rfl
    · show (_ : va_E) = .inr (6, [.ref (ad 158), .ref (ad 159), .ref (ad 160), .int (z 157 3), .ref (ad 161), .ref (ad 162), .ref (ad 163), .int (z 157 7)])
      rw [show z 157 = tc_yf f 7 from (hA5 7).2, x8, x9, x10, x11, x12, x13]
      rfl
  · refine tc_keyE (e := tc_eI g 139 f) ?_ ?_
    · show _[tc_po 158]? = some (ad 158, _)
      rw [x8]
      exact tc_q9 (c := 1) (tc_bl_n _ _ _) (tc_bl_n _ _ _) (tc_bl_n _ _ _) (tc_bl_n _ _ _) hn rfl rfl
    · show (_ : va_E) = tc_eI g 139 (z 158)
      rw [show z 158 = tc_yf f 8 from (hA5 8).2]
      rfl
  · refine tc_keyE (e := tc_eI g 139 (fun _ => nI 0)) ?_ ?_
    · show _[tc_po 159]? = some (ad 159, _)
      rw [x9]
      exact tc_q9 (c := 2) (tc_bl_n _ _ _) (tc_bl_n _ _ _) (tc_bl_n _ _ _) (tc_bl_n _ _ _) hn rfl rfl
    · show (_ : va_E) = tc_eI g 139 (z 159)
      rw [show z 159 = tc_yf f 9 from (hA5 9).2]
      rfl
  · refine tc_keyE (e := tc_eI g 834 (fun _ => nI 0)) ?_ ?_
    · show _[tc_po 160]? = some (ad 160, _)
      rw [x10]
      exact tc_q9 (c := 3) (tc_bl_n _ _ _) (tc_bl_n _ _ _) (tc_bl_n _ _ _) (tc_bl_n _ _ _) hn rfl rfl
    · show (_ : va_E) = tc_eI g 834 (z 160)
      rw [show z 160 = tc_yf f 10 from (hA5 10).2]
      rfl
  · refine tc_keyE (e := tc_eI g 278 (fun _ => nI 0)) ?_ ?_
    · show _[tc_po 161]? = some (ad 161, _)
      rw [x11]
      exact tc_q9 (c := 4) (tc_bl_n _ _ _) (tc_bl_n _ _ _) (tc_bl_n _ _ _) (tc_bl_n _ _ _) hn rfl rfl
    · show (_ : va_E) = tc_eI g 278 (z 161)
      rw [show z 161 = tc_yf f 11 from (hA5 11).2]
      rfl
  · refine tc_keyE (e := tc_eI g 2 (fun _ => nI 0)) ?_ ?_
    · show _[tc_po 162]? = some (ad 162, _)
      rw [x12]
      exact tc_q9 (c := 5) (tc_bl_n _ _ _) (tc_bl_n _ _ _) (tc_bl_n _ _ _) (tc_bl_n _ _ _) hn rfl rfl
    · show (_ : va_E) = tc_eI g 2 (z 162)
      rw [show z 162 = tc_yf f 12 from (hA5 12).2]
      rfl
  · refine tc_keyE (e := tc_eI g 64 (fun _ => nI 0)) ?_ ?_
    · show _[tc_po 163]? = some (ad 163, _)
      rw [x13]
      exact tc_q9 (c := 6) (tc_bl_n _ _ _) (tc_bl_n _ _ _) (tc_bl_n _ _ _) (tc_bl_n _ _ _) hn rfl rfl
    · show (_ : va_E) = tc_eI g 64 (z 163)
      rw [show z 163 = tc_yf f 13 from (hA5 13).2]
      rfl
theorem tc_made (hA0 : ∀ c, c < 15 → ad (0 + c) = ad0 c ∧ z (0 + c) = z0 c) (hA1 : ∀ c, c < 15 → ad (15 + c) = ad1 c ∧ z (15 + c) = z1 c) (hA2 : ∀ c, c < 15 → ad (30 + c) = ad2 c ∧ z (30 + c) = z2 c) (hA3 : ∀ c, c < 15 → ad (45 + c) = ad3 c ∧ z (45 + c) = z3 c) (hA4 : ∀ i, i < 6 → ∀ c, c < 15 → ad (60 + 15 * i + c) = ads i c ∧ z (60 + 15 * i + c) = zs i c) (hA5 : ∀ c, ad (150 + c) = tc_xf h0 sq bq hq tq pq kq m0 a1 a2 a3 a4 a5 a6 c ∧ z (150 + c) = tc_yf f c) (hS : fS 0 = some (ad2 0) ∧ fS 1 = some (ad3 0)) (hF : ∀ i, i < 6 → fH i = some (ads i 0)) {k : Nat} (hk : k < 164) : tc_key (tc_wT g h0 sq bq hq tq pq kq fS fH ad0 ad1 ad2 ad3 z0 z1 z2 z3 ads zs ++ tc_wM g m0 a1 a2 a3 a4 a5 a6 f) g ad z H k := by
  by_cases h1 : k < 15
  · have h := tc_kb0 (g := g) (H := H) (h0 := h0) (sq := sq) (bq := bq) (hq := hq) (tq := tq) (pq := pq) (kq := kq) (m0 := m0) (a1 := a1) (a2 := a2) (a3 := a3) (a4 := a4) (a5 := a5) (a6 := a6) (fS := fS) (fH := fH) (f := f) (ad1 := ad1) (ad2 := ad2) (ad3 := ad3) (z1 := z1) (z2 := z2) (z3 := z3) (ads := ads) (zs := zs) hA0 (c := k) h1
    rw [Nat.zero_add] at h
    exact h
  by_cases h2 : k < 30
  · obtain ⟨c, rfl⟩ : ∃ c, k = 15 + c := ⟨k - 15, by omega⟩
    exact tc_kb1 hA1 (by omega)
  by_cases h3 : k < 45
  · obtain ⟨c, rfl⟩ : ∃ c, k = 30 + c := ⟨k - 30, by omega⟩
    exact tc_kb2 hA2 (by omega)
  by_cases h4 : k < 60
  · obtain ⟨c, rfl⟩ : ∃ c, k = 45 + c := ⟨k - 45, by omega⟩
    exact tc_kb3 hA3 (by omega)
  by_cases h5 : k < 150
  · obtain ⟨i, c, hi, hc, rfl⟩ : ∃ i c, i < 6 ∧ c < 15 ∧ k = 60 + 15 * i + c := ⟨(k - 60) / 15, (k - 60) % 15, by omega, by omega, by omega⟩
    exact tc_kb4 hA4 hi hc
  · obtain ⟨c, rfl⟩ : ∃ c, k = 150 + c := ⟨k - 150, by omega⟩
    exact tc_kx hA0 hA1 hA2 hA3 hA4 hA5 hS hF (by omega)
end TCMADE
/-- the two constructors' cells are the first memory, and it keeps what must hold -/
theorem tc_world {g : tb_G} {A : Nat → Prop} {H : Heap} {h0 m0 : Nat} {w1 w2 : va_W} (hT : tc_pT g h0 w1) (hM : tc_pM g m0 w2) (hP : va_P (g.1, g.2.1) vwCl (w1 ++ w2) H) (hD : va_D A (w1 ++ w2)) : ∃ (ad : Nat → Nat) (z : tb_M), va_P (g.1, g.2.1) vwCl (tb_W (tc_ga g ad) z) H ∧ va_D A (tb_W (tc_ga g ad) z) ∧ ad 150 = h0 ∧ ad 157 = m0 ∧ tb_J z z 0 := by
  obtain ⟨sq, bq, hq, tq, pq, kq, fS, fH, ad0, ad1, ad2, ad3, z0, z1, z2, z3, ads, zs, rfl, hz0, hz1, hz2, hz3, hS, hF⟩ := hT
  obtain ⟨a1, a2, a3, a4, a5, a6, f, rfl, hf⟩ := hM
  have hA0 := fun (c : Nat) (hc : c < 15) => tc_ad_0 (x := tc_xf h0 sq bq hq tq pq kq m0 a1 a2 a3 a4 a5 a6) (ad0 := ad0) (ad1 := ad1) (ad2 := ad2) (ad3 := ad3) (ads := ads) (y := tc_yf f) (z0 := z0) (z1 := z1) (z2 := z2) (z3 := z3) (zs := zs) hc
  have hA1 := fun (c : Nat) (hc : c < 15) => tc_ad_1 (x := tc_xf h0 sq bq hq tq pq kq m0 a1 a2 a3 a4 a5 a6) (ad0 := ad0) (ad1 := ad1) (ad2 := ad2) (ad3 := ad3) (ads := ads) (y := tc_yf f) (z0 := z0) (z1 := z1) (z2 := z2) (z3 := z3) (zs := zs) hc
  have hA2 := fun (c : Nat) (hc : c < 15) => tc_ad_2 (x := tc_xf h0 sq bq hq tq pq kq m0 a1 a2 a3 a4 a5 a6) (ad0 := ad0) (ad1 := ad1) (ad2 := ad2) (ad3 := ad3) (ads := ads) (y := tc_yf f) (z0 := z0) (z1 := z1) (z2 := z2) (z3 := z3) (zs := zs) hc
  have hA3 := fun (c : Nat) (hc : c < 15) => tc_ad_3 (x := tc_xf h0 sq bq hq tq pq kq m0 a1 a2 a3 a4 a5 a6) (ad0 := ad0) (ad1 := ad1) (ad2 := ad2) (ad3 := ad3) (ads := ads) (y := tc_yf f) (z0 := z0) (z1 := z1) (z2 := z2) (z3 := z3) (zs := zs) hc
  have hA4 := fun (i : Nat) (hi : i < 6) (c : Nat) (hc : c < 15) => tc_ad_4 (x := tc_xf h0 sq bq hq tq pq kq m0 a1 a2 a3 a4 a5 a6) (ad0 := ad0) (ad1 := ad1) (ad2 := ad2) (ad3 := ad3) (ads := ads) (y := tc_yf f) (z0 := z0) (z1 := z1) (z2 := z2) (z3 := z3) (zs := zs) hi hc
  have hA5 := fun (c : Nat) => tc_ad_5 (x := tc_xf h0 sq bq hq tq pq kq m0 a1 a2 a3 a4 a5 a6) (ad0 := ad0) (ad1 := ad1) (ad2 := ad2) (ad3 := ad3) (ads := ads) (y := tc_yf f) (z0 := z0) (z1 := z1) (z2 := z2) (z3 := z3) (zs := zs) (c := c)
  generalize tc_adf (tc_xf h0 sq bq hq tq pq kq m0 a1 a2 a3 a4 a5 a6) ad0 ad1 ad2 ad3 ads = ad at hA0 hA1 hA2 hA3 hA4 hA5
  generalize tc_zf (tc_yf f) z0 z1 z2 z3 zs = z at hA0 hA1 hA2 hA3 hA4 hA5
  obtain ⟨r1, r2⟩ := tc_all (ad := ad) (z := z) hP hD (fun k hk => tc_made hA0 hA1 hA2 hA3 hA4 hA5 hS (fun i hi => (hF i hi).1) hk)
  refine ⟨ad, z, r1, r2, (hA5 0).1, (hA5 7).1, tb_J0 (fun i hi => ?_) ?_ ?_ ?_ ?_⟩
  · by_cases h0' : i = 0
    · subst h0'
      exact hz0.congr (fun c hc => (hA0 c hc).2)
    by_cases h1' : i = 1
    · subst h1'
      exact hz1.congr (fun c hc => (hA1 c hc).2)
    by_cases h2' : i = 2
    · subst h2'
      exact hz2.congr (fun c hc => (hA2 c hc).2)
    by_cases h3' : i = 3
    · subst h3'
      exact hz3.congr (fun c hc => (hA3 c hc).2)
    obtain ⟨j, rfl⟩ : ∃ j, i = 4 + j := ⟨i - 4, by omega⟩
    have hj : j < 6 := by omega
    refine (hF j hj).2.congr (fun c hc => ?_)
    show z (15 * (4 + j) + c) = zs j c
    rw [show 15 * (4 + j) + c = 60 + 15 * j + c by omega]
    exact (hA4 j hj c hc).2
  · rw [show z 158 = f from (hA5 8).2]
    exact hf
  · rw [show z 153 = fun _ => nI 0 from (hA5 3).2]
    exact ⟨rfl, rfl⟩
  · intro q hq
    rw [show z 152 = fun _ => nI 0 from (hA5 2).2, show z 162 = fun _ => nI 0 from (hA5 12).2]
    exact ⟨rfl, rfl⟩
  · rw [show z 155 = fun _ => nI 0 from (hA5 5).2, show z 157 = fun _ => nI 0 from (hA5 7).2]
    exact ⟨rfl, rfl, rfl⟩
