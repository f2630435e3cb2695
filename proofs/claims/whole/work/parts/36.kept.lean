/-! WHAT HOLDS BETWEEN THE TWO SIDES: the class reads z, the reference reads y -/
def tb_Hj (z y : tb_M) (N : Nat) : Prop := ∃ rc sz, z 153 1 = nI rc ∧ rc ≤ N ∧ z 153 0 = nI sz ∧ y 157 3 = nI sz ∧ sz ≤ 6 ∧ sz ≤ rc ∧ ∀ i, i < sz → tb_R z (60 + 15 * ((rc - sz + i) % 6)) (fun j => y 160 (139 * i + j)) N
def tb_Sj (z y : tb_M) (N : Nat) : Prop := ∀ q, q < 2 → z 152 q = y 162 q ∧ (¬ z 152 q = 0 → tb_R z (30 + 15 * q) (fun j => y 161 (139 * q + j)) N)
def tb_Pj (z y : tb_M) : Prop := ∃ n, z 155 0 = nI n ∧ y 157 7 = nI n ∧ n ≤ 64 ∧ ∀ i, i < n → z 156 i = y 163 i
def tb_GG (z : tb_M) : Prop := ∀ d, tb_isD d → tb_gold z d
def tb_J (z y : tb_M) (N : Nat) : Prop := tb_GG z ∧ tb_R z 0 (y 158) N ∧ tb_Hj z y N ∧ tb_Sj z y N ∧ tb_Pj z y
section TBKEPT
variable {z z' z'' y y' y'' : tb_M} {a b d r p q j k N M n : Nat} {s s' : Nat → Int32} {v v' x : Int32}
theorem tb_isD.lt (h : tb_isD d) : d < 150 ∧ d % 15 = 0 := by
  obtain ⟨i, hi, rfl⟩ := h
  omega
theorem tb_GG.O (h : tb_GG z) (hd : tb_isD d) (ho : tb_O z z' d) : tb_GG z' := fun e he => by
  obtain ⟨h1, h2⟩ := hd.lt
  obtain ⟨h3, h4⟩ := he.lt
  exact (h e he).c (ho _ (by omega)) (ho _ (by omega))
theorem tb_GG.kk (h : tb_GG z) (ho : ∀ k, k < 150 → z' k = z k) : tb_GG z' := fun e he => by
  obtain ⟨h3, h4⟩ := he.lt
  exact (h e he).c (ho _ (by omega)) (ho _ (by omega))
theorem tb_Hj.mono (h : tb_Hj z y N) (hN : N ≤ M) : tb_Hj z y M := by
  obtain ⟨rc, sz, h1, h2, h3, h4, h5, h6, h7⟩ := h
  exact ⟨rc, sz, h1, by omega, h3, h4, h5, h6, fun i hi => (h7 i hi).mono hN⟩
theorem tb_Sj.mono (h : tb_Sj z y N) (hN : N ≤ M) : tb_Sj z y M := fun q hq => ⟨(h q hq).1, fun c => ((h q hq).2 c).mono hN⟩
theorem tb_J.mono (h : tb_J z y N) (hN : N ≤ M) : tb_J z y M := ⟨h.1, h.2.1.mono hN, h.2.2.1.mono hN, h.2.2.2.1.mono hN, h.2.2.2.2⟩
theorem tb_Hj.c (h : tb_Hj z y N) (h3 : z' 153 = z 153) (ho : ∀ k, 60 ≤ k → k < 150 → z' k = z k) (hy : y' 157 3 = y 157 3) (hy2 : y' 160 = y 160) : tb_Hj z' y' N := by
  obtain ⟨rc, sz, h1, h2, h4, h5, h6, h7, h8⟩ := h
  refine ⟨rc, sz, by rw [h3, h1], h2, by rw [h3, h4], by rw [hy, h5], h6, h7, fun i hi => ?_⟩
  have hm : (rc - sz + i) % 6 < 6 := Nat.mod_lt _ (by decide)
  rw [hy2]
  exact (h8 i hi).cz (fun k h1 h2 => ho k (by omega) (by omega))
theorem tb_Sj.c (h : tb_Sj z y N) (h2 : z' 152 = z 152) (ho : ∀ k, 30 ≤ k → k < 60 → z' k = z k) (hy : y' 162 = y 162) (hy2 : y' 161 = y 161) : tb_Sj z' y' N := fun q hq => by
  rw [h2, hy, hy2]
  exact ⟨(h q hq).1, fun c => ((h q hq).2 c).cz (fun k h1 h2 => ho k (by omega) (by omega))⟩
theorem tb_Pj.c (h : tb_Pj z y) (h5 : z' 155 = z 155) (h6 : z' 156 = z 156) (hy : y' 157 7 = y 157 7) (hy2 : y' 163 = y 163) : tb_Pj z' y' := by
  unfold tb_Pj
  rw [h5, h6, hy, hy2]
  exact h
/-- only the cells of each side's own matter -/
theorem tb_J.own (h : tb_J z y N) (hz : ∀ k, k < 157 → z' k = z k) (hy : ∀ k, 157 ≤ k → y' k = y k) : tb_J z' y' N := by
  obtain ⟨h1, h2, h3, h4, h5⟩ := h
  refine ⟨h1.kk (fun k hk => hz k (by omega)), ?_, h3.c (hz _ (by decide)) (fun k _ hk => hz k (by omega)) (by rw [hy _ (by decide)]) (hy _ (by decide)), h4.c (hz _ (by decide)) (fun k _ hk => hz k (by omega)) (hy _ (by decide)) (hy _ (by decide)), h5.c (hz _ (by decide)) (hz _ (by decide)) (by rw [hy _ (by decide)]) (hy _ (by decide))⟩
  rw [hy 158 (by decide)]
  exact h2.cz (fun k _ hk => hz k (by omega))
/-- a change of the device alone -/
theorem tb_J.dev (h : tb_J z y N) (hO : tb_O z z' 0) (hOr : tb_Or y y') (hR : tb_R z' 0 (y' 158) M) (hN : N ≤ M) : tb_J z' y' M := by
  obtain ⟨h1, h2, h3, h4, h5⟩ := h
  exact ⟨h1.O tb_D0 hO, hR, (h3.c (hO _ (by omega)) (fun k _ _ => hO k (by omega)) (by rw [hOr _ (by decide)]) (hOr _ (by decide))).mono hN, (h4.c (hO _ (by omega)) (fun k _ _ => hO k (by omega)) (hOr _ (by decide)) (hOr _ (by decide))).mono hN, h5.c (hO _ (by omega)) (hO _ (by omega)) (by rw [hOr _ (by decide)]) (hOr _ (by decide))⟩
theorem tb_Hj.okR (h : tb_Hj z y N) (hN : N < 2 ^ 29) : tb_okR z ∧ tb_okRM y ∧ z 153 0 = nI (tb_rcM y) ∧ tb_rcM y ≤ tb_rc z ∧ tb_rc z ≤ N := by
  obtain ⟨rc, sz, h1, h2, h3, h4, h5, h6, _⟩ := h
  have e : tb_rc z = rc := by
    unfold tb_rc
    rw [h1, nI_clamp (by omega)]
  have e2 : tb_rcM y = sz := by
    unfold tb_rcM
    rw [h4, nI_clamp (by omega)]
  unfold tb_okR tb_okRM
  rw [e, e2]
  exact ⟨⟨h1, by omega⟩, ⟨h4, h5⟩, h3, h6, h2⟩
theorem tb_J.okR (h : tb_J z y N) (hN : N < 2 ^ 29) : tb_okR z ∧ tb_okRM y := ⟨(h.2.2.1.okR hN).1, (h.2.2.1.okR hN).2.1⟩
theorem tb_min_c {n : Nat} (h : n ≤ 6) : (if nI 6 < nI n + nI 1 then nI 6 else nI n + nI 1) = nI (min (n + 1) 6) := by
  rw [nI_add]
  by_cases c : n < 6
  · rw [if_neg (nI_nlt (by omega) (by omega))]
    congr 1
    omega
  · rw [if_pos (nI_lt (by omega) (by omega))]
    congr 1
    omega
/-- the class records: the cells behind it -/
theorem tb_recZ (z : tb_M) {rc sz : Nat} (h1 : z 153 1 = nI rc) (h0 : z 153 0 = nI sz) (hs : sz ≤ 6) : sz_X2_record z 0 rc 153 1 = nI (rc + 1) ∧ sz_X2_record z 0 rc 153 0 = nI (min (sz + 1) 6) ∧ (∀ k, k ≠ 153 → sz_X2_record z 0 rc k = sz_X1_copyFrom_m6 z (60 + 15 * (rc % 6)) 0 k) ∧ ∀ k, k ≠ 153 → (k < 60 + 15 * (rc % 6) ∨ 60 + 15 * (rc % 6) + 15 ≤ k ∨ k = 60 + 15 * (rc % 6) + 8 ∨ k = 60 + 15 * (rc % 6) + 9 ∨ k = 60 + 15 * (rc % 6) + 10) → sz_X2_record z 0 rc k = z k := by
  have hm : rc % 6 < 6 := Nat.mod_lt _ (by decide)
  obtain ⟨c1, c2, c3⟩ := tb_cD z (b := 0) (d := 60 + 15 * (rc % 6)) (by omega)
  have e : sz_X1_copyFrom_m6 z (60 + 15 * (rc % 6)) 0 153 = z 153 := c1 _ (by omega)
  unfold sz_X2_record sz_X2_record_m2 sz_X2_record_m1
  refine ⟨?_, ?_, fun k hk => ?_, fun k hk hk2 => ?_⟩
  · rw [tb_up_j _ _ _ (by decide), tb_up_s, e, h1, nI_add]
  · rw [tb_up_s, tb_up_j _ _ _ (by decide), e, h0, tb_min_c hs]
  · rw [tb_up_k _ _ _ hk, tb_up_k _ _ _ hk]
  · rw [tb_up_k _ _ _ hk, tb_up_k _ _ _ hk]
    exact c1 k hk2
theorem tb_recY_n (y : tb_M) {n : Nat} (h : y 157 3 = nI n) (hn : n < 6) : tb_recM y 157 3 = nI (n + 1) ∧ tb_recM y 160 = fun j => if 139 * n ≤ j ∧ j < 139 * n + 139 then y 158 (j - 139 * n) else y 160 j := by
  have e2 : tb_rcM y = n := by
    unfold tb_rcM
    rw [h, nI_clamp (by omega)]
  unfold tb_recM
  rw [e2, if_neg (by omega)]
  unfold sz_X6_record_n sz_X6_record_n_m1
  refine ⟨?_, ?_⟩
  · rw [tb_up_s, tb_mv_k _ (by decide), h, nI_add]
  · rw [tb_up_k _ _ _ (by decide)]
    funext j
    rw [tb_mv_e _ (by decide)]
    by_cases c : n * 139 ≤ j ∧ j < n * 139 + 139
    · rw [if_pos c, if_pos (by omega)]
      congr 1
      omega
    · rw [if_neg c, if_neg (by omega)]
theorem tb_recY_f (y : tb_M) (h : y 157 3 = nI 6) : tb_recM y 157 3 = nI 6 ∧ tb_recM y 160 = fun j => if 695 ≤ j ∧ j < 834 then y 158 (j - 695) else if j < 695 then y 160 (j + 139) else y 160 j := by
  have e2 : tb_rcM y = 6 := by
    unfold tb_rcM
    rw [h, nI_clamp (by omega)]
  unfold tb_recM
  rw [e2, if_pos rfl]
  unfold sz_X6_record_full sz_X6_record_full_m2 sz_X6_record_full_m1
  refine ⟨?_, ?_⟩
  · rw [tb_up_s, tb_mv_k _ (by decide), tb_up_s]
    rfl
  · rw [tb_up_k _ _ _ (by decide)]
    funext j
    rw [tb_mv_e _ (by decide), tb_up_k _ _ _ (by decide), tb_up_k _ _ _ (by decide), tb_sh_k _ (by decide), tb_sh_e]
    by_cases c : 695 ≤ j ∧ j < 695 + 139
    · rw [if_pos c, if_pos (show 695 ≤ j ∧ j < 834 by omega), Nat.zero_add]
    · rw [if_neg c, if_neg (show ¬ (695 ≤ j ∧ j < 834) by omega)]
theorem tb_J.rec (h : tb_J z y N) (hN : N < 2 ^ 29) : tb_J (sz_X2_record z 0 (tb_rc z)) (tb_recM y) (N + 1) := by
  obtain ⟨h1, h2, h3, h4, h5⟩ := h
  have hH := h3
  obtain ⟨rc, sz, e1, e2, e3, e4, e5, e6, e7⟩ := hH
  have e : tb_rc z = rc := by
    unfold tb_rc
    rw [e1, nI_clamp (by omega)]
  rw [e]
  have hm : rc % 6 < 6 := Nat.mod_lt _ (by decide)
  obtain ⟨r1, r2, r3, r4⟩ := tb_recZ z e1 e3 e5
  have hK : ∀ k, k ≠ 157 ∧ k ≠ 160 → tb_recM y k = y k := fun k hk => tb_recM_k y hk
  have h7 : tb_recM y 157 7 = y 157 7 := tb_recM_7 y
  have hcopy : tb_R (sz_X1_copyFrom_m6 z (60 + 15 * (rc % 6)) 0) (60 + 15 * (rc % 6)) (y 158) N := h2.copy (by omega)
  have hlast : tb_R (sz_X2_record z 0 rc) (60 + 15 * (rc % 6)) (y 158) N := hcopy.cz (fun k a b => r3 k (by omega))
  refine ⟨?_, ?_, ?_, ?_, ?_⟩
  · intro d hd
    obtain ⟨a1, a2⟩ := hd.lt
    exact (h1 d hd).c (r4 _ (by omega) (by omega)) (r4 _ (by omega) (by omega))
  · rw [hK 158 (by decide)]
    exact (h2.cz (fun k a b => r4 k (by omega) (by omega))).mono (by omega)
  · by_cases c : sz < 6
    · obtain ⟨y1, y2⟩ := tb_recY_n y e4 c
      have hmin : min (sz + 1) 6 = sz + 1 := by omega
      refine ⟨rc + 1, sz + 1, r1, by omega, by rw [r2, hmin], y1, by omega, by omega, fun i hi => ?_⟩
      have hsub : rc + 1 - (sz + 1) + i = rc - sz + i := by omega
      rw [hsub, y2]
      by_cases ci : i = sz
      · have hidx : (rc - sz + i) % 6 = rc % 6 := by
          congr 1
          omega
        rw [hidx]
        refine (hlast.cs (fun j hj => ?_)).mono (by omega)
        show (if 139 * sz ≤ 139 * i + j ∧ 139 * i + j < 139 * sz + 139 then y 158 (139 * i + j - 139 * sz) else y 160 (139 * i + j)) = y 158 j
        rw [if_pos (by omega)]
        congr 1
        omega
      · have hm2 : (rc - sz + i) % 6 < 6 := Nat.mod_lt _ (by decide)
        have hne : (rc - sz + i) % 6 ≠ rc % 6 := by omega
        refine (((e7 i (by omega)).cz (fun k a b => r4 k (by omega) (by omega))).cs (fun j hj => ?_)).mono (by omega)
        show (if 139 * sz ≤ 139 * i + j ∧ 139 * i + j < 139 * sz + 139 then y 158 (139 * i + j - 139 * sz) else y 160 (139 * i + j)) = y 160 (139 * i + j)
        rw [if_neg (by omega)]
    · have hsz : sz = 6 := by omega
      subst hsz
      obtain ⟨y1, y2⟩ := tb_recY_f y e4
      refine ⟨rc + 1, 6, r1, by omega, r2, y1, by omega, by omega, fun i hi => ?_⟩
      rw [y2]
      by_cases ci : i = 5
      · have hidx : (rc + 1 - 6 + i) % 6 = rc % 6 := by
          congr 1
          omega
        rw [hidx]
        refine (hlast.cs (fun j hj => ?_)).mono (by omega)
        show (if 695 ≤ 139 * i + j ∧ 139 * i + j < 834 then y 158 (139 * i + j - 695) else if 139 * i + j < 695 then y 160 (139 * i + j + 139) else y 160 (139 * i + j)) = y 158 j
        have e9 : 139 * i + j - 695 = j := by omega
        rw [if_pos (by omega), e9]
      · have hm2 : (rc + 1 - 6 + i) % 6 < 6 := Nat.mod_lt _ (by decide)
        have hne : (rc + 1 - 6 + i) % 6 ≠ rc % 6 := by omega
        have hsub : rc + 1 - 6 + i = rc - 6 + (i + 1) := by omega
        rw [hsub] at hm2 hne ⊢
        refine (((e7 (i + 1) (by omega)).cz (fun k a b => r4 k (by omega) (by omega))).cs (fun j hj => ?_)).mono (by omega)
        show (if 695 ≤ 139 * i + j ∧ 139 * i + j < 834 then y 158 (139 * i + j - 695) else if 139 * i + j < 695 then y 160 (139 * i + j + 139) else y 160 (139 * i + j)) = y 160 (139 * (i + 1) + j)
        have e9 : 139 * i + j + 139 = 139 * (i + 1) + j := by omega
        rw [if_neg (by omega), if_pos (by omega), e9]
  · exact (h4.c (r4 _ (by omega) (by omega)) (fun k a b => r4 k (by omega) (by omega)) (hK _ (by decide)) (hK _ (by decide))).mono (by omega)
  · exact h5.c (r4 _ (by omega) (by omega)) (r4 _ (by omega) (by omega)) h7 (hK _ (by decide))
theorem tb_rec_0 (z : tb_M) {rc : Nat} (hk : k < 60) : sz_X2_record z 0 rc k = z k := tb_rec_k z 0 rc (Or.inl hk)
theorem tb_rec_M (y : tb_M) : tb_recM y 158 = y 158 := tb_recM_k y (by decide)
end TBKEPT
