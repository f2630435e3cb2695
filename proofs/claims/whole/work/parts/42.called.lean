/-! EVERY CALL OF THE LAW: the class's contract and the reference's, with one answer -/
def tb_St (l : Launch) (g : tb_G) (y5 : MethodName) (c5 : ByteArray) (L5 : Nat) (y6 : MethodName) (c6 : ByteArray) (L6 : Nat) (As : List Value) (z : tb_M) (M : Nat) : Prop := ∃ (r : Int32) (z1 z2 : tb_M) (n1 n2 : Nat), n1 ≤ 8 ∧ n2 ≤ 8 ∧ tb_Mi .int l y5 c5 L5 n1 g z (.ref (tb_ad g 150) :: As) r z1 ∧ tb_Mi .int l y6 c6 L6 n2 g z1 (.ref (tb_ad g 157) :: As) r z2 ∧ tb_J z2 z2 M
section TBCALLED
variable {z : tb_M} {N : Nat}
theorem tb_arg {x : Int32} {a b : Nat} (h : ¬ ¬ (¬ (x < nI a) ∧ (¬ (nI b < x)))) (hb : b < 2 ^ 31) (ha : a < 2 ^ 31) : ∃ t, x = nI t ∧ a ≤ t ∧ t ≤ b := by
  obtain ⟨h1, h2⟩ := Decidable.not_not.mp h
  exact tb_rng h1 h2 hb ha
theorem tb_St.q {l : Launch} {g : tb_G} {y5 : MethodName} {c5 : ByteArray} {L5 n1 : Nat} {y6 : MethodName} {c6 : ByteArray} {L6 n2 : Nat} {As : List Value} {r r' : Int32} (h : tb_J z z N) (h1 : n1 ≤ 8) (h2 : n2 ≤ 8) (m5 : tb_Mi .int l y5 c5 L5 n1 g z (.ref (tb_ad g 150) :: As) r z) (m6 : tb_Mi .int l y6 c6 L6 n2 g z (.ref (tb_ad g 157) :: As) r' z) (e : r = r') : tb_St l g y5 c5 L5 y6 c6 L6 As z (N + 1001) := by
  subst e
  exact ⟨r, z, z, n1, n2, h1, h2, m5, m6, h.mono (by omega)⟩
/-- the class first, then the reference over what it left -/
theorem tb_St.m {l : Launch} {g : tb_G} {y5 : MethodName} {c5 : ByteArray} {L5 n1 : Nat} {y6 : MethodName} {c6 : ByteArray} {L6 n2 : Nat} {As : List Value} {r r' : Int32} {z1 z2 : tb_M} {M : Nat} (h1 : n1 ≤ 8) (h2 : n2 ≤ 8) (m5 : tb_Mi .int l y5 c5 L5 n1 g z (.ref (tb_ad g 150) :: As) r z1) (m6 : tb_Mi .int l y6 c6 L6 n2 g z1 (.ref (tb_ad g 157) :: As) r' z2) (e : r = r') (hJ : tb_J z1 z2 M) (hM : tb_fM z1 z2) (hle : M ≤ N + 1001) : tb_St l g y5 c5 L5 y6 c6 L6 As z (N + 1001) := by
  subst e
  exact ⟨r, z1, z2, n1, n2, h1, h2, m5, m6, (hJ.nx2 hM).mono hle⟩
theorem s_fill (l : Launch) (g : tb_G) (h : tb_J z z N) (hN : N + 4001 < 2 ^ 29) (x w : Int32) : tb_St l g yX5_fill cX5_fill 4 yX6_fill cX6_fill 3 [.int x, .int w] z (N + 1001) := by
  by_cases hx : ¬ (¬ (x < nI 0) ∧ (¬ (nI 1 < x)))
  · exact tb_St.q h (n1 := 2) (n2 := 2) (by decide) (by decide) (c_X5_fill_bad l g z x w hx) (c_X6_fill_bad l g z x w hx) rfl
  obtain ⟨sl, rfl, _, hs⟩ := tb_arg hx (by decide) (by decide)
  have hsl : sl < 2 := by omega
  have o1 := o_fill (w := w) h (by omega) hsl
  have h1 := h.nx o1.2.2.1
  have o2 := o_fill (w := w) h1 (by omega) hsl
  exact tb_St.m (n1 := 4) (n2 := 2) (by decide) (by decide) (c_X5_fill l g z sl w hsl (h.okF hsl).1 (h.okR (by omega)).1) (c_X6_fill l g _ sl w hsl (h1.okF hsl).2.1 (h1.okR (by omega)).2) o2.1 o2.2.1 o2.2.2.2 (by omega)
theorem s_finish (l : Launch) (g : tb_G) (h : tb_J z z N) (hN : N + 4001 < 2 ^ 29) (x : Int32) : tb_St l g yX5_finish cX5_finish 3 yX6_finish cX6_finish 3 [.int x] z (N + 1001) := by
  by_cases hx : ¬ (¬ (x < nI 0) ∧ (¬ (nI 1 < x)))
  · exact tb_St.q h (n1 := 2) (n2 := 2) (by decide) (by decide) (c_X5_finish_bad l g z x hx) (c_X6_finish_bad l g z x hx) rfl
  obtain ⟨sl, rfl, _, hs⟩ := tb_arg hx (by decide) (by decide)
  have hsl : sl < 2 := by omega
  have o1 := o_finish h (by omega) hsl
  have h1 := h.nx o1.2.2.1
  have o2 := o_finish h1 (by omega) hsl
  exact tb_St.m (n1 := 4) (n2 := 4) (by decide) (by decide) (c_X5_finish l g z sl  hsl (h.okF hsl).1 (h.okR (by omega)).1) (c_X6_finish l g _ sl  hsl (h1.okF hsl).2.1 (h1.okR (by omega)).2) o2.1 o2.2.1 o2.2.2.2 (by omega)
theorem s_repair (l : Launch) (g : tb_G) (h : tb_J z z N) (hN : N + 4001 < 2 ^ 29) (x : Int32) : tb_St l g yX5_repair cX5_repair 3 yX6_repair cX6_repair 3 [.int x] z (N + 1001) := by
  by_cases hx : ¬ (¬ (x < nI 0) ∧ (¬ (nI 1 < x)))
  · exact tb_St.q h (n1 := 2) (n2 := 2) (by decide) (by decide) (c_X5_repair_bad l g z x hx) (c_X6_repair_bad l g z x hx) rfl
  obtain ⟨sl, rfl, _, hs⟩ := tb_arg hx (by decide) (by decide)
  have hsl : sl < 2 := by omega
  have o1 := o_repair h (by omega) hsl
  have h1 := h.nx o1.2.2.1
  have o2 := o_repair h1 (by omega) hsl
  exact tb_St.m (n1 := 4) (n2 := 3) (by decide) (by decide) (c_X5_repair l g z sl  hsl (h.okR (by omega)).1) (c_X6_repair l g _ sl  hsl (h1.okR (by omega)).2) o2.1 o2.2.1 o2.2.2.2 (by omega)
theorem s_fillAll (l : Launch) (g : tb_G) (h : tb_J z z N) (hN : N + 4001 < 2 ^ 29) (x : Int32) : tb_St l g yX5_fillAll cX5_fillAll 5 yX6_fillAll cX6_fillAll 3 [.int x] z (N + 1001) := by
  by_cases hx : ¬ (¬ (x < nI 0) ∧ (¬ (nI 1 < x)))
  · exact tb_St.q h (n1 := 2) (n2 := 2) (by decide) (by decide) (c_X5_fillAll_bad l g z x hx) (c_X6_fillAll_bad l g z x hx) rfl
  obtain ⟨sl, rfl, _, hs⟩ := tb_arg hx (by decide) (by decide)
  have hsl : sl < 2 := by omega
  have o1 := o_fillAll h (by omega) hsl
  have h1 := h.nx o1.2.2.1
  have o2 := o_fillAll h1 (by omega) hsl
  exact tb_St.m (n1 := 4) (n2 := 3) (by decide) (by decide) (c_X5_fillAll l g z sl  hsl h.2.2.2.2.okP.1 (h.okF hsl).1 (h.okR (by omega)).1) (c_X6_fillAll l g _ sl  hsl h1.2.2.2.2.okP.2.1 (h1.okF hsl).2.1 (h1.okR (by omega)).2) o2.1 o2.2.1 o2.2.2.2 (by omega)
theorem s_set (l : Launch) (g : tb_G) (h : tb_J z z N) (hN : N + 4001 < 2 ^ 29) (x y : Int32) : tb_St l g yX5_set cX5_set 4 yX6_set cX6_set 4 [.int x, .int y] z (N + 1001) := by
  by_cases hx : ¬ (¬ (x < nI 0) ∧ (¬ (nI 2 < x)))
  · exact tb_St.q h (n1 := 1) (n2 := 1) (by decide) (by decide) (c_X5_set_bad l g z x y hx) (c_X6_set_bad l g z x y hx) rfl
  obtain ⟨q, rfl, _, hs⟩ := tb_arg hx (by decide) (by decide)
  have hq : q < 3 := by omega
  have o1 := o_set (v := y) h (by omega) hq
  have h1 := h.nx o1.2.2.1
  have o2 := o_set (v := y) h1 (by omega) hq
  exact tb_St.m (n1 := 4) (n2 := 2) (by decide) (by decide) (c_X5_set l g z q y hq (h.okR (by omega)).1) (c_X6_set l g _ q y hq (h1.okR (by omega)).2) o2.1 o2.2.1 o2.2.2.2 (by omega)
theorem s_begin (l : Launch) (g : tb_G) (h : tb_J z z N) (hN : N + 4001 < 2 ^ 29) (x v n t : Int32) : tb_St l g yX5_begin cX5_begin 7 yX6_begin cX6_begin 6 [.int x, .int v, .int n, .int t] z (N + 1001) := by
  by_cases hx : ¬ (¬ (x < nI 0) ∧ (¬ (nI 1 < x)))
  · exact tb_St.q h (n1 := 2) (n2 := 2) (by decide) (by decide) (c_X5_begin_bad l g z x v n t hx) (c_X6_begin_bad l g z x v n t hx) rfl
  obtain ⟨sl, rfl, _, hs⟩ := tb_arg hx (by decide) (by decide)
  have hsl : sl < 2 := by omega
  by_cases hn : ¬ (¬ (n < nI 2) ∧ (¬ (nI 32 < n)))
  · exact tb_St.q h (n1 := 2) (n2 := 2) (by decide) (by decide) (c_X5_begin_len l g z sl v n t hsl hn) (c_X6_begin_len l g z sl v n t hsl hn) rfl
  obtain ⟨m, rfl, hm1, hm2⟩ := tb_arg hn (by decide) (by decide)
  obtain ⟨hr, hr3, hr5, _⟩ := h.2.1.rn
  have o1 := o_begin (v := v) (t := t) (rn := tb_rn z 0) h (by omega) hsl ⟨hm1, hm2⟩
  have h1 := h.nx o1.2.2.1
  have o2 := o_begin (v := v) (t := t) (rn := tb_rn z 0) h1 (by omega) hsl ⟨hm1, hm2⟩
  exact tb_St.m (n1 := 4) (n2 := 3) (by decide) (by decide) (c_X5_begin l g z sl v m t (tb_rn z 0) hsl ⟨hm1, hm2⟩ hr5 hr (h.okR (by omega)).1) (c_X6_begin l g _ sl v m t (tb_rn z 0) hsl ⟨hm1, hm2⟩ (by rw [o1.2.2.1 158 (by decide)]; exact hr3) hr (h1.okR (by omega)).2) o2.1 o2.2.1 o2.2.2.2 (by omega)
theorem s_damage (l : Launch) (g : tb_G) (h : tb_J z z N) (hN : N + 4001 < 2 ^ 29) (x w v : Int32) : tb_St l g yX5_damage cX5_damage 5 yX6_damage cX6_damage 4 [.int x, .int w, .int v] z (N + 1001) := by
  by_cases hx : ¬ (¬ (x < nI 0) ∧ (¬ (nI 1 < x)))
  · exact tb_St.q h (n1 := 2) (n2 := 2) (by decide) (by decide) (c_X5_damage_bad l g z x w v hx) (c_X6_damage_bad l g z x w v hx) rfl
  obtain ⟨sl, rfl, _, hs⟩ := tb_arg hx (by decide) (by decide)
  have hsl : sl < 2 := by omega
  by_cases hw : ¬ (¬ (w < nI 0) ∧ (¬ (nI 31 < w)))
  · exact tb_St.q h (n1 := 2) (n2 := 2) (by decide) (by decide) (c_X5_damage_w l g z sl w v hsl hw) (c_X6_damage_w l g z sl w v hsl hw) rfl
  obtain ⟨m, rfl, _, hm2⟩ := tb_arg hw (by decide) (by decide)
  have hm : m < 32 := by omega
  have o1 := o_damage (v := v) h (by omega) hsl hm
  have h1 := h.nx o1.2.2.1
  have o2 := o_damage (v := v) h1 (by omega) hsl hm
  exact tb_St.m (n1 := 4) (n2 := 2) (by decide) (by decide) (c_X5_damage l g z sl m v hsl hm (h.okR (by omega)).1) (c_X6_damage l g _ sl m v hsl hm (h1.okR (by omega)).2) o2.1 o2.2.1 o2.2.2.2 (by omega)
theorem s_start (l : Launch) (g : tb_G) (h : tb_J z z N) (hN : N + 4001 < 2 ^ 29) (qq : Prop) [Decidable qq] : tb_St l g yX5_start cX5_start 2 yX6_start cX6_start 2 [.int (tb_b qq)] z (N + 1001) := by
  have o1 := o_start (qq := qq) h (by omega)
  have h1 := h.nx o1.2.2.1
  have o2 := o_start (qq := qq) h1 (by omega)
  exact tb_St.m (n1 := 5) (n2 := 6) (by decide) (by decide) (c_X5_start l g z qq (h.2.1.okS (h.1 0 tb_D0) (by omega)) (h.okR (by omega)).1) (c_X6_start l g _ qq h1.2.1.okTM (h1.okR (by omega)).2) o2.1 o2.2.1 o2.2.2.2 (by omega)
theorem s_pass (l : Launch) (g : tb_G) (h : tb_J z z N) (hN : N + 4001 < 2 ^ 29) (x : Int32) : tb_St l g yX5_pass cX5_pass 2 yX6_pass cX6_pass 2 [.int x] z (N + 1001) := by
  by_cases hx : ¬ (¬ (x < nI 1) ∧ (¬ (nI 500 < x)))
  · exact tb_St.q h (n1 := 1) (n2 := 1) (by decide) (by decide) (c_X5_pass_bad l g z x hx) (c_X6_pass_bad l g z x hx) rfl
  obtain ⟨t, rfl, ht1, ht2⟩ := tb_arg hx (by decide) (by decide)
  have o1 := o_pass h (by omega) ht2
  have h1 := h.nx o1.2.2.2.2.1
  have o2 := o_pass h1 (by omega) ht2
  exact tb_St.m (n1 := 6) (n2 := 8) (by decide) (by decide) (c_X5_pass l g z t ⟨ht1, ht2⟩ (h.okR (by omega)).1 o1.1) (c_X6_pass l g _ t ⟨ht1, ht2⟩ (h1.okR (by omega)).2 o2.2.1) o2.2.2.1 o2.2.2.2.1 o2.2.2.2.2.2 (by omega)
theorem s_slot (l : Launch) (g : tb_G) (h : tb_J z z N) (hN : N + 4001 < 2 ^ 29) (x w : Int32) : tb_St l g yX5_slot cX5_slot 4 yX6_slot cX6_slot 3 [.int x, .int w] z (N + 1001) := by
  by_cases hx : ¬ (¬ (x < nI 0) ∧ (¬ (nI 1 < x)))
  · exact tb_St.q h (n1 := 2) (n2 := 2) (by decide) (by decide) (c_X5_slot_bad l g z x w hx) (c_X6_slot_bad l g z x w hx) rfl
  obtain ⟨sl, rfl, _, hs⟩ := tb_arg hx (by decide) (by decide)
  have hsl : sl < 2 := by omega
  exact tb_St.q h (n1 := 2) (n2 := 3) (by decide) (by decide) (c_X5_slot l g z sl w hsl (h.okF hsl).1.1) (c_X6_slot l g z sl w hsl (h.okF hsl).2.1.1) (o_slot h hsl)
theorem s_word (l : Launch) (g : tb_G) (h : tb_J z z N) (hN : N + 4001 < 2 ^ 29) (x w : Int32) : tb_St l g yX5_word cX5_word 3 yX6_word cX6_word 3 [.int x, .int w] z (N + 1001) := by
  by_cases hx : ¬ (¬ (x < nI 0) ∧ (¬ (nI 2 < x)))
  · exact tb_St.q h (n1 := 1) (n2 := 1) (by decide) (by decide) (c_X5_word_bad l g z x w hx) (c_X6_word_bad l g z x w hx) rfl
  obtain ⟨r, rfl, _, hr⟩ := tb_arg hx (by decide) (by decide)
  by_cases hw : ¬ (¬ (w < nI 0) ∧ (¬ (nI 31 < w)))
  · exact tb_St.q h (n1 := 1) (n2 := 1) (by decide) (by decide) (c_X5_word_w l g z r w hr hw) (c_X6_word_w l g z r w hr hw) rfl
  obtain ⟨m, rfl, _, hm2⟩ := tb_arg hw (by decide) (by decide)
  have hm : m < 32 := by omega
  exact tb_St.q h (n1 := 1) (n2 := 2) (by decide) (by decide) (c_X5_word l g z r m hr hm) (c_X6_word l g z r m hr hm) (o_word h hr hm)
theorem s_wear (l : Launch) (g : tb_G) (h : tb_J z z N) (hN : N + 4001 < 2 ^ 29) (x w : Int32) : tb_St l g yX5_wear cX5_wear 3 yX6_wear cX6_wear 3 [.int x, .int w] z (N + 1001) := by
  by_cases hx : ¬ (¬ (x < nI 0) ∧ (¬ (nI 1 < x)))
  · exact tb_St.q h (n1 := 2) (n2 := 2) (by decide) (by decide) (c_X5_wear_bad l g z x w hx) (c_X6_wear_bad l g z x w hx) rfl
  obtain ⟨sl, rfl, _, hs⟩ := tb_arg hx (by decide) (by decide)
  have hsl : sl < 2 := by omega
  by_cases hw : ¬ (¬ (w < nI 0) ∧ (¬ (nI 7 < w)))
  · exact tb_St.q h (n1 := 2) (n2 := 2) (by decide) (by decide) (c_X5_wear_w l g z sl w hsl hw) (c_X6_wear_w l g z sl w hsl hw) rfl
  obtain ⟨m, rfl, _, hm2⟩ := tb_arg hw (by decide) (by decide)
  have hm : m < 8 := by omega
  exact tb_St.q h (n1 := 2) (n2 := 2) (by decide) (by decide) (c_X5_wear l g z sl m hsl hm) (c_X6_wear l g z sl m hsl hm) (o_wear h hsl hm)
theorem s_past (l : Launch) (g : tb_G) (h : tb_J z z N) (hN : N + 4001 < 2 ^ 29) (x w : Int32) : tb_St l g yX5_past cX5_past 4 yX6_past cX6_past 3 [.int x, .int w] z (N + 1001) := by
  obtain ⟨k1, k2, k3, k4⟩ := h.kp (by omega)
  by_cases hx : ¬ (¬ (x < nI 0) ∧ (¬ (z 11 2 - nI 1 < x)))
  · exact tb_St.q h (n1 := 1) (n2 := 1) (by decide) (by decide) (c_X5_past_bad l g z x w hx) (c_X6_past_bad l g z x w (by rw [← k2]; exact hx)) rfl
  obtain ⟨b, rfl, hb⟩ : ∃ b, x = nI b ∧ b < tb_kp z := by
    obtain ⟨h1, h2⟩ := Decidable.not_not.mp hx
    rw [k2, k3] at h2
    have h0 : ¬ x < 0 := h1
    obtain ⟨b, hb, rfl⟩ := nI_of h0
    refine ⟨b, rfl, ?_⟩
    have e := tb_sub_pos (t := tb_kp z) (g := nI 1) (by omega) (by decide)
    rw [Int32.lt_iff_toInt_lt, e, nI_toInt hb] at h2
    have e1 : (nI 1).toInt = 1 := rfl
    omega
  by_cases hw : ¬ (¬ (w < nI 0) ∧ (¬ (nI 2 < w)))
  · exact tb_St.q h (n1 := 2) (n2 := 1) (by decide) (by decide) (c_X5_past l g z b w hb k1) (c_X6_past_w l g z b w (tb_kp z) k3 k4 hb hw) ((o_past (x := w) h (by omega) hb).2 hw)
  obtain ⟨m, rfl, _, hm2⟩ := tb_arg hw (by decide) (by decide)
  have hm : m < 3 := by omega
  exact tb_St.q h (n1 := 2) (n2 := 1) (by decide) (by decide) (c_X5_past l g z b (nI m) hb k1) (c_X6_past l g z b m (tb_kp z) k3 k4 hb hm) ((o_past (x := nI m) h (by omega) hb).1 m hm)
theorem s_count (l : Launch) (g : tb_G) (h : tb_J z z N) (hN : N + 4001 < 2 ^ 29) (w : Int32) : tb_St l g yX5_count cX5_count 2 yX6_count cX6_count 2 [.int w] z (N + 1001) := by
  exact tb_St.q h (n1 := 2) (n2 := 3) (by decide) (by decide) (c_X5_count l g z w (h.2.1.okL (h.1 0 tb_D0) 2)) (c_X6_count l g z w) (o_count h)
theorem s_padSum (l : Launch) (g : tb_G) (h : tb_J z z N) (hN : N + 4001 < 2 ^ 29) : tb_St l g yX5_padSum cX5_padSum 1 yX6_padSum cX6_padSum 3 [] z (N + 1001) := by
  exact tb_St.q h (n1 := 4) (n2 := 3) (by decide) (by decide) (c_X5_padSum l g z h.2.2.2.2.okP.1) (c_X6_padSum l g z h.2.2.2.2.okP.2.1) (o_padSum h)
theorem s_fault (l : Launch) (g : tb_G) (h : tb_J z z N) (hN : N + 4001 < 2 ^ 29) : tb_St l g yX5_fault cX5_fault 1 yX6_fault cX6_fault 1 [] z (N + 1001) := by
  exact tb_St.q h (n1 := 3) (n2 := 3) (by decide) (by decide) (c_X5_fault l g z h.2.2.2.2.okP.1) (c_X6_fault l g z h.2.2.2.2.okP.2.1) (o_fault h)
theorem s_ifStarted (l : Launch) (g : tb_G) (h : tb_J z z N) (hN : N + 4001 < 2 ^ 29) (qq : Prop) [Decidable qq] : tb_St l g yX5_ifStarted cX5_ifStarted 2 yX6_ifStarted cX6_ifStarted 4 [.int (tb_b qq)] z (N + 1001) := by
  have o1 := o_ifStarted (qq := qq) h (by omega)
  have h1 := h.nx o1.2.2.2.1
  have o2 := o_ifStarted (qq := qq) h1 (by omega)
  exact tb_St.m (n1 := 5) (n2 := 6) (by decide) (by decide) (c_X5_ifStarted l g z qq o1.1) (c_X6_ifStarted l g _ qq h1.2.1.okTM) o2.2.1 o2.2.2.1 o2.2.2.2.2 (by omega)
theorem s_ifPassed (l : Launch) (g : tb_G) (h : tb_J z z N) (hN : N + 4001 < 2 ^ 29) (x w : Int32) : tb_St l g yX5_ifPassed cX5_ifPassed 4 yX6_ifPassed cX6_ifPassed 5 [.int x, .int w] z (N + 1001) := by
  by_cases hx : ¬ (¬ (x < nI 1) ∧ (¬ (nI 500 < x)))
  · exact tb_St.q h (n1 := 1) (n2 := 1) (by decide) (by decide) (c_X5_ifPassed_bad l g z x w hx) (c_X6_ifPassed_bad l g z x w hx) rfl
  obtain ⟨t, rfl, ht1, ht2⟩ := tb_arg hx (by decide) (by decide)
  have o1 := o_ifPassed h (by omega) ht2
  have m5 := c_X5_ifPassed l g z t w ⟨ht1, ht2⟩ o1.1
  unfold sr_X5_ifPassed sz_X5_ifPassed at m5
  by_cases hw : ¬ (¬ (w < nI 0) ∧ (¬ (nI 3 < w)))
  · rw [if_neg hw, if_neg hw] at m5
    exact tb_St.q h (n1 := 6) (n2 := 1) (by decide) (by decide) m5 (c_X6_ifPassed_w l g z t w ⟨ht1, ht2⟩ hw) rfl
  have hw' := Decidable.not_not.mp hw
  rw [if_pos hw', if_pos hw'] at m5
  have h1 := h.nx o1.2.2.2.2.2.2.1
  have o2 := o_ifPassed h1 (by omega) ht2
  obtain ⟨m, rfl, _, hm2⟩ := tb_arg hw (by decide) (by decide)
  have hm : m = 0 ∨ m = 1 ∨ m = 2 ∨ m = 3 := by omega
  rcases hm with rfl | rfl | rfl | rfl
  · rw [if_pos rfl] at m5
    exact tb_St.m (n1 := 6) (n2 := 8) (by decide) (by decide) m5 (c_X6_ifPassed_0 l g _ t ⟨ht1, ht2⟩ o2.2.1) o2.2.2.1 o2.2.2.2.2.2.1 o2.2.2.2.2.2.2.2 (by omega)
  · rw [if_neg (by decide), if_pos rfl] at m5
    exact tb_St.m (n1 := 6) (n2 := 8) (by decide) (by decide) m5 (c_X6_ifPassed_1 l g _ t ⟨ht1, ht2⟩ o2.2.1) o2.2.2.2.1 o2.2.2.2.2.2.1 o2.2.2.2.2.2.2.2 (by omega)
  · rw [if_neg (by decide), if_neg (by decide), if_pos rfl] at m5
    exact tb_St.m (n1 := 6) (n2 := 8) (by decide) (by decide) m5 (c_X6_ifPassed_2 l g _ t ⟨ht1, ht2⟩ o2.2.1) (o2.2.2.2.2.1 0 (by decide)) o2.2.2.2.2.2.1 o2.2.2.2.2.2.2.2 (by omega)
  · rw [if_neg (by decide), if_neg (by decide), if_neg (by decide)] at m5
    exact tb_St.m (n1 := 6) (n2 := 8) (by decide) (by decide) m5 (c_X6_ifPassed_3 l g _ t ⟨ht1, ht2⟩ o2.2.1) (o2.2.2.2.2.1 1 (by decide)) o2.2.2.2.2.2.1 o2.2.2.2.2.2.2.2 (by omega)
theorem s_nextStart (l : Launch) (g : tb_G) (h : tb_J z z N) (hN : N + 4001 < 2 ^ 29) : tb_St l g yX5_nextStart cX5_nextStart 2 yX6_nextStart cX6_nextStart 3 [] z (N + 1001) := by
  have o1 := o_nextStart h (by omega)
  have h1 := h.nx o1.2.2.2.2.1
  have o2 := o_nextStart h1 (by omega)
  exact tb_St.m (n1 := 3) (n2 := 7) (by decide) (by decide) (c_X5_nextStart l g z o1.1) (c_X6_nextStart l g _ o2.2.1) o2.2.2.1 o2.2.2.2.1 o2.2.2.2.2.2 (by omega)
theorem s_lasts (l : Launch) (g : tb_G) (h : tb_J z z N) (hN : N + 4001 < 2 ^ 29) (x n : Int32) : tb_St l g yX5_lasts cX5_lasts 3 yX6_lasts cX6_lasts 4 [.int x, .int n] z (N + 1001) := by
  by_cases hx : ¬ (¬ (x < nI 0) ∧ (¬ (nI 1 < x)))
  · exact tb_St.q h (n1 := 2) (n2 := 2) (by decide) (by decide) (c_X5_lasts_bad l g z x n hx) (c_X6_lasts_bad l g z x n hx) rfl
  obtain ⟨sl, rfl, _, hs⟩ := tb_arg hx (by decide) (by decide)
  have hsl : sl < 2 := by omega
  by_cases hn : ¬ (¬ (n < nI 2) ∧ (¬ (nI 32 < n)))
  · exact tb_St.q h (n1 := 2) (n2 := 2) (by decide) (by decide) (c_X5_lasts_len l g z sl n hsl hn) (c_X6_lasts_len l g z sl n hsl hn) rfl
  obtain ⟨m, rfl, hm1, hm2⟩ := tb_arg hn (by decide) (by decide)
  exact tb_St.q h (n1 := 3) (n2 := 2) (by decide) (by decide) (c_X5_lasts l g z sl m hsl ⟨hm1, hm2⟩) (c_X6_lasts l g z sl m hsl ⟨hm1, hm2⟩) (o_lasts h hsl ⟨hm1, hm2⟩)
theorem s_put (l : Launch) (g : tb_G) (h : tb_J z z N) (hN : N + 4001 < 2 ^ 29) (u : Int64) : tb_St l g yX5_put cX5_put 4 yX6_put cX6_put 8 [.long u] z (N + 1001) := by
  have o1 := o_put (u := u) h
  have h1 := h.nx o1.2.2.1
  have o2 := o_put (u := u) h1
  exact tb_St.m (n1 := 2) (n2 := 1) (by decide) (by decide) (c_X5_put l g z u h.2.2.2.2.okP.1) (c_X6_put l g _ u h1.2.2.2.2.okP.2.1) o2.1 o2.2.1 o2.2.2.2 (by omega)
theorem s_wipe (l : Launch) (g : tb_G) (h : tb_J z z N) (hN : N + 4001 < 2 ^ 29) : tb_St l g yX5_wipe cX5_wipe 2 yX6_wipe cX6_wipe 2 [] z (N + 1001) := by
  have o1 := o_wipe h
  have h1 := h.nx o1.2.2.1
  have o2 := o_wipe h1
  exact tb_St.m (n1 := 1) (n2 := 0) (by decide) (by decide) (c_X5_wipe l g z) (c_X6_wipe l g _) o2.1 o2.2.1 o2.2.2.2 (by omega)
theorem s_undo (l : Launch) (g : tb_G) (h : tb_J z z N) (hN : N + 4001 < 2 ^ 29) : tb_St l g yX5_undo cX5_undo 1 yX6_undo cX6_undo 1 [] z (N + 1001) := by
  have o1 := o_undo h (by omega)
  have h1 := h.nx o1.2.2.2.1
  have o2 := o_undo h1 (by omega)
  exact tb_St.m (n1 := 4) (n2 := 1) (by decide) (by decide) (c_X5_undo l g z (h.okR (by omega)).1 o1.1) (c_X6_undo l g _ (h1.okR (by omega)).2) o2.2.1 o2.2.2.1 o2.2.2.2.2 (by omega)
theorem s_save (l : Launch) (g : tb_G) (h : tb_J z z N) (hN : N + 4001 < 2 ^ 29) (x : Int32) : tb_St l g yX5_save cX5_save 2 yX6_save cX6_save 2 [.int x] z (N + 1001) := by
  by_cases hx : ¬ (¬ (x < nI 0) ∧ (¬ (nI 1 < x)))
  · exact tb_St.q h (n1 := 1) (n2 := 1) (by decide) (by decide) (c_X5_save_bad l g z x hx) (c_X6_save_bad l g z x hx) rfl
  obtain ⟨q, rfl, _, hs⟩ := tb_arg hx (by decide) (by decide)
  have hq : q < 2 := by omega
  have o1 := o_save h hq
  have h1 := h.nx o1.2.2.1
  have o2 := o_save h1 hq
  exact tb_St.m (n1 := 3) (n2 := 1) (by decide) (by decide) (c_X5_save l g z q hq) (c_X6_save l g _ q hq) o2.1 o2.2.1 o2.2.2.2 (by omega)
theorem s_restore (l : Launch) (g : tb_G) (h : tb_J z z N) (hN : N + 4001 < 2 ^ 29) (x : Int32) : tb_St l g yX5_restore cX5_restore 2 yX6_restore cX6_restore 2 [.int x] z (N + 1001) := by
  by_cases hx : ¬ (¬ (x < nI 0) ∧ (¬ (nI 1 < x)))
  · exact tb_St.q h (n1 := 1) (n2 := 1) (by decide) (by decide) (c_X5_restore_bad l g z x hx) (c_X6_restore_bad l g z x hx) rfl
  obtain ⟨q, rfl, _, hs⟩ := tb_arg hx (by decide) (by decide)
  have hq : q < 2 := by omega
  have o1 := o_restore h (by omega) hq
  have h1 := h.nx o1.2.2.1
  have o2 := o_restore h1 (by omega) hq
  exact tb_St.m (n1 := 4) (n2 := 2) (by decide) (by decide) (c_X5_restore l g z q hq (h.okR (by omega)).1) (c_X6_restore l g _ q hq (h1.okR (by omega)).2) o2.1 o2.2.1 o2.2.2.2 (by omega)
end TBCALLED
