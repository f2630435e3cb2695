theorem tb_cpA_k (z : tb_M) {a k : Nat} (b : Nat) (h : k ≠ a ∧ k ≠ a + 1 ∧ k ≠ a + 2) : sz_X0_copyFrom z a b k = z k := by
  unfold sz_X0_copyFrom
  simp [tb_cp_k, tb_up_k, h]
theorem tb_cpS_k (z : tb_M) {a k : Nat} (b : Nat) (h : k ≠ a ∧ k ≠ a + 1 ∧ k ≠ a + 2 ∧ k ≠ a + 3) : sz_X4_copyFrom z a b k = z k := by
  unfold sz_X4_copyFrom
  simp [tb_cp_k, tb_up_k, h]
theorem tb_cpD_k (z : tb_M) {d k : Nat} (b : Nat) (h : k < d ∨ d + 15 ≤ k) : sz_X1_copyFrom_m6 z d b k = z k := by
  unfold sz_X1_copyFrom_m6 sz_X1_copyFrom_m5 sz_X1_copyFrom_m4 sz_X1_copyFrom_m3 sz_X1_copyFrom_m2 sz_X1_copyFrom_m1
  rw [tb_up_k _ _ _ (by omega), tb_up_k _ _ _ (by omega), tb_up_k _ _ _ (by omega), tb_up_k _ _ _ (by omega), tb_up_k _ _ _ (by omega), tb_cpS_k _ _ (by omega), tb_cpA_k _ _ (by omega), tb_cpA_k _ _ (by omega), tb_cp_k _ _ (by omega)]
theorem tb_rec_k (z : tb_M) {k : Nat} (b rc : Nat) (h : k < 60 ∨ (150 ≤ k ∧ k ≠ 153)) : sz_X2_record z b rc k = z k := by
  unfold sz_X2_record sz_X2_record_m2 sz_X2_record_m1
  have hm : rc % 6 < 6 := Nat.mod_lt _ (by decide)
  rw [tb_up_k _ _ _ (by omega), tb_up_k _ _ _ (by omega), tb_cpD_k _ _ (by omega)]
theorem tb_at_lt {r : Nat} : tb_at 0 r < 60 := by
  unfold tb_at
  repeat' split
  all_goals omega
theorem tb_rec_at (z : tb_M) (r b rc : Nat) : sz_X2_record z b rc (tb_at 0 r) = z (tb_at 0 r) := tb_rec_k z b rc (Or.inl tb_at_lt)
theorem tb_rec_okL {z : tb_M} {r : Nat} (b rc : Nat) (h : tb_okL z (tb_at 0 r)) : tb_okL (sz_X2_record z b rc) (tb_at 0 r) := tb_okL_c h (by rw [tb_rec_at])
theorem tb_rec_okS {z : tb_M} (b rc : Nat) (h : tb_okS z 0) : tb_okS (sz_X2_record z b rc) 0 := tb_okS_c h (fun r => by rw [tb_rec_at]) (by rw [tb_rec_k _ _ _ (by omega)])
def tb_fz (z : tb_M) (a f : Nat) : Nat → tb_M
  | 0 => z
  | i + 1 => tb_up (tb_up (tb_fz z a f i) (a + 1) (f + i) (sr_X3_wordAt (tb_fz z a f i) i)) a 5 (nI (f + i + 1))
theorem tb_fz_5 {z : tb_M} {a f : Nat} (h : z a 5 = nI f) (i : Nat) : tb_fz z a f i a 5 = nI (f + i) := by
  cases i with
  | zero => exact h
  | succ i => exact tb_up_s _ _ _ _
def tb_nsR (z : tb_M) (d : Nat) : Nat → Nat → Int32
  | 0, _ => (-6)
  | k + 1, i => if sp_X1_needsStartInTick (tb_lpZ z d i) d then nI (i + 1) else tb_nsR z d k (i + 1)
def tb_nsZ (z : tb_M) (d : Nat) : Nat → Nat → tb_M
  | 0, i => tb_lpZ z d i
  | k + 1, i => if sp_X1_needsStartInTick (tb_lpZ z d i) d then sz_X1_needsStartInTick_m2 (tb_lpZ z d i) d else tb_nsZ z d k (i + 1)
theorem tb_out2 {x : Int32} (h0 : ¬ x = nI 0) (h1 : ¬ x = nI 1) (h2 : ¬ x = nI 2) : x.toInt < 0 ∨ 2 < x.toInt := by
  by_cases a : x < 0
  · left; simpa using Int32.lt_iff_toInt_lt.mp a
  · obtain ⟨j, hj, rfl⟩ := nI_of a
    right
    rw [nI_toInt hj]
    have g0 : j ≠ 0 := fun e => h0 (by rw [e])
    have g1 : j ≠ 1 := fun e => h1 (by rw [e])
    have g2 : j ≠ 2 := fun e => h2 (by rw [e])
    omega
theorem tb_outN {x : Int32} {n : Nat} (h : ∀ k, k ≤ n → ¬ x = nI k) : x.toInt < 0 ∨ (n : Int) < x.toInt := by
  by_cases a : x < 0
  · left; simpa using Int32.lt_iff_toInt_lt.mp a
  · obtain ⟨j, hj, rfl⟩ := nI_of a
    right
    rw [nI_toInt hj]
    have : ¬ j ≤ n := fun e => h j e rfl
    omega
theorem tb_out8 {x : Int32} (h0 : ¬ x = nI 0) (h1 : ¬ x = nI 1) (h2 : ¬ x = nI 2) (h3 : ¬ x = nI 3) (h4 : ¬ x = nI 4) (h5 : ¬ x = nI 5) (h6 : ¬ x = nI 6) (h7 : ¬ x = nI 7) (h8 : ¬ x = nI 8) : x.toInt < 0 ∨ 8 < x.toInt := by
  refine tb_outN (n := 8) (fun k hk => ?_)
  rcases (show k = 0 ∨ k = 1 ∨ k = 2 ∨ k = 3 ∨ k = 4 ∨ k = 5 ∨ k = 6 ∨ k = 7 ∨ k = 8 by omega) with rfl | rfl | rfl | rfl | rfl | rfl | rfl | rfl | rfl <;> assumption
theorem tb_out12 {x : Int32} (h0 : ¬ x = nI 0) (h1 : ¬ x = nI 1) (h2 : ¬ x = nI 2) (h3 : ¬ x = nI 3) (h4 : ¬ x = nI 4) (h5 : ¬ x = nI 5) (h6 : ¬ x = nI 6) (h7 : ¬ x = nI 7) (h8 : ¬ x = nI 8) (h9 : ¬ x = nI 9) (h10 : ¬ x = nI 10) (h11 : ¬ x = nI 11) (h12 : ¬ x = nI 12) : x.toInt < 0 ∨ 12 < x.toInt := by
  refine tb_outN (n := 12) (fun k hk => ?_)
  rcases (show k = 0 ∨ k = 1 ∨ k = 2 ∨ k = 3 ∨ k = 4 ∨ k = 5 ∨ k = 6 ∨ k = 7 ∨ k = 8 ∨ k = 9 ∨ k = 10 ∨ k = 11 ∨ k = 12 by omega) with rfl | rfl | rfl | rfl | rfl | rfl | rfl | rfl | rfl | rfl | rfl | rfl | rfl <;> assumption
set_option maxHeartbeats 1000000 in
set_option maxRecDepth 100000 in
theorem c_X5_isSlot (l : Launch) (g : tb_G) (z : tb_M) (x : Int32) : tb_Mi (.boolean) l yX5_isSlot cX5_isSlot 1 1 g z [.int x] (tb_b ((¬ (x < (nI (0))) ∧ (¬ ((nI (1)) < x))))) (z) := by
  refine tb_goi (own := RX5) (by decide +kernel) rfl (Nat.le_of_ble_eq_true rfl) ?_
  intro p e s m below meth c ls X hr hlk hH hl
  have hl : lv_has ls 1 [(0, .int (x))] := hl
  refine lv_iload_n X.1 X.2.1 dX5_isSlot_0 rfl (lv_at hl 0 rfl) ?_
  refine lv_iconst (v := nI (0)) X.1 X.2.1 dX5_isSlot_1 (by decide +kernel) ?_
  refine lv_iconst (v := nI (1)) X.1 X.2.1 dX5_isSlot_2 (by decide +kernel) ?_
  refine tb_cSi X hH hl.1 (c_X5_isWithin l g z x (nI (0)) (nI (1))) ky_X5_isWithin.1 ky_X5_isWithin.2 wm_115 rfl rfl (Nat.le_of_ble_eq_true rfl) ⟨by decide, by decide⟩ ⟨by decide, by decide⟩ dX5_isSlot_3 (fun H locs hH => ?_)
  exact tb_rz X hr hlk hH ⟨(Iff.rfl).symm, rfl⟩ dX5_isSlot_6
set_option maxHeartbeats 1000000 in
set_option maxRecDepth 100000 in
theorem c_X5_isLength (l : Launch) (g : tb_G) (z : tb_M) (x : Int32) : tb_Mi (.boolean) l yX5_isLength cX5_isLength 1 1 g z [.int x] (tb_b ((¬ (x < (nI (2))) ∧ (¬ ((nI (32)) < x))))) (z) := by
  refine tb_goi (own := RX5) (by decide +kernel) rfl (Nat.le_of_ble_eq_true rfl) ?_
  intro p e s m below meth c ls X hr hlk hH hl
  have hl : lv_has ls 1 [(0, .int (x))] := hl
  refine lv_iload_n X.1 X.2.1 dX5_isLength_0 rfl (lv_at hl 0 rfl) ?_
  refine lv_iconst (v := nI (2)) X.1 X.2.1 dX5_isLength_1 (by decide +kernel) ?_
  refine lv_bipush (v := nI (32)) X.1 X.2.1 dX5_isLength_2 (by decide +kernel) ?_
  refine tb_cSi X hH hl.1 (c_X5_isWithin l g z x (nI (2)) (nI (32))) ky_X5_isWithin.1 ky_X5_isWithin.2 wm_115 rfl rfl (Nat.le_of_ble_eq_true rfl) ⟨by decide, by decide⟩ ⟨by decide, by decide⟩ dX5_isLength_4 (fun H locs hH => ?_)
  exact tb_rz X hr hlk hH ⟨(Iff.rfl).symm, rfl⟩ dX5_isLength_7
set_option maxHeartbeats 1000000 in
set_option maxRecDepth 100000 in
theorem c_X5_pagesOf (l : Launch) (g : tb_G) (z : tb_M) (x : Nat) (hx : x < 1000) : tb_Mi (.int) l yX5_pagesOf cX5_pagesOf 1 0 g z [.int (nI x)] (nI ((x + 4 - 1) / 4)) (z) := by
  refine tb_goi (own := RX5) (by decide +kernel) rfl (Nat.le_of_ble_eq_true rfl) ?_
  intro p e s m below meth c ls X hr hlk hH hl
  have hl : lv_has ls 1 [(0, .int (nI (x)))] := hl
  refine lv_iload_n X.1 X.2.1 dX5_pagesOf_0 rfl (lv_at hl 0 rfl) ?_
  refine lv_iconst (v := nI (4)) X.1 X.2.1 dX5_pagesOf_1 (by decide +kernel) ?_
  refine tb_iaddN X dX5_pagesOf_2 ?_
  refine lv_iconst (v := nI (1)) X.1 X.2.1 dX5_pagesOf_3 (by decide +kernel) ?_
  refine tb_isubN X (by omega) dX5_pagesOf_4 ?_
  refine lv_iconst (v := nI (4)) X.1 X.2.1 dX5_pagesOf_5 (by decide +kernel) ?_
  refine lv_idiv X.1 X.2.1 dX5_pagesOf_6 (by decide +kernel) ?_
  refine tb_top (x2 := nI ((x + 4 - 1) / 4)) (pk_div (by omega) (by decide) (by decide)) ?_
  exact tb_ri X hr hlk hH ⟨rfl, rfl⟩ dX5_pagesOf_7
set_option maxHeartbeats 1000000 in
set_option maxRecDepth 100000 in
theorem c_X5_begin_bad (l : Launch) (g : tb_G) (z : tb_M) (x : Int32) (v : Int32) (n : Int32) (t : Int32) (hx : ¬ (¬ (x < nI 0) ∧ (¬ (nI 1 < x)))) : tb_Mi (.int) l yX5_begin cX5_begin 7 2 g z [.ref (tb_ad g 150), .int x, .int v, .int n, .int t] ((-1)) (z) := by
  refine tb_goi (own := RX5) (by decide +kernel) rfl (Nat.le_of_ble_eq_true rfl) ?_
  intro p e s m below meth c ls X hr hlk hH hl
  have hl : lv_has ls 7 [(0, .ref (tb_ad g (150))), (1, .int (x)), (2, .int (v)), (3, .int (n)), (4, .int (t))] := hl
  refine lv_iload_n X.1 X.2.1 dX5_begin_0 rfl (lv_at hl 1 rfl) ?_
  refine tb_cSi X hH hl.1 (c_X5_isSlot l g z x) ky_X5_isSlot.1 ky_X5_isSlot.2 wm_179 rfl rfl (Nat.le_of_ble_eq_true rfl) ⟨by decide, by decide⟩ ⟨by decide, by decide⟩ dX5_begin_1 (fun H locs hH => ?_)
  refine tb_jbne (tgt := 9) X dX5_begin_4 (by decide) (fun c => (hx c : False).elim) (fun _ => ?_)
  refine lv_iconst (v := (-1)) X.1 X.2.1 dX5_begin_7 (by decide +kernel) ?_
  exact tb_ri X hr hlk hH ⟨rfl, rfl⟩ dX5_begin_8
set_option maxHeartbeats 1000000 in
set_option maxRecDepth 100000 in
theorem c_X5_fill_bad (l : Launch) (g : tb_G) (z : tb_M) (x : Int32) (w : Int32) (hx : ¬ (¬ (x < nI 0) ∧ (¬ (nI 1 < x)))) : tb_Mi (.int) l yX5_fill cX5_fill 4 2 g z [.ref (tb_ad g 150), .int x, .int w] ((-1)) (z) := by
  refine tb_goi (own := RX5) (by decide +kernel) rfl (Nat.le_of_ble_eq_true rfl) ?_
  intro p e s m below meth c ls X hr hlk hH hl
  have hl : lv_has ls 4 [(0, .ref (tb_ad g (150))), (1, .int (x)), (2, .int (w))] := hl
  refine lv_iload_n X.1 X.2.1 dX5_fill_0 rfl (lv_at hl 1 rfl) ?_
  refine tb_cSi X hH hl.1 (c_X5_isSlot l g z x) ky_X5_isSlot.1 ky_X5_isSlot.2 wm_179 rfl rfl (Nat.le_of_ble_eq_true rfl) ⟨by decide, by decide⟩ ⟨by decide, by decide⟩ dX5_fill_1 (fun H locs hH => ?_)
  refine tb_jbne (tgt := 9) X dX5_fill_4 (by decide) (fun c => (hx c : False).elim) (fun _ => ?_)
  refine lv_iconst (v := (-1)) X.1 X.2.1 dX5_fill_7 (by decide +kernel) ?_
  exact tb_ri X hr hlk hH ⟨rfl, rfl⟩ dX5_fill_8
set_option maxHeartbeats 1000000 in
set_option maxRecDepth 100000 in
theorem c_X5_fillAll_bad (l : Launch) (g : tb_G) (z : tb_M) (x : Int32) (hx : ¬ (¬ (x < nI 0) ∧ (¬ (nI 1 < x)))) : tb_Mi (.int) l yX5_fillAll cX5_fillAll 5 2 g z [.ref (tb_ad g 150), .int x] ((-1)) (z) := by
  refine tb_goi (own := RX5) (by decide +kernel) rfl (Nat.le_of_ble_eq_true rfl) ?_
  intro p e s m below meth c ls X hr hlk hH hl
  have hl : lv_has ls 5 [(0, .ref (tb_ad g (150))), (1, .int (x))] := hl
  refine lv_iload_n X.1 X.2.1 dX5_fillAll_0 rfl (lv_at hl 1 rfl) ?_
  refine tb_cSi X hH hl.1 (c_X5_isSlot l g z x) ky_X5_isSlot.1 ky_X5_isSlot.2 wm_179 rfl rfl (Nat.le_of_ble_eq_true rfl) ⟨by decide, by decide⟩ ⟨by decide, by decide⟩ dX5_fillAll_1 (fun H locs hH => ?_)
  refine tb_jbne (tgt := 9) X dX5_fillAll_4 (by decide) (fun c => (hx c : False).elim) (fun _ => ?_)
  refine lv_iconst (v := (-1)) X.1 X.2.1 dX5_fillAll_7 (by decide +kernel) ?_
  exact tb_ri X hr hlk hH ⟨rfl, rfl⟩ dX5_fillAll_8
set_option maxHeartbeats 1000000 in
set_option maxRecDepth 100000 in
theorem c_X5_finish_bad (l : Launch) (g : tb_G) (z : tb_M) (x : Int32) (hx : ¬ (¬ (x < nI 0) ∧ (¬ (nI 1 < x)))) : tb_Mi (.int) l yX5_finish cX5_finish 3 2 g z [.ref (tb_ad g 150), .int x] ((-1)) (z) := by
  refine tb_goi (own := RX5) (by decide +kernel) rfl (Nat.le_of_ble_eq_true rfl) ?_
  intro p e s m below meth c ls X hr hlk hH hl
  have hl : lv_has ls 3 [(0, .ref (tb_ad g (150))), (1, .int (x))] := hl
  refine lv_iload_n X.1 X.2.1 dX5_finish_0 rfl (lv_at hl 1 rfl) ?_
  refine tb_cSi X hH hl.1 (c_X5_isSlot l g z x) ky_X5_isSlot.1 ky_X5_isSlot.2 wm_179 rfl rfl (Nat.le_of_ble_eq_true rfl) ⟨by decide, by decide⟩ ⟨by decide, by decide⟩ dX5_finish_1 (fun H locs hH => ?_)
  refine tb_jbne (tgt := 9) X dX5_finish_4 (by decide) (fun c => (hx c : False).elim) (fun _ => ?_)
  refine lv_iconst (v := (-1)) X.1 X.2.1 dX5_finish_7 (by decide +kernel) ?_
  exact tb_ri X hr hlk hH ⟨rfl, rfl⟩ dX5_finish_8
set_option maxHeartbeats 1000000 in
set_option maxRecDepth 100000 in
theorem c_X5_repair_bad (l : Launch) (g : tb_G) (z : tb_M) (x : Int32) (hx : ¬ (¬ (x < nI 0) ∧ (¬ (nI 1 < x)))) : tb_Mi (.int) l yX5_repair cX5_repair 3 2 g z [.ref (tb_ad g 150), .int x] ((-1)) (z) := by
  refine tb_goi (own := RX5) (by decide +kernel) rfl (Nat.le_of_ble_eq_true rfl) ?_
  intro p e s m below meth c ls X hr hlk hH hl
  have hl : lv_has ls 3 [(0, .ref (tb_ad g (150))), (1, .int (x))] := hl
  refine lv_iload_n X.1 X.2.1 dX5_repair_0 rfl (lv_at hl 1 rfl) ?_
  refine tb_cSi X hH hl.1 (c_X5_isSlot l g z x) ky_X5_isSlot.1 ky_X5_isSlot.2 wm_179 rfl rfl (Nat.le_of_ble_eq_true rfl) ⟨by decide, by decide⟩ ⟨by decide, by decide⟩ dX5_repair_1 (fun H locs hH => ?_)
  refine tb_jbne (tgt := 9) X dX5_repair_4 (by decide) (fun c => (hx c : False).elim) (fun _ => ?_)
  refine lv_iconst (v := (-1)) X.1 X.2.1 dX5_repair_7 (by decide +kernel) ?_
  exact tb_ri X hr hlk hH ⟨rfl, rfl⟩ dX5_repair_8
set_option maxHeartbeats 1000000 in
set_option maxRecDepth 100000 in
theorem c_X5_slot_bad (l : Launch) (g : tb_G) (z : tb_M) (x : Int32) (w : Int32) (hx : ¬ (¬ (x < nI 0) ∧ (¬ (nI 1 < x)))) : tb_Mi (.int) l yX5_slot cX5_slot 4 2 g z [.ref (tb_ad g 150), .int x, .int w] ((-1)) (z) := by
  refine tb_goi (own := RX5) (by decide +kernel) rfl (Nat.le_of_ble_eq_true rfl) ?_
  intro p e s m below meth c ls X hr hlk hH hl
  have hl : lv_has ls 4 [(0, .ref (tb_ad g (150))), (1, .int (x)), (2, .int (w))] := hl
  refine lv_iload_n X.1 X.2.1 dX5_slot_0 rfl (lv_at hl 1 rfl) ?_
  refine tb_cSi X hH hl.1 (c_X5_isSlot l g z x) ky_X5_isSlot.1 ky_X5_isSlot.2 wm_179 rfl rfl (Nat.le_of_ble_eq_true rfl) ⟨by decide, by decide⟩ ⟨by decide, by decide⟩ dX5_slot_1 (fun H locs hH => ?_)
  refine tb_jbne (tgt := 9) X dX5_slot_4 (by decide) (fun c => (hx c : False).elim) (fun _ => ?_)
  refine lv_iconst (v := (-1)) X.1 X.2.1 dX5_slot_7 (by decide +kernel) ?_
  exact tb_ri X hr hlk hH ⟨rfl, rfl⟩ dX5_slot_8
set_option maxHeartbeats 1000000 in
set_option maxRecDepth 100000 in
theorem c_X5_lasts_bad (l : Launch) (g : tb_G) (z : tb_M) (x : Int32) (w : Int32) (hx : ¬ (¬ (x < nI 0) ∧ (¬ (nI 1 < x)))) : tb_Mi (.int) l yX5_lasts cX5_lasts 3 2 g z [.ref (tb_ad g 150), .int x, .int w] ((-1)) (z) := by
  refine tb_goi (own := RX5) (by decide +kernel) rfl (Nat.le_of_ble_eq_true rfl) ?_
  intro p e s m below meth c ls X hr hlk hH hl
  have hl : lv_has ls 3 [(0, .ref (tb_ad g (150))), (1, .int (x)), (2, .int (w))] := hl
  refine lv_iload_n X.1 X.2.1 dX5_lasts_0 rfl (lv_at hl 1 rfl) ?_
  refine tb_cSi X hH hl.1 (c_X5_isSlot l g z x) ky_X5_isSlot.1 ky_X5_isSlot.2 wm_179 rfl rfl (Nat.le_of_ble_eq_true rfl) ⟨by decide, by decide⟩ ⟨by decide, by decide⟩ dX5_lasts_1 (fun H locs hH => ?_)
  refine tb_jbne (tgt := 9) X dX5_lasts_4 (by decide) (fun c => (hx c : False).elim) (fun _ => ?_)
  refine lv_iconst (v := (-1)) X.1 X.2.1 dX5_lasts_7 (by decide +kernel) ?_
  exact tb_ri X hr hlk hH ⟨rfl, rfl⟩ dX5_lasts_8
set_option maxHeartbeats 1000000 in
set_option maxRecDepth 100000 in
theorem c_X5_damage_bad (l : Launch) (g : tb_G) (z : tb_M) (x : Int32) (w : Int32) (y : Int32) (hx : ¬ (¬ (x < nI 0) ∧ (¬ (nI 1 < x)))) : tb_Mi (.int) l yX5_damage cX5_damage 5 2 g z [.ref (tb_ad g 150), .int x, .int w, .int y] ((-1)) (z) := by
  refine tb_goi (own := RX5) (by decide +kernel) rfl (Nat.le_of_ble_eq_true rfl) ?_
  intro p e s m below meth c ls X hr hlk hH hl
  have hl : lv_has ls 5 [(0, .ref (tb_ad g (150))), (1, .int (x)), (2, .int (w)), (3, .int (y))] := hl
  refine lv_iload_n X.1 X.2.1 dX5_damage_0 rfl (lv_at hl 1 rfl) ?_
  refine tb_cSi X hH hl.1 (c_X5_isSlot l g z x) ky_X5_isSlot.1 ky_X5_isSlot.2 wm_179 rfl rfl (Nat.le_of_ble_eq_true rfl) ⟨by decide, by decide⟩ ⟨by decide, by decide⟩ dX5_damage_1 (fun H locs hH => ?_)
  refine tb_jbeq (tgt := 17) X dX5_damage_4 (by decide) (fun _ => ?_) (fun c => (hx c : False).elim)
  refine lv_iconst (v := (-1)) X.1 X.2.1 dX5_damage_17 (by decide +kernel) ?_
  exact tb_ri X hr hlk hH ⟨rfl, rfl⟩ dX5_damage_18
set_option maxHeartbeats 1000000 in
set_option maxRecDepth 100000 in
theorem c_X5_wear_bad (l : Launch) (g : tb_G) (z : tb_M) (x : Int32) (w : Int32) (hx : ¬ (¬ (x < nI 0) ∧ (¬ (nI 1 < x)))) : tb_Mi (.int) l yX5_wear cX5_wear 3 2 g z [.ref (tb_ad g 150), .int x, .int w] ((-1)) (z) := by
  refine tb_goi (own := RX5) (by decide +kernel) rfl (Nat.le_of_ble_eq_true rfl) ?_
  intro p e s m below meth c ls X hr hlk hH hl
  have hl : lv_has ls 3 [(0, .ref (tb_ad g (150))), (1, .int (x)), (2, .int (w))] := hl
  refine lv_iload_n X.1 X.2.1 dX5_wear_0 rfl (lv_at hl 1 rfl) ?_
  refine tb_cSi X hH hl.1 (c_X5_isSlot l g z x) ky_X5_isSlot.1 ky_X5_isSlot.2 wm_179 rfl rfl (Nat.le_of_ble_eq_true rfl) ⟨by decide, by decide⟩ ⟨by decide, by decide⟩ dX5_wear_1 (fun H locs hH => ?_)
  refine tb_jbeq (tgt := 17) X dX5_wear_4 (by decide) (fun _ => ?_) (fun c => (hx c : False).elim)
  refine lv_iconst (v := (-1)) X.1 X.2.1 dX5_wear_17 (by decide +kernel) ?_
  exact tb_ri X hr hlk hH ⟨rfl, rfl⟩ dX5_wear_18
set_option maxHeartbeats 1000000 in
set_option maxRecDepth 100000 in
theorem c_X5_begin_len (l : Launch) (g : tb_G) (z : tb_M) (sl : Nat) (v : Int32) (n : Int32) (t : Int32) (hsl : sl < 2) (hn : ¬ (¬ (n < nI 2) ∧ (¬ (nI 32 < n)))) : tb_Mi (.int) l yX5_begin cX5_begin 7 2 g z [.ref (tb_ad g 150), .int (nI sl), .int v, .int n, .int t] ((-2)) (z) := by
  refine tb_goi (own := RX5) (by decide +kernel) rfl (Nat.le_of_ble_eq_true rfl) ?_
  intro p e s m below meth c ls X hr hlk hH hl
  have hl : lv_has ls 7 [(0, .ref (tb_ad g (150))), (1, .int (nI (sl))), (2, .int (v)), (3, .int (n)), (4, .int (t))] := hl
  refine lv_iload_n X.1 X.2.1 dX5_begin_0 rfl (lv_at hl 1 rfl) ?_
  refine tb_cSi X hH hl.1 (c_X5_isSlot l g z (nI (sl))) ky_X5_isSlot.1 ky_X5_isSlot.2 wm_179 rfl rfl (Nat.le_of_ble_eq_true rfl) ⟨by decide, by decide⟩ ⟨by decide, by decide⟩ dX5_begin_1 (fun H locs hH => ?_)
  refine tb_jbne (tgt := 9) X dX5_begin_4 (by decide) (fun _ => ?_) (fun c => (c ⟨nI_nlt (by omega) (by omega), nI_nlt (by omega) (by omega)⟩ : False).elim)
  refine lv_iload_n X.1 X.2.1 dX5_begin_9 rfl (lv_at hl 2 rfl) ?_
  refine lv_iconst (v := nI (0)) X.1 X.2.1 dX5_begin_10 (by decide +kernel) ?_
  refine lv_bipush (v := nI (99)) X.1 X.2.1 dX5_begin_11 (by decide +kernel) ?_
  refine tb_cSi X hH hl.1 (c_X5_isWithin l g z v (nI (0)) (nI (99))) ky_X5_isWithin.1 ky_X5_isWithin.2 wm_115 rfl rfl (Nat.le_of_ble_eq_true rfl) ⟨by decide, by decide⟩ ⟨by decide, by decide⟩ dX5_begin_13 (fun H locs hH => ?_)
  refine tb_jbeq (tgt := 38) X dX5_begin_16 (by decide) (fun c_1 => ?_) (fun c_1 => ?_)
  · refine lv_bipush (v := (-2)) X.1 X.2.1 dX5_begin_38 (by decide +kernel) ?_
    exact tb_ri X hr hlk hH ⟨rfl, rfl⟩ dX5_begin_40
  · refine lv_iload_n X.1 X.2.1 dX5_begin_19 rfl (lv_at hl 3 rfl) ?_
    refine tb_cSi X hH hl.1 (c_X5_isLength l g z n) ky_X5_isLength.1 ky_X5_isLength.2 wm_182 rfl rfl (Nat.le_of_ble_eq_true rfl) ⟨by decide, by decide⟩ ⟨by decide, by decide⟩ dX5_begin_20 (fun H locs hH => ?_)
    refine tb_jbeq (tgt := 38) X dX5_begin_23 (by decide) (fun _ => ?_) (fun c => (hn c : False).elim)
    refine lv_bipush (v := (-2)) X.1 X.2.1 dX5_begin_38 (by decide +kernel) ?_
    exact tb_ri X hr hlk hH ⟨rfl, rfl⟩ dX5_begin_40
def sz_X5_begin_m1 (z : tb_M) (sl : Nat) (v : Int32) (n : Nat) (t : Int32) (rn : Nat) : tb_M := sz_X2_record z 0 (tb_rc z)
def sz_X5_begin_m2 (z : tb_M) (sl : Nat) (v : Int32) (n : Nat) (t : Int32) (rn : Nat) : tb_M := tb_ec (tb_ew (sz_X5_begin_m1 z sl v n t rn) ((tb_at 0 sl)) (((n + 4 - 1) / 4))) ((tb_at 0 sl)) ((((n + 4 - 1) / 4)) * 4)
def sz_X5_begin_m3 (z : tb_M) (sl : Nat) (v : Int32) (n : Nat) (t : Int32) (rn : Nat) : tb_M := sz_X0_expectImage (sz_X5_begin_m2 z sl v n t rn) ((tb_at 0 sl)) v (nI (n)) t
def sz_X5_begin (z : tb_M) (sl : Nat) (v : Int32) (n : Nat) (t : Int32) (rn : Nat) : tb_M := if (¬ (v < (nI (0))) ∧ (¬ ((nI (99)) < v))) then (if (¬ (t < (nI (0))) ∧ (¬ ((nI (250)) < t))) then (if rn = sl then z else (if v < (z 0 8) then z else (if ((sr_X1_beginsLeft z 0 sl (((n + 4 - 1) / 4)))) = 0 then z else (sz_X5_begin_m3 z sl v n t rn)))) else z) else z
def sr_X5_begin (z : tb_M) (sl : Nat) (v : Int32) (n : Nat) (t : Int32) (rn : Nat) : Int32 := if (¬ (v < (nI (0))) ∧ (¬ ((nI (99)) < v))) then (if (¬ (t < (nI (0))) ∧ (¬ ((nI (250)) < t))) then (if rn = sl then ((-5)) else (if v < (z 0 8) then ((-5)) else (if ((sr_X1_beginsLeft z 0 sl (((n + 4 - 1) / 4)))) = 0 then ((-5)) else ((tb_gw ((sz_X5_begin_m3 z sl v n t rn) (((tb_at 0 sl)) + 2)) (((n + 4 - 1) / 4))))))) else ((-2))) else ((-2))
set_option maxHeartbeats 1000000 in
set_option maxRecDepth 100000 in
theorem c_X5_begin (l : Launch) (g : tb_G) (z : tb_M) (sl : Nat) (v : Int32) (n : Nat) (t : Int32) (rn : Nat) (hsl : sl < 2) (hn : 2 ≤ n ∧ n ≤ 32) (hrn : z 0 5 = nI rn) (hrn2 : rn ≤ 2) (hrc : tb_okR z) : tb_Mi (.int) l yX5_begin cX5_begin 7 4 g z [.ref (tb_ad g 150), .int (nI sl), .int v, .int (nI n), .int t] (sr_X5_begin z sl v n t rn) (sz_X5_begin z sl v n t rn) := by
  refine tb_goi (own := RX5) (by decide +kernel) rfl (Nat.le_of_ble_eq_true rfl) ?_
  intro p e s m below meth c ls X hr hlk hH hl
  have hl : lv_has ls 7 [(0, .ref (tb_ad g (150))), (1, .int (nI (sl))), (2, .int (v)), (3, .int (nI (n))), (4, .int (t))] := hl
  refine lv_iload_n X.1 X.2.1 dX5_begin_0 rfl (lv_at hl 1 rfl) ?_
  refine tb_cSi X hH hl.1 (c_X5_isSlot l g z (nI (sl))) ky_X5_isSlot.1 ky_X5_isSlot.2 wm_179 rfl rfl (Nat.le_of_ble_eq_true rfl) ⟨by decide, by decide⟩ ⟨by decide, by decide⟩ dX5_begin_1 (fun H locs hH => ?_)
  refine tb_jbne (tgt := 9) X dX5_begin_4 (by decide) (fun _ => ?_) (fun c => (c ⟨nI_nlt (by omega) (by omega), nI_nlt (by omega) (by omega)⟩ : False).elim)
  refine lv_iload_n X.1 X.2.1 dX5_begin_9 rfl (lv_at hl 2 rfl) ?_
  refine lv_iconst (v := nI (0)) X.1 X.2.1 dX5_begin_10 (by decide +kernel) ?_
  refine lv_bipush (v := nI (99)) X.1 X.2.1 dX5_begin_11 (by decide +kernel) ?_
  refine tb_cSi X hH hl.1 (c_X5_isWithin l g z v (nI (0)) (nI (99))) ky_X5_isWithin.1 ky_X5_isWithin.2 wm_115 rfl rfl (Nat.le_of_ble_eq_true rfl) ⟨by decide, by decide⟩ ⟨by decide, by decide⟩ dX5_begin_13 (fun H locs hH => ?_)
  refine tb_jbeq (tgt := 38) X dX5_begin_16 (by decide) (fun c_1 => ?_) (fun c_1 => ?_)
  · refine lv_bipush (v := (-2)) X.1 X.2.1 dX5_begin_38 (by decide +kernel) ?_
    exact tb_ri X hr hlk hH ⟨(by rw [sr_X5_begin]; simp only [if_neg c_1]), (by rw [sz_X5_begin]; simp only [if_neg c_1])⟩ dX5_begin_40
  · refine lv_iload_n X.1 X.2.1 dX5_begin_19 rfl (lv_at hl 3 rfl) ?_
    refine tb_cSi X hH hl.1 (c_X5_isLength l g z (nI (n))) ky_X5_isLength.1 ky_X5_isLength.2 wm_182 rfl rfl (Nat.le_of_ble_eq_true rfl) ⟨by decide, by decide⟩ ⟨by decide, by decide⟩ dX5_begin_20 (fun H locs hH => ?_)
    refine tb_jbeq (tgt := 38) X dX5_begin_23 (by decide) (fun c => (c ⟨nI_nlt (by omega) (by omega), nI_nlt (by omega) (by omega)⟩ : False).elim) (fun _ => ?_)
    refine lv_iload X.1 X.2.1 dX5_begin_26 (lv_at hl 4 rfl) ?_
    refine lv_iconst (v := nI (0)) X.1 X.2.1 dX5_begin_28 (by decide +kernel) ?_
    refine lv_sipush (v := nI (250)) X.1 X.2.1 dX5_begin_29 (by decide +kernel) ?_
    refine tb_cSi X hH hl.1 (c_X5_isWithin l g z t (nI (0)) (nI (250))) ky_X5_isWithin.1 ky_X5_isWithin.2 wm_115 rfl rfl (Nat.le_of_ble_eq_true rfl) ⟨by decide, by decide⟩ ⟨by decide, by decide⟩ dX5_begin_32 (fun H locs hH => ?_)
    refine tb_jbne (tgt := 41) X dX5_begin_35 (by decide) (fun c_2 => ?_) (fun c_2 => ?_)
    · refine lv_iload_n X.1 X.2.1 dX5_begin_41 rfl (lv_at hl 3 rfl) ?_
      refine tb_cSi X hH hl.1 (c_X5_pagesOf l g z n (by omega)) ky_X5_pagesOf.1 ky_X5_pagesOf.2 wm_185 rfl rfl (Nat.le_of_ble_eq_true rfl) ⟨by decide, by decide⟩ ⟨by decide, by decide⟩ dX5_begin_42 (fun H locs hH => ?_)
      refine lv_istore (lv' := [(5, .int (nI (((n + 4 - 1) / 4)))), (0, .ref (tb_ad g (150))), (1, .int (nI (sl))), (2, .int (v)), (3, .int (nI (n))), (4, .int (t))]) X.1 X.2.1 dX5_begin_45 hl (by decide) rfl (fun ls hl => ?_)
      refine lv_aload_n X.1 X.2.1 dX5_begin_47 rfl (lv_at hl 1 rfl) ?_
      refine tb_get X hH tb_Tc.1 (tb_Tc.2 _ _) rfl inlX5 0 (by decide) wm_16 (v := .ref (tb_ad g (0))) rfl dX5_begin_48 ?_
      refine tb_get X hH (tb_Dc tb_D0).1 ((tb_Dc tb_D0).2 _ _) rfl inlX1 5 (by decide) wm_177 (v := .int (z 0 5)) rfl dX5_begin_51 ?_
      refine tb_top (x2 := nI (rn)) (hrn) ?_
      refine lv_iload_n X.1 X.2.1 dX5_begin_54 rfl (lv_at hl 2 rfl) ?_
      refine tb_neq (tgt := 82) X (by omega) (by omega) dX5_begin_55 (by decide) (fun c_3 => ?_) (fun c_3 => ?_)
      · refine lv_bipush (v := (-5)) X.1 X.2.1 dX5_begin_82 (by decide +kernel) ?_
        exact tb_ri X hr hlk hH ⟨(by rw [sr_X5_begin]; simp only [if_pos c_1, if_pos c_2, if_pos c_3]), (by rw [sz_X5_begin]; simp only [if_pos c_1, if_pos c_2, if_pos c_3])⟩ dX5_begin_84
      · refine lv_iload_n X.1 X.2.1 dX5_begin_58 rfl (lv_at hl 3 rfl) ?_
        refine lv_aload_n X.1 X.2.1 dX5_begin_59 rfl (lv_at hl 1 rfl) ?_
        refine tb_get X hH tb_Tc.1 (tb_Tc.2 _ _) rfl inlX5 0 (by decide) wm_16 (v := .ref (tb_ad g (0))) rfl dX5_begin_60 ?_
        refine tb_get X hH (tb_Dc tb_D0).1 ((tb_Dc tb_D0).2 _ _) rfl inlX1 8 (by decide) wm_178 (v := .int (z 0 8)) rfl dX5_begin_63 ?_
        refine lv_icmp_lt (tgt := 82) X.1 X.2.1 dX5_begin_66 (by decide) (fun c_4 => ?_) (fun c_4 => ?_)
        · refine lv_bipush (v := (-5)) X.1 X.2.1 dX5_begin_82 (by decide +kernel) ?_
          exact tb_ri X hr hlk hH ⟨(by rw [sr_X5_begin]; simp only [if_pos c_1, if_pos c_2, if_neg c_3, if_pos c_4]), (by rw [sz_X5_begin]; simp only [if_pos c_1, if_pos c_2, if_neg c_3, if_pos c_4])⟩ dX5_begin_84
        · refine lv_aload_n X.1 X.2.1 dX5_begin_69 rfl (lv_at hl 1 rfl) ?_
          refine tb_get X hH tb_Tc.1 (tb_Tc.2 _ _) rfl inlX5 0 (by decide) wm_16 (v := .ref (tb_ad g (0))) rfl dX5_begin_70 ?_
          refine lv_iload_n X.1 X.2.1 dX5_begin_73 rfl (lv_at hl 2 rfl) ?_
          refine lv_iload X.1 X.2.1 dX5_begin_74 (lv_at hl 0 rfl) ?_
          refine tb_cVi X hH hl.1 (c_X1_beginsLeft l g z 0 tb_D0 sl (((n + 4 - 1) / 4)) (by omega) (by omega)) ky_X1_beginsLeft.1 ky_X1_beginsLeft.2 wm_188 (tb_oD tb_D0) rfl rfl (Nat.le_of_ble_eq_true rfl) ⟨by decide, by decide⟩ ⟨by decide, by decide⟩ dX5_begin_76 (fun H locs hH => ?_)
          refine lv_if_ne (tgt := 85) X.1 X.2.1 dX5_begin_79 (by decide) (fun c_5 => ?_) (fun c_5 => ?_)
          · refine lv_aload_n X.1 X.2.1 dX5_begin_85 rfl (lv_at hl 1 rfl) ?_
            refine tb_get X hH tb_Tc.1 (tb_Tc.2 _ _) rfl inlX5 4 (by decide) wm_24 (v := .ref (tb_ad g (153))) rfl dX5_begin_86 ?_
            refine lv_aload_n X.1 X.2.1 dX5_begin_89 rfl (lv_at hl 1 rfl) ?_
            refine tb_get X hH tb_Tc.1 (tb_Tc.2 _ _) rfl inlX5 0 (by decide) wm_16 (v := .ref (tb_ad g (0))) rfl dX5_begin_90 ?_
            refine tb_cVv X hH hl.1 (c_X2_record l g z 0 tb_D0 (tb_rc z) hrc.1 (Nat.lt_trans hrc.2 (by decide))) ky_X2_record.1 ky_X2_record.2 wm_116 tb_oH rfl rfl (Nat.le_of_ble_eq_true rfl) ⟨by decide, by decide⟩ ⟨by decide, by decide⟩ dX5_begin_93 (fun H locs hH => ?_)
            have hH : tb_H g s.heap (sz_X5_begin_m1 z sl v n t rn) H locs := hH
            refine lv_aload_n X.1 X.2.1 dX5_begin_96 rfl (lv_at hl 1 rfl) ?_
            refine tb_get X hH tb_Tc.1 (tb_Tc.2 _ _) rfl inlX5 0 (by decide) wm_16 (v := .ref (tb_ad g (0))) rfl dX5_begin_97 ?_
            refine lv_iload_n X.1 X.2.1 dX5_begin_100 rfl (lv_at hl 2 rfl) ?_
            refine tb_cVr X hH hl.1 (c_X1_areaAt l g (sz_X5_begin_m1 z sl v n t rn) 0 tb_D0 sl (by omega)) ky_X1_areaAt.1 ky_X1_areaAt.2 wm_204 (tb_oD tb_D0) rfl rfl (Nat.le_of_ble_eq_true rfl) ⟨by decide, by decide⟩ ⟨by decide, by decide⟩ dX5_begin_101 (fun H locs hH => ?_)
            refine lv_astore (lv' := [(6, .ref (tb_ad g ((tb_at 0 sl)))), (5, .int (nI (((n + 4 - 1) / 4)))), (0, .ref (tb_ad g (150))), (1, .int (nI (sl))), (2, .int (v)), (3, .int (nI (n))), (4, .int (t))]) X.1 X.2.1 dX5_begin_104 hl (by decide) rfl (fun ls hl => ?_)
            refine lv_aload X.1 X.2.1 dX5_begin_106 (lv_at hl 0 rfl) ?_
            refine lv_iload X.1 X.2.1 dX5_begin_108 (lv_at hl 1 rfl) ?_
            refine tb_cVv X hH hl.1 (c_X0_emptyPages l g (sz_X5_begin_m1 z sl v n t rn) ((tb_at 0 sl)) (tb_isat tb_D0 sl) (((n + 4 - 1) / 4)) (by omega)) ky_X0_emptyPages.1 ky_X0_emptyPages.2 wm_205 (tb_oA (tb_isat tb_D0 sl)) rfl rfl (Nat.le_of_ble_eq_true rfl) ⟨by decide, by decide⟩ ⟨by decide, by decide⟩ dX5_begin_110 (fun H locs hH => ?_)
            have hH : tb_H g s.heap (sz_X5_begin_m2 z sl v n t rn) H locs := hH
            refine lv_aload X.1 X.2.1 dX5_begin_113 (lv_at hl 0 rfl) ?_
            refine lv_iload_n X.1 X.2.1 dX5_begin_115 rfl (lv_at hl 4 rfl) ?_
            refine lv_iload_n X.1 X.2.1 dX5_begin_116 rfl (lv_at hl 5 rfl) ?_
            refine lv_iload X.1 X.2.1 dX5_begin_117 (lv_at hl 6 rfl) ?_
            refine tb_cVv X hH hl.1 (c_X0_expectImage l g (sz_X5_begin_m2 z sl v n t rn) ((tb_at 0 sl)) (tb_isat tb_D0 sl) v (nI (n)) t) ky_X0_expectImage.1 ky_X0_expectImage.2 wm_209 (tb_oA (tb_isat tb_D0 sl)) rfl rfl (Nat.le_of_ble_eq_true rfl) ⟨by decide, by decide⟩ ⟨by decide, by decide⟩ dX5_begin_119 (fun H locs hH => ?_)
            have hH : tb_H g s.heap (sz_X5_begin_m3 z sl v n t rn) H locs := hH
            refine lv_aload X.1 X.2.1 dX5_begin_122 (lv_at hl 0 rfl) ?_
            refine lv_iload X.1 X.2.1 dX5_begin_124 (lv_at hl 1 rfl) ?_
            refine tb_cVi X hH hl.1 (c_X0_greatestWear l g (sz_X5_begin_m3 z sl v n t rn) ((tb_at 0 sl)) (tb_isat tb_D0 sl) (((n + 4 - 1) / 4)) (by omega)) ky_X0_greatestWear.1 ky_X0_greatestWear.2 wm_210 (tb_oA (tb_isat tb_D0 sl)) rfl rfl (Nat.le_of_ble_eq_true rfl) ⟨by decide, by decide⟩ ⟨by decide, by decide⟩ dX5_begin_126 (fun H locs hH => ?_)
            exact tb_ri X hr hlk hH ⟨(by rw [sr_X5_begin]; simp only [if_pos c_1, if_pos c_2, if_neg c_3, if_neg c_4, if_neg c_5]), (by rw [sz_X5_begin]; simp only [if_pos c_1, if_pos c_2, if_neg c_3, if_neg c_4, if_neg c_5])⟩ dX5_begin_129
          · refine lv_bipush (v := (-5)) X.1 X.2.1 dX5_begin_82 (by decide +kernel) ?_
            exact tb_ri X hr hlk hH ⟨(by rw [sr_X5_begin]; simp only [if_pos c_1, if_pos c_2, if_neg c_3, if_neg c_4, if_pos c_5]), (by rw [sz_X5_begin]; simp only [if_pos c_1, if_pos c_2, if_neg c_3, if_neg c_4, if_pos c_5])⟩ dX5_begin_84
    · refine lv_bipush (v := (-2)) X.1 X.2.1 dX5_begin_38 (by decide +kernel) ?_
      exact tb_ri X hr hlk hH ⟨(by rw [sr_X5_begin]; simp only [if_pos c_1, if_neg c_2]), (by rw [sz_X5_begin]; simp only [if_pos c_1, if_neg c_2])⟩ dX5_begin_40
def sz_X5_fill_m1 (z : tb_M) (sl : Nat) (w : Int32) : tb_M := sz_X2_record z 0 (tb_rc z)
def sz_X5_fill (z : tb_M) (sl : Nat) (w : Int32) : tb_M := if (¬ (w < (nI (0))) ∧ (¬ ((nI (255)) < w))) then (if (z ((tb_at 0 sl)) 0) = (nI (1)) then (if (tb_len z (tb_at 0 sl) - tb_fl z (tb_at 0 sl)) = 0 then z else (tb_up (tb_up (sz_X5_fill_m1 z sl w) (((tb_at 0 sl)) + 1) (tb_fl z (tb_at 0 sl)) w) ((tb_at 0 sl)) 5 (nI ((tb_fl z (tb_at 0 sl)) + 1)))) else z) else z
def sr_X5_fill (z : tb_M) (sl : Nat) (w : Int32) : Int32 := if (¬ (w < (nI (0))) ∧ (¬ ((nI (255)) < w))) then (if (z ((tb_at 0 sl)) 0) = (nI (1)) then (if (tb_len z (tb_at 0 sl) - tb_fl z (tb_at 0 sl)) = 0 then ((-5)) else ((tb_up (tb_up (sz_X5_fill_m1 z sl w) (((tb_at 0 sl)) + 1) (tb_fl z (tb_at 0 sl)) w) ((tb_at 0 sl)) 5 (nI ((tb_fl z (tb_at 0 sl)) + 1))) ((tb_at 0 sl)) 5)) else ((-5))) else ((-2))
set_option maxHeartbeats 1000000 in
set_option maxRecDepth 100000 in
theorem c_X5_fill (l : Launch) (g : tb_G) (z : tb_M) (sl : Nat) (w : Int32) (hsl : sl < 2) (hF : tb_okF z (tb_at 0 sl)) (hrc : tb_okR z) : tb_Mi (.int) l yX5_fill cX5_fill 4 4 g z [.ref (tb_ad g 150), .int (nI sl), .int w] (sr_X5_fill z sl w) (sz_X5_fill z sl w) := by
  refine tb_goi (own := RX5) (by decide +kernel) rfl (Nat.le_of_ble_eq_true rfl) ?_
  intro p e s m below meth c ls X hr hlk hH hl
  have hl : lv_has ls 4 [(0, .ref (tb_ad g (150))), (1, .int (nI (sl))), (2, .int (w))] := hl
  have hF2 := hF.1.2
  have hF3 := hF.2.2
  refine lv_iload_n X.1 X.2.1 dX5_fill_0 rfl (lv_at hl 1 rfl) ?_
  refine tb_cSi X hH hl.1 (c_X5_isSlot l g z (nI (sl))) ky_X5_isSlot.1 ky_X5_isSlot.2 wm_179 rfl rfl (Nat.le_of_ble_eq_true rfl) ⟨by decide, by decide⟩ ⟨by decide, by decide⟩ dX5_fill_1 (fun H locs hH => ?_)
  refine tb_jbne (tgt := 9) X dX5_fill_4 (by decide) (fun _ => ?_) (fun c => (c ⟨nI_nlt (by omega) (by omega), nI_nlt (by omega) (by omega)⟩ : False).elim)
  refine lv_iload_n X.1 X.2.1 dX5_fill_9 rfl (lv_at hl 2 rfl) ?_
  refine lv_iconst (v := nI (0)) X.1 X.2.1 dX5_fill_10 (by decide +kernel) ?_
  refine lv_sipush (v := nI (255)) X.1 X.2.1 dX5_fill_11 (by decide +kernel) ?_
  refine tb_cSi X hH hl.1 (c_X5_isWithin l g z w (nI (0)) (nI (255))) ky_X5_isWithin.1 ky_X5_isWithin.2 wm_115 rfl rfl (Nat.le_of_ble_eq_true rfl) ⟨by decide, by decide⟩ ⟨by decide, by decide⟩ dX5_fill_14 (fun H locs hH => ?_)
  refine tb_jbne (tgt := 23) X dX5_fill_17 (by decide) (fun c_1 => ?_) (fun c_1 => ?_)
  · refine lv_aload_n X.1 X.2.1 dX5_fill_23 rfl (lv_at hl 0 rfl) ?_
    refine tb_get X hH tb_Tc.1 (tb_Tc.2 _ _) rfl inlX5 0 (by decide) wm_16 (v := .ref (tb_ad g (0))) rfl dX5_fill_24 ?_
    refine lv_iload_n X.1 X.2.1 dX5_fill_27 rfl (lv_at hl 1 rfl) ?_
    refine tb_cVr X hH hl.1 (c_X1_areaAt l g z 0 tb_D0 sl (by omega)) ky_X1_areaAt.1 ky_X1_areaAt.2 wm_204 (tb_oD tb_D0) rfl rfl (Nat.le_of_ble_eq_true rfl) ⟨by decide, by decide⟩ ⟨by decide, by decide⟩ dX5_fill_28 (fun H locs hH => ?_)
    refine lv_astore_n (lv' := [(3, .ref (tb_ad g ((tb_at 0 sl)))), (0, .ref (tb_ad g (150))), (1, .int (nI (sl))), (2, .int (w))]) X.1 X.2.1 dX5_fill_31 rfl hl (by decide) rfl (fun ls hl => ?_)
    refine lv_aload_n X.1 X.2.1 dX5_fill_32 rfl (lv_at hl 0 rfl) ?_
    refine tb_get X hH (tb_Ac (tb_isat tb_D0 sl)).1 ((tb_Ac (tb_isat tb_D0 sl)).2 _ _) rfl inlX0 0 (by decide) wm_245 (v := .int (z ((tb_at 0 sl)) 0)) rfl dX5_fill_33 ?_
    refine lv_iconst (v := nI (1)) X.1 X.2.1 dX5_fill_36 (by decide +kernel) ?_
    refine lv_icmp_ne (tgt := 47) X.1 X.2.1 dX5_fill_37 (by decide) (fun c_2 => ?_) (fun c_2 => ?_)
    · refine lv_bipush (v := (-5)) X.1 X.2.1 dX5_fill_47 (by decide +kernel) ?_
      exact tb_ri X hr hlk hH ⟨(by rw [sr_X5_fill]; simp only [if_pos c_1, if_neg c_2]), (by rw [sz_X5_fill]; simp only [if_pos c_1, if_neg c_2])⟩ dX5_fill_49
    · refine lv_aload_n X.1 X.2.1 dX5_fill_40 rfl (lv_at hl 0 rfl) ?_
      refine tb_cVi X hH hl.1 (c_X0_lacking l g z ((tb_at 0 sl)) (tb_isat tb_D0 sl)) ky_X0_lacking.1 ky_X0_lacking.2 wm_247 (tb_oA (tb_isat tb_D0 sl)) rfl rfl (Nat.le_of_ble_eq_true rfl) ⟨by decide, by decide⟩ ⟨by decide, by decide⟩ dX5_fill_41 (fun H locs hH => ?_)
      refine tb_top (x2 := nI (tb_len z (tb_at 0 sl) - tb_fl z (tb_at 0 sl))) (tb_lackN hF) ?_
      refine tb_zne (tgt := 50) X (by omega) dX5_fill_44 (by decide) (fun c_3 => ?_) (fun c_3 => ?_)
      · refine lv_aload_n X.1 X.2.1 dX5_fill_50 rfl (lv_at hl 1 rfl) ?_
        refine tb_get X hH tb_Tc.1 (tb_Tc.2 _ _) rfl inlX5 4 (by decide) wm_24 (v := .ref (tb_ad g (153))) rfl dX5_fill_51 ?_
        refine lv_aload_n X.1 X.2.1 dX5_fill_54 rfl (lv_at hl 1 rfl) ?_
        refine tb_get X hH tb_Tc.1 (tb_Tc.2 _ _) rfl inlX5 0 (by decide) wm_16 (v := .ref (tb_ad g (0))) rfl dX5_fill_55 ?_
        refine tb_cVv X hH hl.1 (c_X2_record l g z 0 tb_D0 (tb_rc z) hrc.1 (Nat.lt_trans hrc.2 (by decide))) ky_X2_record.1 ky_X2_record.2 wm_116 tb_oH rfl rfl (Nat.le_of_ble_eq_true rfl) ⟨by decide, by decide⟩ ⟨by decide, by decide⟩ dX5_fill_58 (fun H locs hH => ?_)
        have hH : tb_H g s.heap (sz_X5_fill_m1 z sl w) H locs := hH
        refine lv_aload_n X.1 X.2.1 dX5_fill_61 rfl (lv_at hl 0 rfl) ?_
        refine lv_iload_n X.1 X.2.1 dX5_fill_62 rfl (lv_at hl 3 rfl) ?_
        refine tb_cVv X hH hl.1 (c_X0_addWord l g (sz_X5_fill_m1 z sl w) ((tb_at 0 sl)) (tb_isat tb_D0 sl) w (tb_fl z (tb_at 0 sl)) (by show sz_X2_record z 0 (tb_rc z) (tb_at 0 sl) 5 = _; rw [tb_rec_at]; exact hF.2.1) (by omega)) ky_X0_addWord.1 ky_X0_addWord.2 wm_251 (tb_oA (tb_isat tb_D0 sl)) rfl rfl (Nat.le_of_ble_eq_true rfl) ⟨by decide, by decide⟩ ⟨by decide, by decide⟩ dX5_fill_63 (fun H locs hH => ?_)
        refine lv_aload_n X.1 X.2.1 dX5_fill_66 rfl (lv_at hl 0 rfl) ?_
        refine tb_get X hH (tb_Ac (tb_isat tb_D0 sl)).1 ((tb_Ac (tb_isat tb_D0 sl)).2 _ _) rfl inlX0 5 (by decide) wm_246 (v := .int ((tb_up (tb_up (sz_X5_fill_m1 z sl w) (((tb_at 0 sl)) + 1) (tb_fl z (tb_at 0 sl)) w) ((tb_at 0 sl)) 5 (nI ((tb_fl z (tb_at 0 sl)) + 1))) ((tb_at 0 sl)) 5)) rfl dX5_fill_67 ?_
        exact tb_ri X hr hlk hH ⟨(by rw [sr_X5_fill]; simp only [if_pos c_1, if_pos c_2, if_neg c_3]), (by rw [sz_X5_fill]; simp only [if_pos c_1, if_pos c_2, if_neg c_3])⟩ dX5_fill_70
      · refine lv_bipush (v := (-5)) X.1 X.2.1 dX5_fill_47 (by decide +kernel) ?_
        exact tb_ri X hr hlk hH ⟨(by rw [sr_X5_fill]; simp only [if_pos c_1, if_pos c_2, if_pos c_3]), (by rw [sz_X5_fill]; simp only [if_pos c_1, if_pos c_2, if_pos c_3])⟩ dX5_fill_49
  · refine lv_bipush (v := (-2)) X.1 X.2.1 dX5_fill_20 (by decide +kernel) ?_
    exact tb_ri X hr hlk hH ⟨(by rw [sr_X5_fill]; simp only [if_neg c_1]), (by rw [sz_X5_fill]; simp only [if_neg c_1])⟩ dX5_fill_22
def sz_X5_finish_m1 (z : tb_M) (sl : Nat) : tb_M := sz_X2_record z 0 (tb_rc z)
def sz_X5_finish (z : tb_M) (sl : Nat) : tb_M := if (z ((tb_at 0 sl)) 0) = (nI (1)) then (if (tb_len z (tb_at 0 sl) - tb_fl z (tb_at 0 sl)) ≤ 0 then (if (((tb_sm ((sz_X5_finish_m1 z sl) (((tb_at 0 sl)) + 1)) (tb_len (sz_X5_finish_m1 z sl) ((tb_at 0 sl))))) = ((sz_X5_finish_m1 z sl) ((tb_at 0 sl)) 3)) then (tb_up (tb_up (sz_X5_finish_m1 z sl) ((tb_at 0 sl)) 0 (nI (2))) ((tb_at 0 sl)) 4 ((tb_up (sz_X5_finish_m1 z sl) ((tb_at 0 sl)) 0 (nI (2))) 1 0)) else (tb_up (sz_X5_finish_m1 z sl) ((tb_at 0 sl)) 0 (nI (4)))) else z) else z
def sr_X5_finish (z : tb_M) (sl : Nat) : Int32 := if (z ((tb_at 0 sl)) 0) = (nI (1)) then (if (tb_len z (tb_at 0 sl) - tb_fl z (tb_at 0 sl)) ≤ 0 then (if (((tb_sm ((sz_X5_finish_m1 z sl) (((tb_at 0 sl)) + 1)) (tb_len (sz_X5_finish_m1 z sl) ((tb_at 0 sl))))) = ((sz_X5_finish_m1 z sl) ((tb_at 0 sl)) 3)) then (nI (1)) else (nI (0))) else ((-5))) else ((-5))
set_option maxHeartbeats 1000000 in
set_option maxRecDepth 100000 in
theorem c_X5_finish (l : Launch) (g : tb_G) (z : tb_M) (sl : Nat) (hsl : sl < 2) (hF : tb_okF z (tb_at 0 sl)) (hrc : tb_okR z) : tb_Mi (.int) l yX5_finish cX5_finish 3 4 g z [.ref (tb_ad g 150), .int (nI sl)] (sr_X5_finish z sl) (sz_X5_finish z sl) := by
  refine tb_goi (own := RX5) (by decide +kernel) rfl (Nat.le_of_ble_eq_true rfl) ?_
  intro p e s m below meth c ls X hr hlk hH hl
  have hl : lv_has ls 3 [(0, .ref (tb_ad g (150))), (1, .int (nI (sl)))] := hl
  have hF2 := hF.1.2
  have hF3 := hF.2.2
  refine lv_iload_n X.1 X.2.1 dX5_finish_0 rfl (lv_at hl 1 rfl) ?_
  refine tb_cSi X hH hl.1 (c_X5_isSlot l g z (nI (sl))) ky_X5_isSlot.1 ky_X5_isSlot.2 wm_179 rfl rfl (Nat.le_of_ble_eq_true rfl) ⟨by decide, by decide⟩ ⟨by decide, by decide⟩ dX5_finish_1 (fun H locs hH => ?_)
  refine tb_jbne (tgt := 9) X dX5_finish_4 (by decide) (fun _ => ?_) (fun c => (c ⟨nI_nlt (by omega) (by omega), nI_nlt (by omega) (by omega)⟩ : False).elim)
  refine lv_aload_n X.1 X.2.1 dX5_finish_9 rfl (lv_at hl 0 rfl) ?_
  refine tb_get X hH tb_Tc.1 (tb_Tc.2 _ _) rfl inlX5 0 (by decide) wm_16 (v := .ref (tb_ad g (0))) rfl dX5_finish_10 ?_
  refine lv_iload_n X.1 X.2.1 dX5_finish_13 rfl (lv_at hl 1 rfl) ?_
  refine tb_cVr X hH hl.1 (c_X1_areaAt l g z 0 tb_D0 sl (by omega)) ky_X1_areaAt.1 ky_X1_areaAt.2 wm_204 (tb_oD tb_D0) rfl rfl (Nat.le_of_ble_eq_true rfl) ⟨by decide, by decide⟩ ⟨by decide, by decide⟩ dX5_finish_14 (fun H locs hH => ?_)
  refine lv_astore_n (lv' := [(2, .ref (tb_ad g ((tb_at 0 sl)))), (0, .ref (tb_ad g (150))), (1, .int (nI (sl)))]) X.1 X.2.1 dX5_finish_17 rfl hl (by decide) rfl (fun ls hl => ?_)
  refine lv_aload_n X.1 X.2.1 dX5_finish_18 rfl (lv_at hl 0 rfl) ?_
  refine tb_get X hH (tb_Ac (tb_isat tb_D0 sl)).1 ((tb_Ac (tb_isat tb_D0 sl)).2 _ _) rfl inlX0 0 (by decide) wm_245 (v := .int (z ((tb_at 0 sl)) 0)) rfl dX5_finish_19 ?_
  refine lv_iconst (v := nI (1)) X.1 X.2.1 dX5_finish_22 (by decide +kernel) ?_
  refine lv_icmp_ne (tgt := 33) X.1 X.2.1 dX5_finish_23 (by decide) (fun c_1 => ?_) (fun c_1 => ?_)
  · refine lv_bipush (v := (-5)) X.1 X.2.1 dX5_finish_33 (by decide +kernel) ?_
    exact tb_ri X hr hlk hH ⟨(by rw [sr_X5_finish]; simp only [if_neg c_1]), (by rw [sz_X5_finish]; simp only [if_neg c_1])⟩ dX5_finish_35
  · refine lv_aload_n X.1 X.2.1 dX5_finish_26 rfl (lv_at hl 0 rfl) ?_
    refine tb_cVi X hH hl.1 (c_X0_lacking l g z ((tb_at 0 sl)) (tb_isat tb_D0 sl)) ky_X0_lacking.1 ky_X0_lacking.2 wm_247 (tb_oA (tb_isat tb_D0 sl)) rfl rfl (Nat.le_of_ble_eq_true rfl) ⟨by decide, by decide⟩ ⟨by decide, by decide⟩ dX5_finish_27 (fun H locs hH => ?_)
    refine tb_top (x2 := nI (tb_len z (tb_at 0 sl) - tb_fl z (tb_at 0 sl))) (tb_lackN hF) ?_
    refine tb_zle (tgt := 36) X (by omega) dX5_finish_30 (by decide) (fun c_2 => ?_) (fun c_2 => ?_)
    · refine lv_aload_n X.1 X.2.1 dX5_finish_36 rfl (lv_at hl 1 rfl) ?_
      refine tb_get X hH tb_Tc.1 (tb_Tc.2 _ _) rfl inlX5 4 (by decide) wm_24 (v := .ref (tb_ad g (153))) rfl dX5_finish_37 ?_
      refine lv_aload_n X.1 X.2.1 dX5_finish_40 rfl (lv_at hl 1 rfl) ?_
      refine tb_get X hH tb_Tc.1 (tb_Tc.2 _ _) rfl inlX5 0 (by decide) wm_16 (v := .ref (tb_ad g (0))) rfl dX5_finish_41 ?_
      refine tb_cVv X hH hl.1 (c_X2_record l g z 0 tb_D0 (tb_rc z) hrc.1 (Nat.lt_trans hrc.2 (by decide))) ky_X2_record.1 ky_X2_record.2 wm_116 tb_oH rfl rfl (Nat.le_of_ble_eq_true rfl) ⟨by decide, by decide⟩ ⟨by decide, by decide⟩ dX5_finish_44 (fun H locs hH => ?_)
      have hH : tb_H g s.heap (sz_X5_finish_m1 z sl) H locs := hH
      refine lv_aload_n X.1 X.2.1 dX5_finish_47 rfl (lv_at hl 0 rfl) ?_
      refine tb_cVi X hH hl.1 (c_X0_isSound l g (sz_X5_finish_m1 z sl) ((tb_at 0 sl)) (tb_isat tb_D0 sl) (tb_rec_okL _ _ hF.1)) ky_X0_isSound.1 ky_X0_isSound.2 wm_314 (tb_oA (tb_isat tb_D0 sl)) rfl rfl (Nat.le_of_ble_eq_true rfl) ⟨by decide, by decide⟩ ⟨by decide, by decide⟩ dX5_finish_48 (fun H locs hH => ?_)
      refine tb_jbne (tgt := 61) X dX5_finish_51 (by decide) (fun c_3 => ?_) (fun c_3 => ?_)
      · refine lv_aload_n X.1 X.2.1 dX5_finish_61 rfl (lv_at hl 0 rfl) ?_
        refine lv_iconst (v := nI (2)) X.1 X.2.1 dX5_finish_62 (by decide +kernel) ?_
        refine tb_putA X hH (tb_isat tb_D0 sl) 0 (by decide) wm_245 dX5_finish_63 (fun H locs hH => ?_)
        refine lv_aload_n X.1 X.2.1 dX5_finish_66 rfl (lv_at hl 0 rfl) ?_
        refine lv_aload_n X.1 X.2.1 dX5_finish_67 rfl (lv_at hl 1 rfl) ?_
        refine tb_get X hH tb_Tc.1 (tb_Tc.2 _ _) rfl inlX5 0 (by decide) wm_16 (v := .ref (tb_ad g (0))) rfl dX5_finish_68 ?_
        refine tb_get X hH (tb_Dc tb_D0).1 ((tb_Dc tb_D0).2 _ _) rfl inlX1 0 (by decide) wm_114 (v := .ref (tb_ad g (1))) rfl dX5_finish_71 ?_
        refine lv_iconst (v := nI (0)) X.1 X.2.1 dX5_finish_74 (by decide +kernel) ?_
        refine tb_ald X hH (tb_iset tb_D0) (0) rfl (by decide) (by first | decide | omega) dX5_finish_75 ?_
        refine tb_putA X hH (tb_isat tb_D0 sl) 4 (by decide) wm_313 dX5_finish_76 (fun H locs hH => ?_)
        refine lv_iconst (v := nI (1)) X.1 X.2.1 dX5_finish_79 (by decide +kernel) ?_
        exact tb_ri X hr hlk hH ⟨(by rw [sr_X5_finish]; simp only [if_pos c_1, if_pos c_2, if_pos c_3]), (by rw [sz_X5_finish]; simp only [if_pos c_1, if_pos c_2, if_pos c_3])⟩ dX5_finish_80
      · refine lv_aload_n X.1 X.2.1 dX5_finish_54 rfl (lv_at hl 0 rfl) ?_
        refine lv_iconst (v := nI (4)) X.1 X.2.1 dX5_finish_55 (by decide +kernel) ?_
        refine tb_putA X hH (tb_isat tb_D0 sl) 0 (by decide) wm_245 dX5_finish_56 (fun H locs hH => ?_)
        refine lv_iconst (v := nI (0)) X.1 X.2.1 dX5_finish_59 (by decide +kernel) ?_
        exact tb_ri X hr hlk hH ⟨(by rw [sr_X5_finish]; simp only [if_pos c_1, if_pos c_2, if_neg c_3]), (by rw [sz_X5_finish]; simp only [if_pos c_1, if_pos c_2, if_neg c_3])⟩ dX5_finish_60
    · refine lv_bipush (v := (-5)) X.1 X.2.1 dX5_finish_33 (by decide +kernel) ?_
      exact tb_ri X hr hlk hH ⟨(by rw [sr_X5_finish]; simp only [if_pos c_1, if_neg c_2]), (by rw [sz_X5_finish]; simp only [if_pos c_1, if_neg c_2])⟩ dX5_finish_35
set_option maxHeartbeats 1000000 in
set_option maxRecDepth 100000 in
theorem c_X5_damage_w (l : Launch) (g : tb_G) (z : tb_M) (sl : Nat) (w : Int32) (y : Int32) (hsl : sl < 2) (hw : ¬ (¬ (w < nI 0) ∧ (¬ (nI 31 < w)))) : tb_Mi (.int) l yX5_damage cX5_damage 5 2 g z [.ref (tb_ad g 150), .int (nI sl), .int w, .int y] ((-1)) (z) := by
  refine tb_goi (own := RX5) (by decide +kernel) rfl (Nat.le_of_ble_eq_true rfl) ?_
  intro p e s m below meth c ls X hr hlk hH hl
  have hl : lv_has ls 5 [(0, .ref (tb_ad g (150))), (1, .int (nI (sl))), (2, .int (w)), (3, .int (y))] := hl
  refine lv_iload_n X.1 X.2.1 dX5_damage_0 rfl (lv_at hl 1 rfl) ?_
  refine tb_cSi X hH hl.1 (c_X5_isSlot l g z (nI (sl))) ky_X5_isSlot.1 ky_X5_isSlot.2 wm_179 rfl rfl (Nat.le_of_ble_eq_true rfl) ⟨by decide, by decide⟩ ⟨by decide, by decide⟩ dX5_damage_1 (fun H locs hH => ?_)
  refine tb_jbeq (tgt := 17) X dX5_damage_4 (by decide) (fun c => (c ⟨nI_nlt (by omega) (by omega), nI_nlt (by omega) (by omega)⟩ : False).elim) (fun _ => ?_)
  refine lv_iload_n X.1 X.2.1 dX5_damage_7 rfl (lv_at hl 2 rfl) ?_
  refine lv_iconst (v := nI (0)) X.1 X.2.1 dX5_damage_8 (by decide +kernel) ?_
  refine lv_bipush (v := nI (31)) X.1 X.2.1 dX5_damage_9 (by decide +kernel) ?_
  refine tb_cSi X hH hl.1 (c_X5_isWithin l g z w (nI (0)) (nI (31))) ky_X5_isWithin.1 ky_X5_isWithin.2 wm_115 rfl rfl (Nat.le_of_ble_eq_true rfl) ⟨by decide, by decide⟩ ⟨by decide, by decide⟩ dX5_damage_11 (fun H locs hH => ?_)
  refine tb_jbne (tgt := 19) X dX5_damage_14 (by decide) (fun c => (hw c : False).elim) (fun _ => ?_)
  refine lv_iconst (v := (-1)) X.1 X.2.1 dX5_damage_17 (by decide +kernel) ?_
  exact tb_ri X hr hlk hH ⟨rfl, rfl⟩ dX5_damage_18
def sz_X5_damage_m1 (z : tb_M) (sl : Nat) (w : Nat) (y : Int32) : tb_M := sz_X2_record z 0 (tb_rc z)
def sz_X5_damage (z : tb_M) (sl : Nat) (w : Nat) (y : Int32) : tb_M := if (¬ (y < (nI (1))) ∧ (¬ ((nI (255)) < y))) then (tb_up (sz_X5_damage_m1 z sl w y) (((tb_at 0 sl)) + 1) w (((sz_X5_damage_m1 z sl w y) (((tb_at 0 sl)) + 1) w) ^^^ y)) else z
def sr_X5_damage (z : tb_M) (sl : Nat) (w : Nat) (y : Int32) : Int32 := if (¬ (y < (nI (1))) ∧ (¬ ((nI (255)) < y))) then ((tb_up (sz_X5_damage_m1 z sl w y) (((tb_at 0 sl)) + 1) w (((sz_X5_damage_m1 z sl w y) (((tb_at 0 sl)) + 1) w) ^^^ y)) (((tb_at 0 sl)) + 1) w) else ((-2))
set_option maxHeartbeats 1000000 in
set_option maxRecDepth 100000 in
theorem c_X5_damage (l : Launch) (g : tb_G) (z : tb_M) (sl : Nat) (w : Nat) (y : Int32) (hsl : sl < 2) (hw : w < 32) (hrc : tb_okR z) : tb_Mi (.int) l yX5_damage cX5_damage 5 4 g z [.ref (tb_ad g 150), .int (nI sl), .int (nI w), .int y] (sr_X5_damage z sl w y) (sz_X5_damage z sl w y) := by
  refine tb_goi (own := RX5) (by decide +kernel) rfl (Nat.le_of_ble_eq_true rfl) ?_
  intro p e s m below meth c ls X hr hlk hH hl
  have hl : lv_has ls 5 [(0, .ref (tb_ad g (150))), (1, .int (nI (sl))), (2, .int (nI (w))), (3, .int (y))] := hl
  refine lv_iload_n X.1 X.2.1 dX5_damage_0 rfl (lv_at hl 1 rfl) ?_
  refine tb_cSi X hH hl.1 (c_X5_isSlot l g z (nI (sl))) ky_X5_isSlot.1 ky_X5_isSlot.2 wm_179 rfl rfl (Nat.le_of_ble_eq_true rfl) ⟨by decide, by decide⟩ ⟨by decide, by decide⟩ dX5_damage_1 (fun H locs hH => ?_)
  refine tb_jbeq (tgt := 17) X dX5_damage_4 (by decide) (fun c => (c ⟨nI_nlt (by omega) (by omega), nI_nlt (by omega) (by omega)⟩ : False).elim) (fun _ => ?_)
  refine lv_iload_n X.1 X.2.1 dX5_damage_7 rfl (lv_at hl 2 rfl) ?_
  refine lv_iconst (v := nI (0)) X.1 X.2.1 dX5_damage_8 (by decide +kernel) ?_
  refine lv_bipush (v := nI (31)) X.1 X.2.1 dX5_damage_9 (by decide +kernel) ?_
  refine tb_cSi X hH hl.1 (c_X5_isWithin l g z (nI (w)) (nI (0)) (nI (31))) ky_X5_isWithin.1 ky_X5_isWithin.2 wm_115 rfl rfl (Nat.le_of_ble_eq_true rfl) ⟨by decide, by decide⟩ ⟨by decide, by decide⟩ dX5_damage_11 (fun H locs hH => ?_)
  refine tb_jbne (tgt := 19) X dX5_damage_14 (by decide) (fun _ => ?_) (fun c => (c ⟨nI_nlt (by omega) (by omega), nI_nlt (by omega) (by omega)⟩ : False).elim)
  refine lv_iload_n X.1 X.2.1 dX5_damage_19 rfl (lv_at hl 3 rfl) ?_
  refine lv_iconst (v := nI (1)) X.1 X.2.1 dX5_damage_20 (by decide +kernel) ?_
  refine lv_sipush (v := nI (255)) X.1 X.2.1 dX5_damage_21 (by decide +kernel) ?_
  refine tb_cSi X hH hl.1 (c_X5_isWithin l g z y (nI (1)) (nI (255))) ky_X5_isWithin.1 ky_X5_isWithin.2 wm_115 rfl rfl (Nat.le_of_ble_eq_true rfl) ⟨by decide, by decide⟩ ⟨by decide, by decide⟩ dX5_damage_24 (fun H locs hH => ?_)
  refine tb_jbne (tgt := 33) X dX5_damage_27 (by decide) (fun c_1 => ?_) (fun c_1 => ?_)
  · refine lv_aload_n X.1 X.2.1 dX5_damage_33 rfl (lv_at hl 0 rfl) ?_
    refine tb_get X hH tb_Tc.1 (tb_Tc.2 _ _) rfl inlX5 4 (by decide) wm_24 (v := .ref (tb_ad g (153))) rfl dX5_damage_34 ?_
    refine lv_aload_n X.1 X.2.1 dX5_damage_37 rfl (lv_at hl 0 rfl) ?_
    refine tb_get X hH tb_Tc.1 (tb_Tc.2 _ _) rfl inlX5 0 (by decide) wm_16 (v := .ref (tb_ad g (0))) rfl dX5_damage_38 ?_
    refine tb_cVv X hH hl.1 (c_X2_record l g z 0 tb_D0 (tb_rc z) hrc.1 (Nat.lt_trans hrc.2 (by decide))) ky_X2_record.1 ky_X2_record.2 wm_116 tb_oH rfl rfl (Nat.le_of_ble_eq_true rfl) ⟨by decide, by decide⟩ ⟨by decide, by decide⟩ dX5_damage_41 (fun H locs hH => ?_)
    have hH : tb_H g s.heap (sz_X5_damage_m1 z sl w y) H locs := hH
    refine lv_aload_n X.1 X.2.1 dX5_damage_44 rfl (lv_at hl 0 rfl) ?_
    refine tb_get X hH tb_Tc.1 (tb_Tc.2 _ _) rfl inlX5 0 (by decide) wm_16 (v := .ref (tb_ad g (0))) rfl dX5_damage_45 ?_
    refine lv_iload_n X.1 X.2.1 dX5_damage_48 rfl (lv_at hl 1 rfl) ?_
    refine tb_cVr X hH hl.1 (c_X1_areaAt l g (sz_X5_damage_m1 z sl w y) 0 tb_D0 sl (by omega)) ky_X1_areaAt.1 ky_X1_areaAt.2 wm_204 (tb_oD tb_D0) rfl rfl (Nat.le_of_ble_eq_true rfl) ⟨by decide, by decide⟩ ⟨by decide, by decide⟩ dX5_damage_49 (fun H locs hH => ?_)
    refine lv_astore (lv' := [(4, .ref (tb_ad g ((tb_at 0 sl)))), (0, .ref (tb_ad g (150))), (1, .int (nI (sl))), (2, .int (nI (w))), (3, .int (y))]) X.1 X.2.1 dX5_damage_52 hl (by decide) rfl (fun ls hl => ?_)
    refine lv_aload X.1 X.2.1 dX5_damage_54 (lv_at hl 0 rfl) ?_
    refine tb_get X hH (tb_Ac (tb_isat tb_D0 sl)).1 ((tb_Ac (tb_isat tb_D0 sl)).2 _ _) rfl inlX0 6 (by decide) wm_338 (v := .ref (tb_ad g (((tb_at 0 sl)) + 1))) rfl dX5_damage_56 ?_
    refine lv_iload_n X.1 X.2.1 dX5_damage_59 rfl (lv_at hl 3 rfl) ?_
    refine lv_dup2_11 X.1 X.2.1 dX5_damage_60 rfl rfl ?_
    refine tb_ald X hH (tb_iw (tb_isat tb_D0 sl)) (w) rfl (by omega) (by first | decide | omega) dX5_damage_61 ?_
    refine lv_iload_n X.1 X.2.1 dX5_damage_62 rfl (lv_at hl 4 rfl) ?_
    refine lv_ixor X.1 X.2.1 dX5_damage_63 ?_
    refine tb_ast X hH (tb_iw (tb_isat tb_D0 sl)) (w) rfl (by omega) (by first | decide | omega) dX5_damage_64 (fun H locs hH => ?_)
    refine lv_aload X.1 X.2.1 dX5_damage_65 (lv_at hl 0 rfl) ?_
    refine tb_get X hH (tb_Ac (tb_isat tb_D0 sl)).1 ((tb_Ac (tb_isat tb_D0 sl)).2 _ _) rfl inlX0 6 (by decide) wm_338 (v := .ref (tb_ad g (((tb_at 0 sl)) + 1))) rfl dX5_damage_67 ?_
    refine lv_iload_n X.1 X.2.1 dX5_damage_70 rfl (lv_at hl 3 rfl) ?_
    refine tb_ald X hH (tb_iw (tb_isat tb_D0 sl)) (w) rfl (by omega) (by first | decide | omega) dX5_damage_71 ?_
    exact tb_ri X hr hlk hH ⟨(by rw [sr_X5_damage]; simp only [if_pos c_1]), (by rw [sz_X5_damage]; simp only [if_pos c_1])⟩ dX5_damage_72
  · refine lv_bipush (v := (-2)) X.1 X.2.1 dX5_damage_30 (by decide +kernel) ?_
    exact tb_ri X hr hlk hH ⟨(by rw [sr_X5_damage]; simp only [if_neg c_1]), (by rw [sz_X5_damage]; simp only [if_neg c_1])⟩ dX5_damage_32
def sz_X5_repair_m1 (z : tb_M) (sl : Nat) : tb_M := sz_X2_record z 0 (tb_rc z)
def sz_X5_repair (z : tb_M) (sl : Nat) : tb_M := if (z 0 5) = (nI (2)) then (if ((sr_X1_beginsLeft z 0 sl 1)) = 0 then z else (if (z 0 8) ≤ 0 then (sz_X0_takeGoldenImage (tb_ec (tb_ew (sz_X5_repair_m1 z sl) ((tb_at 0 sl)) 1) ((tb_at 0 sl)) (1 * 4)) ((tb_at 0 sl))) else z)) else z
def sr_X5_repair (z : tb_M) (sl : Nat) : Int32 := if (z 0 5) = (nI (2)) then (if ((sr_X1_beginsLeft z 0 sl 1)) = 0 then ((-5)) else (if (z 0 8) ≤ 0 then ((tb_gw ((sz_X0_takeGoldenImage (tb_ec (tb_ew (sz_X5_repair_m1 z sl) ((tb_at 0 sl)) 1) ((tb_at 0 sl)) (1 * 4)) ((tb_at 0 sl))) (((tb_at 0 sl)) + 2)) 1)) else ((-5)))) else ((-5))
set_option maxHeartbeats 1000000 in
set_option maxRecDepth 100000 in
theorem c_X5_repair (l : Launch) (g : tb_G) (z : tb_M) (sl : Nat) (hsl : sl < 2) (hrc : tb_okR z) : tb_Mi (.int) l yX5_repair cX5_repair 3 4 g z [.ref (tb_ad g 150), .int (nI sl)] (sr_X5_repair z sl) (sz_X5_repair z sl) := by
  refine tb_goi (own := RX5) (by decide +kernel) rfl (Nat.le_of_ble_eq_true rfl) ?_
  intro p e s m below meth c ls X hr hlk hH hl
  have hl : lv_has ls 3 [(0, .ref (tb_ad g (150))), (1, .int (nI (sl)))] := hl
  refine lv_iload_n X.1 X.2.1 dX5_repair_0 rfl (lv_at hl 1 rfl) ?_
  refine tb_cSi X hH hl.1 (c_X5_isSlot l g z (nI (sl))) ky_X5_isSlot.1 ky_X5_isSlot.2 wm_179 rfl rfl (Nat.le_of_ble_eq_true rfl) ⟨by decide, by decide⟩ ⟨by decide, by decide⟩ dX5_repair_1 (fun H locs hH => ?_)
  refine tb_jbne (tgt := 9) X dX5_repair_4 (by decide) (fun _ => ?_) (fun c => (c ⟨nI_nlt (by omega) (by omega), nI_nlt (by omega) (by omega)⟩ : False).elim)
  refine lv_aload_n X.1 X.2.1 dX5_repair_9 rfl (lv_at hl 0 rfl) ?_
  refine tb_get X hH tb_Tc.1 (tb_Tc.2 _ _) rfl inlX5 0 (by decide) wm_16 (v := .ref (tb_ad g (0))) rfl dX5_repair_10 ?_
  refine tb_get X hH (tb_Dc tb_D0).1 ((tb_Dc tb_D0).2 _ _) rfl inlX1 5 (by decide) wm_177 (v := .int (z 0 5)) rfl dX5_repair_13 ?_
  refine lv_iconst (v := nI (2)) X.1 X.2.1 dX5_repair_16 (by decide +kernel) ?_
  refine lv_icmp_ne (tgt := 42) X.1 X.2.1 dX5_repair_17 (by decide) (fun c_1 => ?_) (fun c_1 => ?_)
  · refine lv_bipush (v := (-5)) X.1 X.2.1 dX5_repair_42 (by decide +kernel) ?_
    exact tb_ri X hr hlk hH ⟨(by rw [sr_X5_repair]; simp only [if_neg c_1]), (by rw [sz_X5_repair]; simp only [if_neg c_1])⟩ dX5_repair_44
  · refine lv_aload_n X.1 X.2.1 dX5_repair_20 rfl (lv_at hl 0 rfl) ?_
    refine tb_get X hH tb_Tc.1 (tb_Tc.2 _ _) rfl inlX5 0 (by decide) wm_16 (v := .ref (tb_ad g (0))) rfl dX5_repair_21 ?_
    refine lv_iload_n X.1 X.2.1 dX5_repair_24 rfl (lv_at hl 1 rfl) ?_
    refine lv_iconst (v := nI (1)) X.1 X.2.1 dX5_repair_25 (by decide +kernel) ?_
    refine tb_cVi X hH hl.1 (c_X1_beginsLeft l g z 0 tb_D0 sl 1 (by omega) (by decide)) ky_X1_beginsLeft.1 ky_X1_beginsLeft.2 wm_188 (tb_oD tb_D0) rfl rfl (Nat.le_of_ble_eq_true rfl) ⟨by decide, by decide⟩ ⟨by decide, by decide⟩ dX5_repair_26 (fun H locs hH => ?_)
    refine lv_if_eq (tgt := 42) X.1 X.2.1 dX5_repair_29 (by decide) (fun c_2 => ?_) (fun c_2 => ?_)
    · refine lv_bipush (v := (-5)) X.1 X.2.1 dX5_repair_42 (by decide +kernel) ?_
      exact tb_ri X hr hlk hH ⟨(by rw [sr_X5_repair]; simp only [if_pos c_1, if_pos c_2]), (by rw [sz_X5_repair]; simp only [if_pos c_1, if_pos c_2])⟩ dX5_repair_44
    · refine lv_aload_n X.1 X.2.1 dX5_repair_32 rfl (lv_at hl 0 rfl) ?_
      refine tb_get X hH tb_Tc.1 (tb_Tc.2 _ _) rfl inlX5 0 (by decide) wm_16 (v := .ref (tb_ad g (0))) rfl dX5_repair_33 ?_
      refine tb_get X hH (tb_Dc tb_D0).1 ((tb_Dc tb_D0).2 _ _) rfl inlX1 8 (by decide) wm_178 (v := .int (z 0 8)) rfl dX5_repair_36 ?_
      refine lv_if_le (tgt := 45) X.1 X.2.1 dX5_repair_39 (by decide) (fun c_3 => ?_) (fun c_3 => ?_)
      · refine lv_aload_n X.1 X.2.1 dX5_repair_45 rfl (lv_at hl 0 rfl) ?_
        refine tb_get X hH tb_Tc.1 (tb_Tc.2 _ _) rfl inlX5 4 (by decide) wm_24 (v := .ref (tb_ad g (153))) rfl dX5_repair_46 ?_
        refine lv_aload_n X.1 X.2.1 dX5_repair_49 rfl (lv_at hl 0 rfl) ?_
        refine tb_get X hH tb_Tc.1 (tb_Tc.2 _ _) rfl inlX5 0 (by decide) wm_16 (v := .ref (tb_ad g (0))) rfl dX5_repair_50 ?_
        refine tb_cVv X hH hl.1 (c_X2_record l g z 0 tb_D0 (tb_rc z) hrc.1 (Nat.lt_trans hrc.2 (by decide))) ky_X2_record.1 ky_X2_record.2 wm_116 tb_oH rfl rfl (Nat.le_of_ble_eq_true rfl) ⟨by decide, by decide⟩ ⟨by decide, by decide⟩ dX5_repair_53 (fun H locs hH => ?_)
        have hH : tb_H g s.heap (sz_X5_repair_m1 z sl) H locs := hH
        refine lv_aload_n X.1 X.2.1 dX5_repair_56 rfl (lv_at hl 0 rfl) ?_
        refine tb_get X hH tb_Tc.1 (tb_Tc.2 _ _) rfl inlX5 0 (by decide) wm_16 (v := .ref (tb_ad g (0))) rfl dX5_repair_57 ?_
        refine lv_iload_n X.1 X.2.1 dX5_repair_60 rfl (lv_at hl 1 rfl) ?_
        refine tb_cVr X hH hl.1 (c_X1_areaAt l g (sz_X5_repair_m1 z sl) 0 tb_D0 sl (by omega)) ky_X1_areaAt.1 ky_X1_areaAt.2 wm_204 (tb_oD tb_D0) rfl rfl (Nat.le_of_ble_eq_true rfl) ⟨by decide, by decide⟩ ⟨by decide, by decide⟩ dX5_repair_61 (fun H locs hH => ?_)
        refine lv_astore_n (lv' := [(2, .ref (tb_ad g ((tb_at 0 sl)))), (0, .ref (tb_ad g (150))), (1, .int (nI (sl)))]) X.1 X.2.1 dX5_repair_64 rfl hl (by decide) rfl (fun ls hl => ?_)
        refine lv_aload_n X.1 X.2.1 dX5_repair_65 rfl (lv_at hl 0 rfl) ?_
        refine lv_iconst (v := nI (1)) X.1 X.2.1 dX5_repair_66 (by decide +kernel) ?_
        refine tb_cVv X hH hl.1 (c_X0_emptyPages l g (sz_X5_repair_m1 z sl) ((tb_at 0 sl)) (tb_isat tb_D0 sl) 1 (by decide)) ky_X0_emptyPages.1 ky_X0_emptyPages.2 wm_205 (tb_oA (tb_isat tb_D0 sl)) rfl rfl (Nat.le_of_ble_eq_true rfl) ⟨by decide, by decide⟩ ⟨by decide, by decide⟩ dX5_repair_67 (fun H locs hH => ?_)
        refine lv_aload_n X.1 X.2.1 dX5_repair_70 rfl (lv_at hl 0 rfl) ?_
        refine tb_cVv X hH hl.1 (c_X0_takeGoldenImage l g (tb_ec (tb_ew (sz_X5_repair_m1 z sl) ((tb_at 0 sl)) 1) ((tb_at 0 sl)) (1 * 4)) ((tb_at 0 sl)) (tb_isat tb_D0 sl)) ky_X0_takeGoldenImage.1 ky_X0_takeGoldenImage.2 wm_347 (tb_oA (tb_isat tb_D0 sl)) rfl rfl (Nat.le_of_ble_eq_true rfl) ⟨by decide, by decide⟩ ⟨by decide, by decide⟩ dX5_repair_71 (fun H locs hH => ?_)
        refine lv_aload_n X.1 X.2.1 dX5_repair_74 rfl (lv_at hl 0 rfl) ?_
        refine lv_iconst (v := nI (1)) X.1 X.2.1 dX5_repair_75 (by decide +kernel) ?_
        refine tb_cVi X hH hl.1 (c_X0_greatestWear l g (sz_X0_takeGoldenImage (tb_ec (tb_ew (sz_X5_repair_m1 z sl) ((tb_at 0 sl)) 1) ((tb_at 0 sl)) (1 * 4)) ((tb_at 0 sl))) ((tb_at 0 sl)) (tb_isat tb_D0 sl) 1 (by decide)) ky_X0_greatestWear.1 ky_X0_greatestWear.2 wm_210 (tb_oA (tb_isat tb_D0 sl)) rfl rfl (Nat.le_of_ble_eq_true rfl) ⟨by decide, by decide⟩ ⟨by decide, by decide⟩ dX5_repair_76 (fun H locs hH => ?_)
        exact tb_ri X hr hlk hH ⟨(by rw [sr_X5_repair]; simp only [if_pos c_1, if_neg c_2, if_pos c_3]), (by rw [sz_X5_repair]; simp only [if_pos c_1, if_neg c_2, if_pos c_3])⟩ dX5_repair_79
      · refine lv_bipush (v := (-5)) X.1 X.2.1 dX5_repair_42 (by decide +kernel) ?_
        exact tb_ri X hr hlk hH ⟨(by rw [sr_X5_repair]; simp only [if_pos c_1, if_neg c_2, if_neg c_3]), (by rw [sz_X5_repair]; simp only [if_pos c_1, if_neg c_2, if_neg c_3])⟩ dX5_repair_44
def sz_X5_start_m1 (z : tb_M) (q : Prop) [Decidable q] : tb_M := sz_X2_record z 0 (tb_rc z)
def sz_X5_start (z : tb_M) (q : Prop) [Decidable q] : tb_M := sz_X1_startBy (sz_X5_start_m1 z q) 0 (nI (if q then 2 else 0))
def sr_X5_start (z : tb_M) (q : Prop) [Decidable q] : Int32 := (sz_X1_startBy (sz_X5_start_m1 z q) 0 (nI (if q then 2 else 0))) 0 5
set_option maxHeartbeats 1000000 in
set_option maxRecDepth 100000 in
theorem c_X5_start (l : Launch) (g : tb_G) (z : tb_M) (q : Prop) [Decidable q] (hS : tb_okS z 0) (hrc : tb_okR z) : tb_Mi (.int) l yX5_start cX5_start 2 5 g z [.ref (tb_ad g 150), .int (tb_b q)] (sr_X5_start z q) (sz_X5_start z q) := by
  refine tb_goi (own := RX5) (by decide +kernel) rfl (Nat.le_of_ble_eq_true rfl) ?_
  intro p e s m below meth c ls X hr hlk hH hl
  have hl : lv_has ls 2 [(0, .ref (tb_ad g (150))), (1, .int (tb_b (q)))] := hl
  refine lv_aload_n X.1 X.2.1 dX5_start_0 rfl (lv_at hl 0 rfl) ?_
  refine tb_get X hH tb_Tc.1 (tb_Tc.2 _ _) rfl inlX5 4 (by decide) wm_24 (v := .ref (tb_ad g (153))) rfl dX5_start_1 ?_
  refine lv_aload_n X.1 X.2.1 dX5_start_4 rfl (lv_at hl 0 rfl) ?_
  refine tb_get X hH tb_Tc.1 (tb_Tc.2 _ _) rfl inlX5 0 (by decide) wm_16 (v := .ref (tb_ad g (0))) rfl dX5_start_5 ?_
  refine tb_cVv X hH hl.1 (c_X2_record l g z 0 tb_D0 (tb_rc z) hrc.1 (Nat.lt_trans hrc.2 (by decide))) ky_X2_record.1 ky_X2_record.2 wm_116 tb_oH rfl rfl (Nat.le_of_ble_eq_true rfl) ⟨by decide, by decide⟩ ⟨by decide, by decide⟩ dX5_start_8 (fun H locs hH => ?_)
  have hH : tb_H g s.heap (sz_X5_start_m1 z q) H locs := hH
  refine lv_aload_n X.1 X.2.1 dX5_start_11 rfl (lv_at hl 0 rfl) ?_
  refine tb_get X hH tb_Tc.1 (tb_Tc.2 _ _) rfl inlX5 0 (by decide) wm_16 (v := .ref (tb_ad g (0))) rfl dX5_start_12 ?_
  refine lv_iload_n X.1 X.2.1 dX5_start_15 rfl (lv_at hl 1 rfl) ?_
  have J_1 : ∀ (H : Heap) (locs : List Loc) (ls : Array Slot) (vq1 : Int32), vq1 = (nI (if q then 2 else 0)) → tb_H g s.heap (sz_X5_start_m1 z q) H locs → lv_has ls 2 [(0, .ref (tb_ad g (150))), (1, .int (tb_b (q)))] → W p l e (tb_rm 5) s m ([.ref (tb_ad g 150), .int (tb_b q)] : List Value).toArray below meth c H locs 0 0 (MQ below (va_Qi (fun r9 u9 => r9 = sr_X5_start z q ∧ u9 = sz_X5_start z q) (tb_B g) (tb_A g)) ([.ref (tb_ad g 150), .int (tb_b q)] : List Value).toArray s 0 0 (tb_A g)) (F0 m 24 ls [.int vq1, .ref (tb_ad g (0))]) := by
    intro H locs ls vq1 evq1 hH hl
    subst evq1
    refine tb_cVv X hH hl.1 (c_X1_startBy l g (sz_X5_start_m1 z q) 0 tb_D0 (nI (if q then 2 else 0)) (tb_rec_okS _ _ hS)) ky_X1_startBy.1 ky_X1_startBy.2 wm_356 (tb_oD tb_D0) rfl rfl (Nat.le_of_ble_eq_true rfl) ⟨by decide, by decide⟩ ⟨by decide, by decide⟩ dX5_start_24 (fun H locs hH => ?_)
    refine lv_aload_n X.1 X.2.1 dX5_start_27 rfl (lv_at hl 0 rfl) ?_
    refine tb_get X hH tb_Tc.1 (tb_Tc.2 _ _) rfl inlX5 0 (by decide) wm_16 (v := .ref (tb_ad g (0))) rfl dX5_start_28 ?_
    refine tb_get X hH (tb_Dc tb_D0).1 ((tb_Dc tb_D0).2 _ _) rfl inlX1 5 (by decide) wm_177 (v := .int ((sz_X1_startBy (sz_X5_start_m1 z q) 0 (nI (if q then 2 else 0))) 0 5)) rfl dX5_start_31 ?_
    exact tb_ri X hr hlk hH ⟨(by rw [sr_X5_start]), (by rw [sz_X5_start])⟩ dX5_start_34
  refine tb_jbeq (tgt := 23) X dX5_start_16 (by decide) (fun c_1 => ?_) (fun c_1 => ?_)
  · refine lv_iconst (v := nI (0)) X.1 X.2.1 dX5_start_23 (by decide +kernel) ?_
    exact J_1 _ _ _ _ (by simp only [if_neg c_1]) hH (lv_sub hl [0, 1] rfl)
  · refine lv_iconst (v := nI (2)) X.1 X.2.1 dX5_start_19 (by decide +kernel) ?_
    refine lv_goto (tgt := 24) X.1 X.2.1 dX5_start_20 (by decide) ?_
    exact J_1 _ _ _ _ (by simp only [if_pos c_1]) hH (lv_sub hl [0, 1] rfl)
set_option maxHeartbeats 1000000 in
set_option maxRecDepth 100000 in
theorem c_X5_pass_bad (l : Launch) (g : tb_G) (z : tb_M) (x : Int32) (hx : ¬ (¬ (x < nI 1) ∧ (¬ (nI 500 < x)))) : tb_Mi (.int) l yX5_pass cX5_pass 2 1 g z [.ref (tb_ad g 150), .int x] ((-2)) (z) := by
  refine tb_goi (own := RX5) (by decide +kernel) rfl (Nat.le_of_ble_eq_true rfl) ?_
  intro p e s m below meth c ls X hr hlk hH hl
  have hl : lv_has ls 2 [(0, .ref (tb_ad g (150))), (1, .int (x))] := hl
  refine lv_iload_n X.1 X.2.1 dX5_pass_0 rfl (lv_at hl 1 rfl) ?_
  refine lv_iconst (v := nI (1)) X.1 X.2.1 dX5_pass_1 (by decide +kernel) ?_
  refine lv_sipush (v := nI (500)) X.1 X.2.1 dX5_pass_2 (by decide +kernel) ?_
  refine tb_cSi X hH hl.1 (c_X5_isWithin l g z x (nI (1)) (nI (500))) ky_X5_isWithin.1 ky_X5_isWithin.2 wm_115 rfl rfl (Nat.le_of_ble_eq_true rfl) ⟨by decide, by decide⟩ ⟨by decide, by decide⟩ dX5_pass_5 (fun H locs hH => ?_)
  refine tb_jbne (tgt := 14) X dX5_pass_8 (by decide) (fun c => (hx c : False).elim) (fun _ => ?_)
  refine lv_bipush (v := (-2)) X.1 X.2.1 dX5_pass_11 (by decide +kernel) ?_
  exact tb_ri X hr hlk hH ⟨rfl, rfl⟩ dX5_pass_13
set_option maxHeartbeats 1000000 in
set_option maxRecDepth 100000 in
theorem c_X5_pass (l : Launch) (g : tb_G) (z : tb_M) (t : Nat) (ht : 1 ≤ t ∧ t ≤ 500) (hrc : tb_okR z) (hW : ∀ i, i < t → tb_okT (tb_lpZ (sz_X2_record z 0 (tb_rc z)) 0 i) 0) : tb_Mi (.int) l yX5_pass cX5_pass 2 6 g z [.ref (tb_ad g 150), .int (nI t)] ((tb_lpN (sz_X2_record z 0 (tb_rc z)) 0 t)) (tb_lpZ (sz_X2_record z 0 (tb_rc z)) 0 t) := by
  refine tb_goi (own := RX5) (by decide +kernel) rfl (Nat.le_of_ble_eq_true rfl) ?_
  intro p e s m below meth c ls X hr hlk hH hl
  have hl : lv_has ls 2 [(0, .ref (tb_ad g (150))), (1, .int (nI (t)))] := hl
  refine lv_iload_n X.1 X.2.1 dX5_pass_0 rfl (lv_at hl 1 rfl) ?_
  refine lv_iconst (v := nI (1)) X.1 X.2.1 dX5_pass_1 (by decide +kernel) ?_
  refine lv_sipush (v := nI (500)) X.1 X.2.1 dX5_pass_2 (by decide +kernel) ?_
  refine tb_cSi X hH hl.1 (c_X5_isWithin l g z (nI (t)) (nI (1)) (nI (500))) ky_X5_isWithin.1 ky_X5_isWithin.2 wm_115 rfl rfl (Nat.le_of_ble_eq_true rfl) ⟨by decide, by decide⟩ ⟨by decide, by decide⟩ dX5_pass_5 (fun H locs hH => ?_)
  refine tb_jbne (tgt := 14) X dX5_pass_8 (by decide) (fun _ => ?_) (fun c => (c ⟨nI_nlt (by omega) (by omega), nI_nlt (by omega) (by omega)⟩ : False).elim)
  refine lv_aload_n X.1 X.2.1 dX5_pass_14 rfl (lv_at hl 0 rfl) ?_
  refine tb_get X hH tb_Tc.1 (tb_Tc.2 _ _) rfl inlX5 4 (by decide) wm_24 (v := .ref (tb_ad g (153))) rfl dX5_pass_15 ?_
  refine lv_aload_n X.1 X.2.1 dX5_pass_18 rfl (lv_at hl 0 rfl) ?_
  refine tb_get X hH tb_Tc.1 (tb_Tc.2 _ _) rfl inlX5 0 (by decide) wm_16 (v := .ref (tb_ad g (0))) rfl dX5_pass_19 ?_
  refine tb_cVv X hH hl.1 (c_X2_record l g z 0 tb_D0 (tb_rc z) hrc.1 (Nat.lt_trans hrc.2 (by decide))) ky_X2_record.1 ky_X2_record.2 wm_116 tb_oH rfl rfl (Nat.le_of_ble_eq_true rfl) ⟨by decide, by decide⟩ ⟨by decide, by decide⟩ dX5_pass_22 (fun H locs hH => ?_)
  refine lv_aload_n X.1 X.2.1 dX5_pass_25 rfl (lv_at hl 0 rfl) ?_
  refine tb_get X hH tb_Tc.1 (tb_Tc.2 _ _) rfl inlX5 0 (by decide) wm_16 (v := .ref (tb_ad g (0))) rfl dX5_pass_26 ?_
  refine lv_iload_n X.1 X.2.1 dX5_pass_29 rfl (lv_at hl 1 rfl) ?_
  refine tb_cVi X hH hl.1 (c_X1_letPass l g (sz_X2_record z 0 (tb_rc z)) 0 tb_D0 t (by omega) hW) ky_X1_letPass.1 ky_X1_letPass.2 wm_425 (tb_oD tb_D0) rfl rfl (Nat.le_of_ble_eq_true rfl) ⟨by decide, by decide⟩ ⟨by decide, by decide⟩ dX5_pass_30 (fun H locs hH => ?_)
  exact tb_ri X hr hlk hH ⟨rfl, rfl⟩ dX5_pass_33
