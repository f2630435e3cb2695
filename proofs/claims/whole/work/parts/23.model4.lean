def tb_fm (z : tb_M) (r : Nat) : Nat := (z 158 ((11 + (46 * r)) + 5)).toNatClampNeg
def tb_okFM (z : tb_M) (r : Nat) : Prop := tb_okM z r ∧ z 158 ((11 + (46 * r)) + 5) = nI (tb_fm z r) ∧ tb_fm z r ≤ tb_lm z r
def tb_wm (z : tb_M) (sl : Nat) : Nat → Int32
  | 0 => nI 0
  | i + 1 => tb_wm z sl i + tb_b (¬ (z 158 ((11 + (46 * sl)) + (6 + i)) < z 158 2))
def tb_ep (z : tb_M) (sl : Nat) : Nat → tb_M
  | 0 => z
  | i + 1 => sz_X6_emptyPage (tb_ep z sl i) sl i
theorem tb_recM_okM {z : tb_M} {r : Nat} (h : tb_okM z r) : tb_okM (tb_recM z) r := tb_okM_c h (by rw [tb_recM_k _ (by decide)])
theorem tb_recM_TM {z : tb_M} (h : tb_okTM z) : tb_okTM (tb_recM z) := ⟨(tb_okRn_c h.1 (by rw [tb_recM_k _ (by decide)])).1, fun r hr => tb_recM_okM (h.2 r hr)⟩
set_option maxHeartbeats 1000000 in
set_option maxRecDepth 100000 in
theorem c_X6_set_bad (l : Launch) (g : tb_G) (z : tb_M) (x : Int32) (y : Int32) (hx : ¬ (¬ (x < nI 0) ∧ (¬ (nI 2 < x)))) : tb_Mi (.int) l yX6_set cX6_set 4 1 g z [.ref (tb_ad g 157), .int x, .int y] ((-2)) (z) := by
  refine tb_goi (own := RX6) (by decide +kernel) rfl (Nat.le_of_ble_eq_true rfl) ?_
  intro p e s m below meth c ls X hr hlk hH hl
  have hl : lv_has ls 4 [(0, .ref (tb_ad g (157))), (1, .int (x)), (2, .int (y))] := hl
  refine lv_iload_n X.1 X.2.1 dX6_set_0 rfl (lv_at hl 1 rfl) ?_
  refine lv_iload_n X.1 X.2.1 dX6_set_1 rfl (lv_at hl 2 rfl) ?_
  refine tb_cSi X hH hl.1 (c_X6_isValue_bad l g z x y hx) ky_X6_isValue.1 ky_X6_isValue.2 wm_159 rfl rfl (Nat.le_of_ble_eq_true rfl) ⟨by decide, by decide⟩ ⟨by decide, by decide⟩ dX6_set_2 (fun H locs hH => ?_)
  refine tb_jbne (tgt := 11) X dX6_set_5 (by decide) (fun c => (c : False).elim) (fun _ => ?_)
  refine lv_bipush (v := (-2)) X.1 X.2.1 dX6_set_8 (by decide +kernel) ?_
  exact tb_ri X hr hlk hH ⟨rfl, rfl⟩ dX6_set_10
def sz_X6_set_m1 (z : tb_M) (q : Nat) (y : Int32) : tb_M := tb_recM z
def sz_X6_set (z : tb_M) (q : Nat) (y : Int32) : tb_M := if (sp_X6_isValue q y) then (tb_up (sz_X6_set_m1 z q y) 158 q y) else z
def sr_X6_set (z : tb_M) (q : Nat) (y : Int32) : Int32 := if (sp_X6_isValue q y) then ((sz_X6_set_m1 z q y) 158 q) else ((-2))
set_option maxHeartbeats 1000000 in
set_option maxRecDepth 100000 in
theorem c_X6_set (l : Launch) (g : tb_G) (z : tb_M) (q : Nat) (y : Int32) (hq : q < 3) (hrc : tb_okRM z) : tb_Mi (.int) l yX6_set cX6_set 4 2 g z [.ref (tb_ad g 157), .int (nI q), .int y] (sr_X6_set z q y) (sz_X6_set z q y) := by
  refine tb_goi (own := RX6) (by decide +kernel) rfl (Nat.le_of_ble_eq_true rfl) ?_
  intro p e s m below meth c ls X hr hlk hH hl
  have hl : lv_has ls 4 [(0, .ref (tb_ad g (157))), (1, .int (nI (q))), (2, .int (y))] := hl
  refine lv_iload_n X.1 X.2.1 dX6_set_0 rfl (lv_at hl 1 rfl) ?_
  refine lv_iload_n X.1 X.2.1 dX6_set_1 rfl (lv_at hl 2 rfl) ?_
  refine tb_cSi X hH hl.1 (c_X6_isValue l g z q y (by first | assumption | omega | decide)) ky_X6_isValue.1 ky_X6_isValue.2 wm_159 rfl rfl (Nat.le_of_ble_eq_true rfl) ⟨by decide, by decide⟩ ⟨by decide, by decide⟩ dX6_set_2 (fun H locs hH => ?_)
  refine tb_jbne (tgt := 11) X dX6_set_5 (by decide) (fun c_1 => ?_) (fun c_1 => ?_)
  · refine lv_aload_n X.1 X.2.1 dX6_set_11 rfl (lv_at hl 0 rfl) ?_
    refine tb_cVv X hH hl.1 (c_X6_record l g z hrc) ky_X6_record.1 ky_X6_record.2 wm_165 tb_oM rfl rfl (Nat.le_of_ble_eq_true rfl) ⟨by decide, by decide⟩ ⟨by decide, by decide⟩ dX6_set_12 (fun H locs hH => ?_)
    have hH : tb_H g s.heap (sz_X6_set_m1 z q y) H locs := hH
    refine lv_aload_n X.1 X.2.1 dX6_set_15 rfl (lv_at hl 0 rfl) ?_
    refine tb_get X hH tb_Mc.1 (tb_Mc.2 _ _) rfl inlX6 0 (by decide) wm_99 (v := .ref (tb_ad g (158))) rfl dX6_set_16 ?_
    refine lv_iload_n X.1 X.2.1 dX6_set_19 rfl (lv_at hl 1 rfl) ?_
    refine tb_ald X hH tb_i158 (q) rfl (by omega) (by first | decide | omega) dX6_set_20 ?_
    refine lv_istore_n (lv' := [(3, .int ((sz_X6_set_m1 z q y) 158 q)), (0, .ref (tb_ad g (157))), (1, .int (nI (q))), (2, .int (y))]) X.1 X.2.1 dX6_set_21 rfl hl (by decide) rfl (fun ls hl => ?_)
    refine lv_aload_n X.1 X.2.1 dX6_set_22 rfl (lv_at hl 1 rfl) ?_
    refine tb_get X hH tb_Mc.1 (tb_Mc.2 _ _) rfl inlX6 0 (by decide) wm_99 (v := .ref (tb_ad g (158))) rfl dX6_set_23 ?_
    refine lv_iload_n X.1 X.2.1 dX6_set_26 rfl (lv_at hl 2 rfl) ?_
    refine lv_iload_n X.1 X.2.1 dX6_set_27 rfl (lv_at hl 3 rfl) ?_
    refine tb_ast X hH tb_i158 (q) rfl (by omega) (by first | decide | omega) dX6_set_28 (fun H locs hH => ?_)
    refine lv_iload_n X.1 X.2.1 dX6_set_29 rfl (lv_at hl 0 rfl) ?_
    exact tb_ri X hr hlk hH ⟨(by rw [sr_X6_set]; simp only [if_pos c_1]), (by rw [sz_X6_set]; simp only [if_pos c_1])⟩ dX6_set_30
  · refine lv_bipush (v := (-2)) X.1 X.2.1 dX6_set_8 (by decide +kernel) ?_
    exact tb_ri X hr hlk hH ⟨(by rw [sr_X6_set]; simp only [if_neg c_1]), (by rw [sz_X6_set]; simp only [if_neg c_1])⟩ dX6_set_10
set_option maxHeartbeats 1000000 in
set_option maxRecDepth 100000 in
theorem c_X6_begin_bad (l : Launch) (g : tb_G) (z : tb_M) (x : Int32) (v : Int32) (n : Int32) (t : Int32) (hx : ¬ (¬ (x < nI 0) ∧ (¬ (nI 1 < x)))) : tb_Mi (.int) l yX6_begin cX6_begin 6 2 g z [.ref (tb_ad g 157), .int x, .int v, .int n, .int t] ((-1)) (z) := by
  refine tb_goi (own := RX6) (by decide +kernel) rfl (Nat.le_of_ble_eq_true rfl) ?_
  intro p e s m below meth c ls X hr hlk hH hl
  have hl : lv_has ls 6 [(0, .ref (tb_ad g (157))), (1, .int (x)), (2, .int (v)), (3, .int (n)), (4, .int (t))] := hl
  refine lv_iload_n X.1 X.2.1 dX6_begin_0 rfl (lv_at hl 1 rfl) ?_
  refine tb_cSi X hH hl.1 (c_X6_isSlot l g z x) ky_X6_isSlot.1 ky_X6_isSlot.2 wm_215 rfl rfl (Nat.le_of_ble_eq_true rfl) ⟨by decide, by decide⟩ ⟨by decide, by decide⟩ dX6_begin_1 (fun H locs hH => ?_)
  refine tb_jbne (tgt := 9) X dX6_begin_4 (by decide) (fun c => (hx c : False).elim) (fun _ => ?_)
  refine lv_iconst (v := (-1)) X.1 X.2.1 dX6_begin_7 (by decide +kernel) ?_
  exact tb_ri X hr hlk hH ⟨rfl, rfl⟩ dX6_begin_8
set_option maxHeartbeats 1000000 in
set_option maxRecDepth 100000 in
theorem c_X6_fill_bad (l : Launch) (g : tb_G) (z : tb_M) (x : Int32) (w : Int32) (hx : ¬ (¬ (x < nI 0) ∧ (¬ (nI 1 < x)))) : tb_Mi (.int) l yX6_fill cX6_fill 3 2 g z [.ref (tb_ad g 157), .int x, .int w] ((-1)) (z) := by
  refine tb_goi (own := RX6) (by decide +kernel) rfl (Nat.le_of_ble_eq_true rfl) ?_
  intro p e s m below meth c ls X hr hlk hH hl
  have hl : lv_has ls 3 [(0, .ref (tb_ad g (157))), (1, .int (x)), (2, .int (w))] := hl
  refine lv_iload_n X.1 X.2.1 dX6_fill_0 rfl (lv_at hl 1 rfl) ?_
  refine tb_cSi X hH hl.1 (c_X6_isSlot l g z x) ky_X6_isSlot.1 ky_X6_isSlot.2 wm_215 rfl rfl (Nat.le_of_ble_eq_true rfl) ⟨by decide, by decide⟩ ⟨by decide, by decide⟩ dX6_fill_1 (fun H locs hH => ?_)
  refine tb_jbne (tgt := 9) X dX6_fill_4 (by decide) (fun c => (hx c : False).elim) (fun _ => ?_)
  refine lv_iconst (v := (-1)) X.1 X.2.1 dX6_fill_7 (by decide +kernel) ?_
  exact tb_ri X hr hlk hH ⟨rfl, rfl⟩ dX6_fill_8
set_option maxHeartbeats 1000000 in
set_option maxRecDepth 100000 in
theorem c_X6_finish_bad (l : Launch) (g : tb_G) (z : tb_M) (x : Int32) (hx : ¬ (¬ (x < nI 0) ∧ (¬ (nI 1 < x)))) : tb_Mi (.int) l yX6_finish cX6_finish 3 2 g z [.ref (tb_ad g 157), .int x] ((-1)) (z) := by
  refine tb_goi (own := RX6) (by decide +kernel) rfl (Nat.le_of_ble_eq_true rfl) ?_
  intro p e s m below meth c ls X hr hlk hH hl
  have hl : lv_has ls 3 [(0, .ref (tb_ad g (157))), (1, .int (x))] := hl
  refine lv_iload_n X.1 X.2.1 dX6_finish_0 rfl (lv_at hl 1 rfl) ?_
  refine tb_cSi X hH hl.1 (c_X6_isSlot l g z x) ky_X6_isSlot.1 ky_X6_isSlot.2 wm_215 rfl rfl (Nat.le_of_ble_eq_true rfl) ⟨by decide, by decide⟩ ⟨by decide, by decide⟩ dX6_finish_1 (fun H locs hH => ?_)
  refine tb_jbne (tgt := 9) X dX6_finish_4 (by decide) (fun c => (hx c : False).elim) (fun _ => ?_)
  refine lv_iconst (v := (-1)) X.1 X.2.1 dX6_finish_7 (by decide +kernel) ?_
  exact tb_ri X hr hlk hH ⟨rfl, rfl⟩ dX6_finish_8
set_option maxHeartbeats 1000000 in
set_option maxRecDepth 100000 in
theorem c_X6_repair_bad (l : Launch) (g : tb_G) (z : tb_M) (x : Int32) (hx : ¬ (¬ (x < nI 0) ∧ (¬ (nI 1 < x)))) : tb_Mi (.int) l yX6_repair cX6_repair 3 2 g z [.ref (tb_ad g 157), .int x] ((-1)) (z) := by
  refine tb_goi (own := RX6) (by decide +kernel) rfl (Nat.le_of_ble_eq_true rfl) ?_
  intro p e s m below meth c ls X hr hlk hH hl
  have hl : lv_has ls 3 [(0, .ref (tb_ad g (157))), (1, .int (x))] := hl
  refine lv_iload_n X.1 X.2.1 dX6_repair_0 rfl (lv_at hl 1 rfl) ?_
  refine tb_cSi X hH hl.1 (c_X6_isSlot l g z x) ky_X6_isSlot.1 ky_X6_isSlot.2 wm_215 rfl rfl (Nat.le_of_ble_eq_true rfl) ⟨by decide, by decide⟩ ⟨by decide, by decide⟩ dX6_repair_1 (fun H locs hH => ?_)
  refine tb_jbne (tgt := 9) X dX6_repair_4 (by decide) (fun c => (hx c : False).elim) (fun _ => ?_)
  refine lv_iconst (v := (-1)) X.1 X.2.1 dX6_repair_7 (by decide +kernel) ?_
  exact tb_ri X hr hlk hH ⟨rfl, rfl⟩ dX6_repair_8
set_option maxHeartbeats 1000000 in
set_option maxRecDepth 100000 in
theorem c_X6_slot_bad (l : Launch) (g : tb_G) (z : tb_M) (x : Int32) (w : Int32) (hx : ¬ (¬ (x < nI 0) ∧ (¬ (nI 1 < x)))) : tb_Mi (.int) l yX6_slot cX6_slot 3 2 g z [.ref (tb_ad g 157), .int x, .int w] ((-1)) (z) := by
  refine tb_goi (own := RX6) (by decide +kernel) rfl (Nat.le_of_ble_eq_true rfl) ?_
  intro p e s m below meth c ls X hr hlk hH hl
  have hl : lv_has ls 3 [(0, .ref (tb_ad g (157))), (1, .int (x)), (2, .int (w))] := hl
  refine lv_iload_n X.1 X.2.1 dX6_slot_0 rfl (lv_at hl 1 rfl) ?_
  refine tb_cSi X hH hl.1 (c_X6_isSlot l g z x) ky_X6_isSlot.1 ky_X6_isSlot.2 wm_215 rfl rfl (Nat.le_of_ble_eq_true rfl) ⟨by decide, by decide⟩ ⟨by decide, by decide⟩ dX6_slot_1 (fun H locs hH => ?_)
  refine tb_jbne (tgt := 9) X dX6_slot_4 (by decide) (fun c => (hx c : False).elim) (fun _ => ?_)
  refine lv_iconst (v := (-1)) X.1 X.2.1 dX6_slot_7 (by decide +kernel) ?_
  exact tb_ri X hr hlk hH ⟨rfl, rfl⟩ dX6_slot_8
set_option maxHeartbeats 1000000 in
set_option maxRecDepth 100000 in
theorem c_X6_lasts_bad (l : Launch) (g : tb_G) (z : tb_M) (x : Int32) (w : Int32) (hx : ¬ (¬ (x < nI 0) ∧ (¬ (nI 1 < x)))) : tb_Mi (.int) l yX6_lasts cX6_lasts 4 2 g z [.ref (tb_ad g 157), .int x, .int w] ((-1)) (z) := by
  refine tb_goi (own := RX6) (by decide +kernel) rfl (Nat.le_of_ble_eq_true rfl) ?_
  intro p e s m below meth c ls X hr hlk hH hl
  have hl : lv_has ls 4 [(0, .ref (tb_ad g (157))), (1, .int (x)), (2, .int (w))] := hl
  refine lv_iload_n X.1 X.2.1 dX6_lasts_0 rfl (lv_at hl 1 rfl) ?_
  refine tb_cSi X hH hl.1 (c_X6_isSlot l g z x) ky_X6_isSlot.1 ky_X6_isSlot.2 wm_215 rfl rfl (Nat.le_of_ble_eq_true rfl) ⟨by decide, by decide⟩ ⟨by decide, by decide⟩ dX6_lasts_1 (fun H locs hH => ?_)
  refine tb_jbne (tgt := 9) X dX6_lasts_4 (by decide) (fun c => (hx c : False).elim) (fun _ => ?_)
  refine lv_iconst (v := (-1)) X.1 X.2.1 dX6_lasts_7 (by decide +kernel) ?_
  exact tb_ri X hr hlk hH ⟨rfl, rfl⟩ dX6_lasts_8
set_option maxHeartbeats 1000000 in
set_option maxRecDepth 100000 in
theorem c_X6_damage_bad (l : Launch) (g : tb_G) (z : tb_M) (x : Int32) (w : Int32) (y : Int32) (hx : ¬ (¬ (x < nI 0) ∧ (¬ (nI 1 < x)))) : tb_Mi (.int) l yX6_damage cX6_damage 4 2 g z [.ref (tb_ad g 157), .int x, .int w, .int y] ((-1)) (z) := by
  refine tb_goi (own := RX6) (by decide +kernel) rfl (Nat.le_of_ble_eq_true rfl) ?_
  intro p e s m below meth c ls X hr hlk hH hl
  have hl : lv_has ls 4 [(0, .ref (tb_ad g (157))), (1, .int (x)), (2, .int (w)), (3, .int (y))] := hl
  refine lv_iload_n X.1 X.2.1 dX6_damage_0 rfl (lv_at hl 1 rfl) ?_
  refine tb_cSi X hH hl.1 (c_X6_isSlot l g z x) ky_X6_isSlot.1 ky_X6_isSlot.2 wm_215 rfl rfl (Nat.le_of_ble_eq_true rfl) ⟨by decide, by decide⟩ ⟨by decide, by decide⟩ dX6_damage_1 (fun H locs hH => ?_)
  refine tb_jbeq (tgt := 17) X dX6_damage_4 (by decide) (fun _ => ?_) (fun c => (hx c : False).elim)
  refine lv_iconst (v := (-1)) X.1 X.2.1 dX6_damage_17 (by decide +kernel) ?_
  exact tb_ri X hr hlk hH ⟨rfl, rfl⟩ dX6_damage_18
set_option maxHeartbeats 1000000 in
set_option maxRecDepth 100000 in
theorem c_X6_wear_bad (l : Launch) (g : tb_G) (z : tb_M) (x : Int32) (w : Int32) (hx : ¬ (¬ (x < nI 0) ∧ (¬ (nI 1 < x)))) : tb_Mi (.int) l yX6_wear cX6_wear 3 2 g z [.ref (tb_ad g 157), .int x, .int w] ((-1)) (z) := by
  refine tb_goi (own := RX6) (by decide +kernel) rfl (Nat.le_of_ble_eq_true rfl) ?_
  intro p e s m below meth c ls X hr hlk hH hl
  have hl : lv_has ls 3 [(0, .ref (tb_ad g (157))), (1, .int (x)), (2, .int (w))] := hl
  refine lv_iload_n X.1 X.2.1 dX6_wear_0 rfl (lv_at hl 1 rfl) ?_
  refine tb_cSi X hH hl.1 (c_X6_isSlot l g z x) ky_X6_isSlot.1 ky_X6_isSlot.2 wm_215 rfl rfl (Nat.le_of_ble_eq_true rfl) ⟨by decide, by decide⟩ ⟨by decide, by decide⟩ dX6_wear_1 (fun H locs hH => ?_)
  refine tb_jbeq (tgt := 29) X dX6_wear_4 (by decide) (fun _ => ?_) (fun c => (hx c : False).elim)
  refine lv_iconst (v := (-1)) X.1 X.2.1 dX6_wear_29 (by decide +kernel) ?_
  exact tb_ri X hr hlk hH ⟨rfl, rfl⟩ dX6_wear_30
set_option maxHeartbeats 1000000 in
set_option maxRecDepth 100000 in
theorem c_X6_begin_len (l : Launch) (g : tb_G) (z : tb_M) (sl : Nat) (v : Int32) (n : Int32) (t : Int32) (hsl : sl < 2) (hn : ¬ (¬ (n < nI 2) ∧ (¬ (nI 32 < n)))) : tb_Mi (.int) l yX6_begin cX6_begin 6 2 g z [.ref (tb_ad g 157), .int (nI sl), .int v, .int n, .int t] ((-2)) (z) := by
  refine tb_goi (own := RX6) (by decide +kernel) rfl (Nat.le_of_ble_eq_true rfl) ?_
  intro p e s m below meth c ls X hr hlk hH hl
  have hl : lv_has ls 6 [(0, .ref (tb_ad g (157))), (1, .int (nI (sl))), (2, .int (v)), (3, .int (n)), (4, .int (t))] := hl
  refine lv_iload_n X.1 X.2.1 dX6_begin_0 rfl (lv_at hl 1 rfl) ?_
  refine tb_cSi X hH hl.1 (c_X6_isSlot l g z (nI (sl))) ky_X6_isSlot.1 ky_X6_isSlot.2 wm_215 rfl rfl (Nat.le_of_ble_eq_true rfl) ⟨by decide, by decide⟩ ⟨by decide, by decide⟩ dX6_begin_1 (fun H locs hH => ?_)
  refine tb_jbne (tgt := 9) X dX6_begin_4 (by decide) (fun _ => ?_) (fun c => (c ⟨nI_nlt (by omega) (by omega), nI_nlt (by omega) (by omega)⟩ : False).elim)
  refine lv_iload_n X.1 X.2.1 dX6_begin_9 rfl (lv_at hl 2 rfl) ?_
  refine lv_iconst (v := nI (0)) X.1 X.2.1 dX6_begin_10 (by decide +kernel) ?_
  refine lv_bipush (v := nI (99)) X.1 X.2.1 dX6_begin_11 (by decide +kernel) ?_
  refine tb_cSi X hH hl.1 (c_X6_within l g z v (nI (0)) (nI (99))) ky_X6_within.1 ky_X6_within.2 wm_162 rfl rfl (Nat.le_of_ble_eq_true rfl) ⟨by decide, by decide⟩ ⟨by decide, by decide⟩ dX6_begin_13 (fun H locs hH => ?_)
  refine tb_jbeq (tgt := 41) X dX6_begin_16 (by decide) (fun c_1 => ?_) (fun c_1 => ?_)
  · refine lv_bipush (v := (-2)) X.1 X.2.1 dX6_begin_41 (by decide +kernel) ?_
    exact tb_ri X hr hlk hH ⟨rfl, rfl⟩ dX6_begin_43
  · refine lv_iload_n X.1 X.2.1 dX6_begin_19 rfl (lv_at hl 3 rfl) ?_
    refine lv_iconst (v := nI (2)) X.1 X.2.1 dX6_begin_20 (by decide +kernel) ?_
    refine lv_bipush (v := nI (32)) X.1 X.2.1 dX6_begin_21 (by decide +kernel) ?_
    refine tb_cSi X hH hl.1 (c_X6_within l g z n (nI (2)) (nI (32))) ky_X6_within.1 ky_X6_within.2 wm_162 rfl rfl (Nat.le_of_ble_eq_true rfl) ⟨by decide, by decide⟩ ⟨by decide, by decide⟩ dX6_begin_23 (fun H locs hH => ?_)
    refine tb_jbeq (tgt := 41) X dX6_begin_26 (by decide) (fun _ => ?_) (fun c => (hn c : False).elim)
    refine lv_bipush (v := (-2)) X.1 X.2.1 dX6_begin_41 (by decide +kernel) ?_
    exact tb_ri X hr hlk hH ⟨rfl, rfl⟩ dX6_begin_43
def sz_X6_begin_m1 (z : tb_M) (sl : Nat) (v : Int32) (n : Nat) (t : Int32) (rn : Nat) : tb_M := tb_up (tb_up (tb_up (tb_up (tb_up (tb_up (tb_ep (tb_recM z) sl ((n + 4 - 1) / 4)) 158 ((11 + (46 * sl)) + 0) (nI (1))) 158 ((11 + (46 * sl)) + 1) v) 158 ((11 + (46 * sl)) + 2) (nI (n))) 158 ((11 + (46 * sl)) + 3) t) 158 ((11 + (46 * sl)) + 4) (nI (0))) 158 ((11 + (46 * sl)) + 5) (nI (0))
def sz_X6_begin (z : tb_M) (sl : Nat) (v : Int32) (n : Nat) (t : Int32) (rn : Nat) : tb_M := if (¬ (v < (nI (0))) ∧ (¬ ((nI (99)) < v))) then (if (¬ (t < (nI (0))) ∧ (¬ ((nI (250)) < t))) then (if rn = sl then z else (if v < (z 158 6) then z else (if (tb_aw z sl (((n + 4 - 1) / 4)) = true) then z else (sz_X6_begin_m1 z sl v n t rn)))) else z) else z
def sr_X6_begin (z : tb_M) (sl : Nat) (v : Int32) (n : Nat) (t : Int32) (rn : Nat) : Int32 := if (¬ (v < (nI (0))) ∧ (¬ ((nI (99)) < v))) then (if (¬ (t < (nI (0))) ∧ (¬ ((nI (250)) < t))) then (if rn = sl then ((-5)) else (if v < (z 158 6) then ((-5)) else (if (tb_aw z sl (((n + 4 - 1) / 4)) = true) then ((-5)) else ((tb_gx (fun i => (sz_X6_begin_m1 z sl v n t rn) 158 ((11 + (46 * sl)) + (6 + i))) (((n + 4 - 1) / 4))))))) else ((-2))) else ((-2))
set_option maxHeartbeats 1000000 in
set_option maxRecDepth 100000 in
theorem c_X6_begin (l : Launch) (g : tb_G) (z : tb_M) (sl : Nat) (v : Int32) (n : Nat) (t : Int32) (rn : Nat) (hsl : sl < 2) (hn : 2 ≤ n ∧ n ≤ 32) (hrn : z 158 3 = nI rn) (hrn2 : rn ≤ 2) (hrc : tb_okRM z) : tb_Mi (.int) l yX6_begin cX6_begin 6 3 g z [.ref (tb_ad g 157), .int (nI sl), .int v, .int (nI n), .int t] (sr_X6_begin z sl v n t rn) (sz_X6_begin z sl v n t rn) := by
  refine tb_goi (own := RX6) (by decide +kernel) rfl (Nat.le_of_ble_eq_true rfl) ?_
  intro p e s m below meth c ls X hr hlk hH hl
  have hl : lv_has ls 6 [(0, .ref (tb_ad g (157))), (1, .int (nI (sl))), (2, .int (v)), (3, .int (nI (n))), (4, .int (t))] := hl
  refine lv_iload_n X.1 X.2.1 dX6_begin_0 rfl (lv_at hl 1 rfl) ?_
  refine tb_cSi X hH hl.1 (c_X6_isSlot l g z (nI (sl))) ky_X6_isSlot.1 ky_X6_isSlot.2 wm_215 rfl rfl (Nat.le_of_ble_eq_true rfl) ⟨by decide, by decide⟩ ⟨by decide, by decide⟩ dX6_begin_1 (fun H locs hH => ?_)
  refine tb_jbne (tgt := 9) X dX6_begin_4 (by decide) (fun _ => ?_) (fun c => (c ⟨nI_nlt (by omega) (by omega), nI_nlt (by omega) (by omega)⟩ : False).elim)
  refine lv_iload_n X.1 X.2.1 dX6_begin_9 rfl (lv_at hl 2 rfl) ?_
  refine lv_iconst (v := nI (0)) X.1 X.2.1 dX6_begin_10 (by decide +kernel) ?_
  refine lv_bipush (v := nI (99)) X.1 X.2.1 dX6_begin_11 (by decide +kernel) ?_
  refine tb_cSi X hH hl.1 (c_X6_within l g z v (nI (0)) (nI (99))) ky_X6_within.1 ky_X6_within.2 wm_162 rfl rfl (Nat.le_of_ble_eq_true rfl) ⟨by decide, by decide⟩ ⟨by decide, by decide⟩ dX6_begin_13 (fun H locs hH => ?_)
  refine tb_jbeq (tgt := 41) X dX6_begin_16 (by decide) (fun c_1 => ?_) (fun c_1 => ?_)
  · refine lv_bipush (v := (-2)) X.1 X.2.1 dX6_begin_41 (by decide +kernel) ?_
    exact tb_ri X hr hlk hH ⟨(by rw [sr_X6_begin]; simp only [if_neg c_1]), (by rw [sz_X6_begin]; simp only [if_neg c_1])⟩ dX6_begin_43
  · refine lv_iload_n X.1 X.2.1 dX6_begin_19 rfl (lv_at hl 3 rfl) ?_
    refine lv_iconst (v := nI (2)) X.1 X.2.1 dX6_begin_20 (by decide +kernel) ?_
    refine lv_bipush (v := nI (32)) X.1 X.2.1 dX6_begin_21 (by decide +kernel) ?_
    refine tb_cSi X hH hl.1 (c_X6_within l g z (nI (n)) (nI (2)) (nI (32))) ky_X6_within.1 ky_X6_within.2 wm_162 rfl rfl (Nat.le_of_ble_eq_true rfl) ⟨by decide, by decide⟩ ⟨by decide, by decide⟩ dX6_begin_23 (fun H locs hH => ?_)
    refine tb_jbeq (tgt := 41) X dX6_begin_26 (by decide) (fun c => (c ⟨nI_nlt (by omega) (by omega), nI_nlt (by omega) (by omega)⟩ : False).elim) (fun _ => ?_)
    refine lv_iload X.1 X.2.1 dX6_begin_29 (lv_at hl 4 rfl) ?_
    refine lv_iconst (v := nI (0)) X.1 X.2.1 dX6_begin_31 (by decide +kernel) ?_
    refine lv_sipush (v := nI (250)) X.1 X.2.1 dX6_begin_32 (by decide +kernel) ?_
    refine tb_cSi X hH hl.1 (c_X6_within l g z t (nI (0)) (nI (250))) ky_X6_within.1 ky_X6_within.2 wm_162 rfl rfl (Nat.le_of_ble_eq_true rfl) ⟨by decide, by decide⟩ ⟨by decide, by decide⟩ dX6_begin_35 (fun H locs hH => ?_)
    refine tb_jbne (tgt := 44) X dX6_begin_38 (by decide) (fun c_2 => ?_) (fun c_2 => ?_)
    · refine lv_aload_n X.1 X.2.1 dX6_begin_44 rfl (lv_at hl 0 rfl) ?_
      refine tb_get X hH tb_Mc.1 (tb_Mc.2 _ _) rfl inlX6 0 (by decide) wm_99 (v := .ref (tb_ad g (158))) rfl dX6_begin_45 ?_
      refine lv_iconst (v := nI (3)) X.1 X.2.1 dX6_begin_48 (by decide +kernel) ?_
      refine tb_ald X hH tb_i158 (3) rfl (by decide) (by first | decide | omega) dX6_begin_49 ?_
      refine tb_top (x2 := nI (rn)) (hrn) ?_
      refine lv_iload_n X.1 X.2.1 dX6_begin_50 rfl (lv_at hl 1 rfl) ?_
      refine tb_neq (tgt := 77) X (by omega) (by omega) dX6_begin_51 (by decide) (fun c_3 => ?_) (fun c_3 => ?_)
      · refine lv_bipush (v := (-5)) X.1 X.2.1 dX6_begin_77 (by decide +kernel) ?_
        exact tb_ri X hr hlk hH ⟨(by rw [sr_X6_begin]; simp only [if_pos c_1, if_pos c_2, if_pos c_3]), (by rw [sz_X6_begin]; simp only [if_pos c_1, if_pos c_2, if_pos c_3])⟩ dX6_begin_79
      · refine lv_iload_n X.1 X.2.1 dX6_begin_54 rfl (lv_at hl 2 rfl) ?_
        refine lv_aload_n X.1 X.2.1 dX6_begin_55 rfl (lv_at hl 0 rfl) ?_
        refine tb_get X hH tb_Mc.1 (tb_Mc.2 _ _) rfl inlX6 0 (by decide) wm_99 (v := .ref (tb_ad g (158))) rfl dX6_begin_56 ?_
        refine lv_bipush (v := nI (6)) X.1 X.2.1 dX6_begin_59 (by decide +kernel) ?_
        refine tb_ald X hH tb_i158 (6) rfl (by decide) (by first | decide | omega) dX6_begin_61 ?_
        refine lv_icmp_lt (tgt := 77) X.1 X.2.1 dX6_begin_62 (by decide) (fun c_4 => ?_) (fun c_4 => ?_)
        · refine lv_bipush (v := (-5)) X.1 X.2.1 dX6_begin_77 (by decide +kernel) ?_
          exact tb_ri X hr hlk hH ⟨(by rw [sr_X6_begin]; simp only [if_pos c_1, if_pos c_2, if_neg c_3, if_pos c_4]), (by rw [sz_X6_begin]; simp only [if_pos c_1, if_pos c_2, if_neg c_3, if_pos c_4])⟩ dX6_begin_79
        · refine lv_aload_n X.1 X.2.1 dX6_begin_65 rfl (lv_at hl 0 rfl) ?_
          refine lv_iload_n X.1 X.2.1 dX6_begin_66 rfl (lv_at hl 1 rfl) ?_
          refine lv_iload_n X.1 X.2.1 dX6_begin_67 rfl (lv_at hl 3 rfl) ?_
          refine tb_cSi X hH hl.1 (c_X6_pagesOf l g z n (by omega)) ky_X6_pagesOf.1 ky_X6_pagesOf.2 wm_218 rfl rfl (Nat.le_of_ble_eq_true rfl) ⟨by decide, by decide⟩ ⟨by decide, by decide⟩ dX6_begin_68 (fun H locs hH => ?_)
          refine tb_cVi X hH hl.1 (c_X6_isAnyWorn l g z sl (((n + 4 - 1) / 4)) hsl (by omega)) ky_X6_isAnyWorn.1 ky_X6_isAnyWorn.2 wm_221 tb_oM rfl rfl (Nat.le_of_ble_eq_true rfl) ⟨by decide, by decide⟩ ⟨by decide, by decide⟩ dX6_begin_71 (fun H locs hH => ?_)
          refine tb_jbeq (tgt := 80) X dX6_begin_74 (by decide) (fun c_5 => ?_) (fun c_5 => ?_)
          · refine lv_aload_n X.1 X.2.1 dX6_begin_80 rfl (lv_at hl 0 rfl) ?_
            refine tb_cVv X hH hl.1 (c_X6_record l g z hrc) ky_X6_record.1 ky_X6_record.2 wm_165 tb_oM rfl rfl (Nat.le_of_ble_eq_true rfl) ⟨by decide, by decide⟩ ⟨by decide, by decide⟩ dX6_begin_81 (fun H locs hH => ?_)
            refine lv_iconst (v := nI (0)) X.1 X.2.1 dX6_begin_84 (by decide +kernel) ?_
            refine lv_istore (lv' := [(5, .int (nI (0))), (0, .ref (tb_ad g (157))), (1, .int (nI (sl))), (2, .int (v)), (3, .int (nI (n))), (4, .int (t))]) X.1 X.2.1 dX6_begin_85 hl (by decide) rfl (fun ls hl => ?_)
            have L_87 : ∀ (k : Nat) (i : Nat), i + k = (n + 4 - 1) / 4 → ∀ (H : Heap) (locs : List Loc) (ls : Array Slot), tb_H g s.heap (tb_ep (tb_recM z) sl i) H locs → lv_has ls 6 [(0, .ref (tb_ad g (157))), (1, .int (nI (sl))), (2, .int (v)), (3, .int (nI (n))), (4, .int (t)), (5, .int (nI (i)))] → W p l e (tb_rm 3) s m ([.ref (tb_ad g 157), .int (nI sl), .int v, .int (nI n), .int t] : List Value).toArray below meth c H locs 0 0 (MQ below (va_Qi (fun r9 u9 => r9 = sr_X6_begin z sl v n t rn ∧ u9 = sz_X6_begin z sl v n t rn) (tb_B g) (tb_A g)) ([.ref (tb_ad g 157), .int (nI sl), .int v, .int (nI n), .int t] : List Value).toArray s 0 0 (tb_A g)) (F0 m 87 ls []) := by
              intro k
              induction k with
              | zero =>
                intro i hik H locs ls hH hl
                obtain rfl : i = (n + 4 - 1) / 4 := by omega
                refine lv_iload X.1 X.2.1 dX6_begin_87 (lv_at hl 5 rfl) ?_
                refine lv_iload_n X.1 X.2.1 dX6_begin_89 rfl (lv_at hl 3 rfl) ?_
                refine tb_cSi X hH hl.1 (c_X6_pagesOf l g (tb_ep (tb_recM z) sl ((n + 4 - 1) / 4)) n (by omega)) ky_X6_pagesOf.1 ky_X6_pagesOf.2 wm_218 rfl rfl (Nat.le_of_ble_eq_true rfl) ⟨by decide, by decide⟩ ⟨by decide, by decide⟩ dX6_begin_90 (fun H locs hH => ?_)
                refine tb_nge (tgt := 109) X (by omega) (by omega) dX6_begin_93 (by decide) (fun _ => ?_) (fun c => ((by omega) : False).elim)
                refine lv_aload_n X.1 X.2.1 dX6_begin_109 rfl (lv_at hl 0 rfl) ?_
                refine lv_iload_n X.1 X.2.1 dX6_begin_110 rfl (lv_at hl 1 rfl) ?_
                refine lv_iconst (v := nI (0)) X.1 X.2.1 dX6_begin_111 (by decide +kernel) ?_
                refine lv_iconst (v := nI (1)) X.1 X.2.1 dX6_begin_112 (by decide +kernel) ?_
                refine tb_cVv X hH hl.1 (c_X6_setPart l g (tb_ep (tb_recM z) sl ((n + 4 - 1) / 4)) sl 0 (nI (1)) (by first | assumption | omega | decide)) ky_X6_setPart.1 ky_X6_setPart.2 wm_105 tb_oM rfl rfl (Nat.le_of_ble_eq_true rfl) ⟨by decide, by decide⟩ ⟨by decide, by decide⟩ dX6_begin_113 (fun H locs hH => ?_)
                refine lv_aload_n X.1 X.2.1 dX6_begin_116 rfl (lv_at hl 0 rfl) ?_
                refine lv_iload_n X.1 X.2.1 dX6_begin_117 rfl (lv_at hl 1 rfl) ?_
                refine lv_iconst (v := nI (1)) X.1 X.2.1 dX6_begin_118 (by decide +kernel) ?_
                refine lv_iload_n X.1 X.2.1 dX6_begin_119 rfl (lv_at hl 2 rfl) ?_
                refine tb_cVv X hH hl.1 (c_X6_setPart l g (tb_up (tb_ep (tb_recM z) sl ((n + 4 - 1) / 4)) 158 ((11 + (46 * sl)) + 0) (nI (1))) sl 1 v (by first | assumption | omega | decide)) ky_X6_setPart.1 ky_X6_setPart.2 wm_105 tb_oM rfl rfl (Nat.le_of_ble_eq_true rfl) ⟨by decide, by decide⟩ ⟨by decide, by decide⟩ dX6_begin_120 (fun H locs hH => ?_)
                refine lv_aload_n X.1 X.2.1 dX6_begin_123 rfl (lv_at hl 0 rfl) ?_
                refine lv_iload_n X.1 X.2.1 dX6_begin_124 rfl (lv_at hl 1 rfl) ?_
                refine lv_iconst (v := nI (2)) X.1 X.2.1 dX6_begin_125 (by decide +kernel) ?_
                refine lv_iload_n X.1 X.2.1 dX6_begin_126 rfl (lv_at hl 3 rfl) ?_
                refine tb_cVv X hH hl.1 (c_X6_setPart l g (tb_up (tb_up (tb_ep (tb_recM z) sl ((n + 4 - 1) / 4)) 158 ((11 + (46 * sl)) + 0) (nI (1))) 158 ((11 + (46 * sl)) + 1) v) sl 2 (nI (n)) (by first | assumption | omega | decide)) ky_X6_setPart.1 ky_X6_setPart.2 wm_105 tb_oM rfl rfl (Nat.le_of_ble_eq_true rfl) ⟨by decide, by decide⟩ ⟨by decide, by decide⟩ dX6_begin_127 (fun H locs hH => ?_)
                refine lv_aload_n X.1 X.2.1 dX6_begin_130 rfl (lv_at hl 0 rfl) ?_
                refine lv_iload_n X.1 X.2.1 dX6_begin_131 rfl (lv_at hl 1 rfl) ?_
                refine lv_iconst (v := nI (3)) X.1 X.2.1 dX6_begin_132 (by decide +kernel) ?_
                refine lv_iload X.1 X.2.1 dX6_begin_133 (lv_at hl 4 rfl) ?_
                refine tb_cVv X hH hl.1 (c_X6_setPart l g (tb_up (tb_up (tb_up (tb_ep (tb_recM z) sl ((n + 4 - 1) / 4)) 158 ((11 + (46 * sl)) + 0) (nI (1))) 158 ((11 + (46 * sl)) + 1) v) 158 ((11 + (46 * sl)) + 2) (nI (n))) sl 3 t (by first | assumption | omega | decide)) ky_X6_setPart.1 ky_X6_setPart.2 wm_105 tb_oM rfl rfl (Nat.le_of_ble_eq_true rfl) ⟨by decide, by decide⟩ ⟨by decide, by decide⟩ dX6_begin_135 (fun H locs hH => ?_)
                refine lv_aload_n X.1 X.2.1 dX6_begin_138 rfl (lv_at hl 0 rfl) ?_
                refine lv_iload_n X.1 X.2.1 dX6_begin_139 rfl (lv_at hl 1 rfl) ?_
                refine lv_iconst (v := nI (4)) X.1 X.2.1 dX6_begin_140 (by decide +kernel) ?_
                refine lv_iconst (v := nI (0)) X.1 X.2.1 dX6_begin_141 (by decide +kernel) ?_
                refine tb_cVv X hH hl.1 (c_X6_setPart l g (tb_up (tb_up (tb_up (tb_up (tb_ep (tb_recM z) sl ((n + 4 - 1) / 4)) 158 ((11 + (46 * sl)) + 0) (nI (1))) 158 ((11 + (46 * sl)) + 1) v) 158 ((11 + (46 * sl)) + 2) (nI (n))) 158 ((11 + (46 * sl)) + 3) t) sl 4 (nI (0)) (by first | assumption | omega | decide)) ky_X6_setPart.1 ky_X6_setPart.2 wm_105 tb_oM rfl rfl (Nat.le_of_ble_eq_true rfl) ⟨by decide, by decide⟩ ⟨by decide, by decide⟩ dX6_begin_142 (fun H locs hH => ?_)
                refine lv_aload_n X.1 X.2.1 dX6_begin_145 rfl (lv_at hl 0 rfl) ?_
                refine lv_iload_n X.1 X.2.1 dX6_begin_146 rfl (lv_at hl 1 rfl) ?_
                refine lv_iconst (v := nI (5)) X.1 X.2.1 dX6_begin_147 (by decide +kernel) ?_
                refine lv_iconst (v := nI (0)) X.1 X.2.1 dX6_begin_148 (by decide +kernel) ?_
                refine tb_cVv X hH hl.1 (c_X6_setPart l g (tb_up (tb_up (tb_up (tb_up (tb_up (tb_ep (tb_recM z) sl ((n + 4 - 1) / 4)) 158 ((11 + (46 * sl)) + 0) (nI (1))) 158 ((11 + (46 * sl)) + 1) v) 158 ((11 + (46 * sl)) + 2) (nI (n))) 158 ((11 + (46 * sl)) + 3) t) 158 ((11 + (46 * sl)) + 4) (nI (0))) sl 5 (nI (0)) (by first | assumption | omega | decide)) ky_X6_setPart.1 ky_X6_setPart.2 wm_105 tb_oM rfl rfl (Nat.le_of_ble_eq_true rfl) ⟨by decide, by decide⟩ ⟨by decide, by decide⟩ dX6_begin_149 (fun H locs hH => ?_)
                refine lv_aload_n X.1 X.2.1 dX6_begin_152 rfl (lv_at hl 0 rfl) ?_
                have hH : tb_H g s.heap (sz_X6_begin_m1 z sl v n t rn) H locs := hH
                refine lv_iload_n X.1 X.2.1 dX6_begin_153 rfl (lv_at hl 1 rfl) ?_
                refine lv_iload_n X.1 X.2.1 dX6_begin_154 rfl (lv_at hl 3 rfl) ?_
                refine tb_cSi X hH hl.1 (c_X6_pagesOf l g (sz_X6_begin_m1 z sl v n t rn) n (by omega)) ky_X6_pagesOf.1 ky_X6_pagesOf.2 wm_218 rfl rfl (Nat.le_of_ble_eq_true rfl) ⟨by decide, by decide⟩ ⟨by decide, by decide⟩ dX6_begin_155 (fun H locs hH => ?_)
                refine tb_cVi X hH hl.1 (c_X6_greatestWear l g (sz_X6_begin_m1 z sl v n t rn) sl (((n + 4 - 1) / 4)) hsl (by omega)) ky_X6_greatestWear.1 ky_X6_greatestWear.2 wm_237 tb_oM rfl rfl (Nat.le_of_ble_eq_true rfl) ⟨by decide, by decide⟩ ⟨by decide, by decide⟩ dX6_begin_158 (fun H locs hH => ?_)
                exact tb_ri X hr hlk hH ⟨(by rw [sr_X6_begin]; simp only [if_pos c_1, if_pos c_2, if_neg c_3, if_neg c_4, if_neg c_5]), (by rw [sz_X6_begin]; simp only [if_pos c_1, if_pos c_2, if_neg c_3, if_neg c_4, if_neg c_5])⟩ dX6_begin_161
              | succ k ih_87 =>
                intro i hik H locs ls hH hl
                refine lv_iload X.1 X.2.1 dX6_begin_87 (lv_at hl 5 rfl) ?_
                refine lv_iload_n X.1 X.2.1 dX6_begin_89 rfl (lv_at hl 3 rfl) ?_
                refine tb_cSi X hH hl.1 (c_X6_pagesOf l g (tb_ep (tb_recM z) sl i) n (by omega)) ky_X6_pagesOf.1 ky_X6_pagesOf.2 wm_218 rfl rfl (Nat.le_of_ble_eq_true rfl) ⟨by decide, by decide⟩ ⟨by decide, by decide⟩ dX6_begin_90 (fun H locs hH => ?_)
                refine tb_nge (tgt := 109) X (by omega) (by omega) dX6_begin_93 (by decide) (fun c => ((by omega) : False).elim) (fun _ => ?_)
                refine lv_aload_n X.1 X.2.1 dX6_begin_96 rfl (lv_at hl 0 rfl) ?_
                refine lv_iload_n X.1 X.2.1 dX6_begin_97 rfl (lv_at hl 1 rfl) ?_
                refine lv_iload X.1 X.2.1 dX6_begin_98 (lv_at hl 5 rfl) ?_
                refine tb_cVv X hH hl.1 (c_X6_emptyPage l g (tb_ep (tb_recM z) sl i) sl i hsl (by omega)) ky_X6_emptyPage.1 ky_X6_emptyPage.2 wm_233 tb_oM rfl rfl (Nat.le_of_ble_eq_true rfl) ⟨by decide, by decide⟩ ⟨by decide, by decide⟩ dX6_begin_100 (fun H locs hH => ?_)
                refine lv_iinc (v := nI (i + 1)) (lv' := [(5, .int (nI (i + 1))), (0, .ref (tb_ad g (157))), (1, .int (nI (sl))), (2, .int (v)), (3, .int (nI (n))), (4, .int (t))]) X.1 X.2.1 dX6_begin_103 hl (k := 5) rfl (nI_add _ _) (by decide) rfl (fun ls hl => ?_)
                refine lv_goto (tgt := 87) X.1 X.2.1 dX6_begin_106 (by decide) ?_
                exact ih_87 (i + 1) (by omega) _ _ _ hH (lv_sub hl [1, 2, 3, 4, 5, 0] rfl)
            exact L_87 ((n + 4 - 1) / 4) 0 (by omega) _ _ _ hH (lv_sub hl [1, 2, 3, 4, 5, 0] rfl)
          · refine lv_bipush (v := (-5)) X.1 X.2.1 dX6_begin_77 (by decide +kernel) ?_
            exact tb_ri X hr hlk hH ⟨(by rw [sr_X6_begin]; simp only [if_pos c_1, if_pos c_2, if_neg c_3, if_neg c_4, if_pos c_5]), (by rw [sz_X6_begin]; simp only [if_pos c_1, if_pos c_2, if_neg c_3, if_neg c_4, if_pos c_5])⟩ dX6_begin_79
    · refine lv_bipush (v := (-2)) X.1 X.2.1 dX6_begin_41 (by decide +kernel) ?_
      exact tb_ri X hr hlk hH ⟨(by rw [sr_X6_begin]; simp only [if_pos c_1, if_neg c_2]), (by rw [sz_X6_begin]; simp only [if_pos c_1, if_neg c_2])⟩ dX6_begin_43
set_option maxHeartbeats 1000000 in
set_option maxRecDepth 100000 in
theorem c_X6_lacks (l : Launch) (g : tb_G) (z : tb_M) (sl : Nat) (hsl : sl < 2) (hF : tb_okFM z sl) : tb_Mi (.int) l yX6_lacks cX6_lacks 2 1 g z [.ref (tb_ad g 157), .int (nI sl)] (nI ((tb_lm z sl) - (tb_fm z sl))) (z) := by
  refine tb_goi (own := RX6) (by decide +kernel) rfl (Nat.le_of_ble_eq_true rfl) ?_
  intro p e s m below meth c ls X hr hlk hH hl
  have hl : lv_has ls 2 [(0, .ref (tb_ad g (157))), (1, .int (nI (sl)))] := hl
  refine lv_aload_n X.1 X.2.1 dX6_lacks_0 rfl (lv_at hl 0 rfl) ?_
  refine lv_iload_n X.1 X.2.1 dX6_lacks_1 rfl (lv_at hl 1 rfl) ?_
  refine lv_iconst (v := nI (2)) X.1 X.2.1 dX6_lacks_2 (by decide +kernel) ?_
  refine tb_cVi X hH hl.1 (c_X6_part l g z sl 2 (by first | assumption | omega | decide)) ky_X6_part.1 ky_X6_part.2 wm_229 tb_oM rfl rfl (Nat.le_of_ble_eq_true rfl) ⟨by decide, by decide⟩ ⟨by decide, by decide⟩ dX6_lacks_3 (fun H locs hH => ?_)
  refine tb_top (x2 := nI (tb_lm z sl)) (hF.1.1) ?_
  refine lv_aload_n X.1 X.2.1 dX6_lacks_6 rfl (lv_at hl 0 rfl) ?_
  refine lv_iload_n X.1 X.2.1 dX6_lacks_7 rfl (lv_at hl 1 rfl) ?_
  refine lv_iconst (v := nI (5)) X.1 X.2.1 dX6_lacks_8 (by decide +kernel) ?_
  refine tb_cVi X hH hl.1 (c_X6_part l g z sl 5 (by first | assumption | omega | decide)) ky_X6_part.1 ky_X6_part.2 wm_229 tb_oM rfl rfl (Nat.le_of_ble_eq_true rfl) ⟨by decide, by decide⟩ ⟨by decide, by decide⟩ dX6_lacks_9 (fun H locs hH => ?_)
  refine tb_top (x2 := nI (tb_fm z sl)) (hF.2.1) ?_
  refine tb_isubN X (hF.2.2) dX6_lacks_12 ?_
  exact tb_ri X hr hlk hH ⟨rfl, rfl⟩ dX6_lacks_13
def sz_X6_fills (z : tb_M) (sl : Nat) (w : Int32) (f : Nat) : tb_M := tb_up (tb_up z 158 ((11 + (46 * sl)) + (14 + f)) w) 158 ((11 + (46 * sl)) + 5) (nI (f + 1))
set_option maxHeartbeats 1000000 in
set_option maxRecDepth 100000 in
theorem c_X6_fills (l : Launch) (g : tb_G) (z : tb_M) (sl : Nat) (w : Int32) (f : Nat) (hsl : sl < 2) (hf : z 158 ((11 + (46 * sl)) + 5) = nI f) (hf2 : f < 32) : tb_Mv l yX6_fills cX6_fills 3 1 g z [.ref (tb_ad g 157), .int (nI sl), .int w] (sz_X6_fills z sl w f) := by
  refine tb_gov (own := RX6) (by decide +kernel) rfl (Nat.le_of_ble_eq_true rfl) ?_
  intro p e s m below meth c ls X hr hlk hH hl
  have hl : lv_has ls 3 [(0, .ref (tb_ad g (157))), (1, .int (nI (sl))), (2, .int (w))] := hl
  refine lv_aload_n X.1 X.2.1 dX6_fills_0 rfl (lv_at hl 0 rfl) ?_
  refine lv_iload_n X.1 X.2.1 dX6_fills_1 rfl (lv_at hl 1 rfl) ?_
  refine lv_bipush (v := nI (14)) X.1 X.2.1 dX6_fills_2 (by decide +kernel) ?_
  refine lv_aload_n X.1 X.2.1 dX6_fills_4 rfl (lv_at hl 0 rfl) ?_
  refine lv_iload_n X.1 X.2.1 dX6_fills_5 rfl (lv_at hl 1 rfl) ?_
  refine lv_iconst (v := nI (5)) X.1 X.2.1 dX6_fills_6 (by decide +kernel) ?_
  refine tb_cVi X hH hl.1 (c_X6_part l g z sl 5 (by first | assumption | omega | decide)) ky_X6_part.1 ky_X6_part.2 wm_229 tb_oM rfl rfl (Nat.le_of_ble_eq_true rfl) ⟨by decide, by decide⟩ ⟨by decide, by decide⟩ dX6_fills_7 (fun H locs hH => ?_)
  refine tb_top (x2 := nI (f)) (hf) ?_
  refine tb_iaddN X dX6_fills_10 ?_
  refine lv_iload_n X.1 X.2.1 dX6_fills_11 rfl (lv_at hl 2 rfl) ?_
  refine tb_cVv X hH hl.1 (c_X6_setPart l g z sl (14 + f) w (by first | assumption | omega | decide)) ky_X6_setPart.1 ky_X6_setPart.2 wm_105 tb_oM rfl rfl (Nat.le_of_ble_eq_true rfl) ⟨by decide, by decide⟩ ⟨by decide, by decide⟩ dX6_fills_12 (fun H locs hH => ?_)
  refine lv_aload_n X.1 X.2.1 dX6_fills_15 rfl (lv_at hl 0 rfl) ?_
  refine lv_iload_n X.1 X.2.1 dX6_fills_16 rfl (lv_at hl 1 rfl) ?_
  refine lv_iconst (v := nI (5)) X.1 X.2.1 dX6_fills_17 (by decide +kernel) ?_
  refine lv_aload_n X.1 X.2.1 dX6_fills_18 rfl (lv_at hl 0 rfl) ?_
  refine lv_iload_n X.1 X.2.1 dX6_fills_19 rfl (lv_at hl 1 rfl) ?_
  refine lv_iconst (v := nI (5)) X.1 X.2.1 dX6_fills_20 (by decide +kernel) ?_
  refine tb_cVi X hH hl.1 (c_X6_part l g (tb_up z 158 ((11 + (46 * sl)) + (14 + f)) w) sl 5 (by first | assumption | omega | decide)) ky_X6_part.1 ky_X6_part.2 wm_229 tb_oM rfl rfl (Nat.le_of_ble_eq_true rfl) ⟨by decide, by decide⟩ ⟨by decide, by decide⟩ dX6_fills_21 (fun H locs hH => ?_)
  refine tb_top (x2 := nI (f)) (by rw [tb_up_j _ _ _ (by omega)]; exact hf) ?_
  refine lv_iconst (v := nI (1)) X.1 X.2.1 dX6_fills_24 (by decide +kernel) ?_
  refine tb_iaddN X dX6_fills_25 ?_
  refine tb_cVv X hH hl.1 (c_X6_setPart l g (tb_up z 158 ((11 + (46 * sl)) + (14 + f)) w) sl 5 (nI (f + 1)) (by first | assumption | omega | decide)) ky_X6_setPart.1 ky_X6_setPart.2 wm_105 tb_oM rfl rfl (Nat.le_of_ble_eq_true rfl) ⟨by decide, by decide⟩ ⟨by decide, by decide⟩ dX6_fills_26 (fun H locs hH => ?_)
  exact tb_rv X hr hlk hH (by rw [sz_X6_fills]) dX6_fills_29
def sz_X6_fill_m1 (z : tb_M) (sl : Nat) (w : Int32) : tb_M := sz_X6_fills (tb_recM z) sl w (tb_fm z sl)
def sz_X6_fill (z : tb_M) (sl : Nat) (w : Int32) : tb_M := if (¬ (w < (nI (0))) ∧ (¬ ((nI (255)) < w))) then (if (((z 158 ((11 + (46 * sl)) + 0))) = (nI (1))) then (if (((tb_lm z sl) - (tb_fm z sl))) = 0 then z else (sz_X6_fill_m1 z sl w)) else z) else z
def sr_X6_fill (z : tb_M) (sl : Nat) (w : Int32) : Int32 := if (¬ (w < (nI (0))) ∧ (¬ ((nI (255)) < w))) then (if (((z 158 ((11 + (46 * sl)) + 0))) = (nI (1))) then (if (((tb_lm z sl) - (tb_fm z sl))) = 0 then ((-5)) else (((sz_X6_fill_m1 z sl w) 158 ((11 + (46 * sl)) + 5)))) else ((-5))) else ((-2))
set_option maxHeartbeats 1000000 in
set_option maxRecDepth 100000 in
theorem c_X6_fill (l : Launch) (g : tb_G) (z : tb_M) (sl : Nat) (w : Int32) (hsl : sl < 2) (hF : tb_okFM z sl) (hrc : tb_okRM z) : tb_Mi (.int) l yX6_fill cX6_fill 3 2 g z [.ref (tb_ad g 157), .int (nI sl), .int w] (sr_X6_fill z sl w) (sz_X6_fill z sl w) := by
  refine tb_goi (own := RX6) (by decide +kernel) rfl (Nat.le_of_ble_eq_true rfl) ?_
  intro p e s m below meth c ls X hr hlk hH hl
  have hl : lv_has ls 3 [(0, .ref (tb_ad g (157))), (1, .int (nI (sl))), (2, .int (w))] := hl
  have hF2 := hF.1.2
  have hF3 := hF.2.2
  refine lv_iload_n X.1 X.2.1 dX6_fill_0 rfl (lv_at hl 1 rfl) ?_
  refine tb_cSi X hH hl.1 (c_X6_isSlot l g z (nI (sl))) ky_X6_isSlot.1 ky_X6_isSlot.2 wm_215 rfl rfl (Nat.le_of_ble_eq_true rfl) ⟨by decide, by decide⟩ ⟨by decide, by decide⟩ dX6_fill_1 (fun H locs hH => ?_)
  refine tb_jbne (tgt := 9) X dX6_fill_4 (by decide) (fun _ => ?_) (fun c => (c ⟨nI_nlt (by omega) (by omega), nI_nlt (by omega) (by omega)⟩ : False).elim)
  refine lv_iload_n X.1 X.2.1 dX6_fill_9 rfl (lv_at hl 2 rfl) ?_
  refine lv_iconst (v := nI (0)) X.1 X.2.1 dX6_fill_10 (by decide +kernel) ?_
  refine lv_sipush (v := nI (255)) X.1 X.2.1 dX6_fill_11 (by decide +kernel) ?_
  refine tb_cSi X hH hl.1 (c_X6_within l g z w (nI (0)) (nI (255))) ky_X6_within.1 ky_X6_within.2 wm_162 rfl rfl (Nat.le_of_ble_eq_true rfl) ⟨by decide, by decide⟩ ⟨by decide, by decide⟩ dX6_fill_14 (fun H locs hH => ?_)
  refine tb_jbne (tgt := 23) X dX6_fill_17 (by decide) (fun c_1 => ?_) (fun c_1 => ?_)
  · refine lv_aload_n X.1 X.2.1 dX6_fill_23 rfl (lv_at hl 0 rfl) ?_
    refine lv_iload_n X.1 X.2.1 dX6_fill_24 rfl (lv_at hl 1 rfl) ?_
    refine lv_iconst (v := nI (1)) X.1 X.2.1 dX6_fill_25 (by decide +kernel) ?_
    refine tb_cVi X hH hl.1 (c_X6_isHow l g z sl (nI (1)) (by first | assumption | omega | decide)) ky_X6_isHow.1 ky_X6_isHow.2 wm_256 tb_oM rfl rfl (Nat.le_of_ble_eq_true rfl) ⟨by decide, by decide⟩ ⟨by decide, by decide⟩ dX6_fill_26 (fun H locs hH => ?_)
    refine tb_jbeq (tgt := 40) X dX6_fill_29 (by decide) (fun c_2 => ?_) (fun c_2 => ?_)
    · refine lv_bipush (v := (-5)) X.1 X.2.1 dX6_fill_40 (by decide +kernel) ?_
      exact tb_ri X hr hlk hH ⟨(by rw [sr_X6_fill]; simp only [if_pos c_1, if_neg c_2]), (by rw [sz_X6_fill]; simp only [if_pos c_1, if_neg c_2])⟩ dX6_fill_42
    · refine lv_aload_n X.1 X.2.1 dX6_fill_32 rfl (lv_at hl 0 rfl) ?_
      refine lv_iload_n X.1 X.2.1 dX6_fill_33 rfl (lv_at hl 1 rfl) ?_
      refine tb_cVi X hH hl.1 (c_X6_lacks l g z sl hsl hF) ky_X6_lacks.1 ky_X6_lacks.2 wm_260 tb_oM rfl rfl (Nat.le_of_ble_eq_true rfl) ⟨by decide, by decide⟩ ⟨by decide, by decide⟩ dX6_fill_34 (fun H locs hH => ?_)
      refine tb_zne (tgt := 43) X (by omega) dX6_fill_37 (by decide) (fun c_3 => ?_) (fun c_3 => ?_)
      · refine lv_aload_n X.1 X.2.1 dX6_fill_43 rfl (lv_at hl 0 rfl) ?_
        refine tb_cVv X hH hl.1 (c_X6_record l g z hrc) ky_X6_record.1 ky_X6_record.2 wm_165 tb_oM rfl rfl (Nat.le_of_ble_eq_true rfl) ⟨by decide, by decide⟩ ⟨by decide, by decide⟩ dX6_fill_44 (fun H locs hH => ?_)
        refine lv_aload_n X.1 X.2.1 dX6_fill_47 rfl (lv_at hl 0 rfl) ?_
        refine lv_iload_n X.1 X.2.1 dX6_fill_48 rfl (lv_at hl 1 rfl) ?_
        refine lv_iload_n X.1 X.2.1 dX6_fill_49 rfl (lv_at hl 2 rfl) ?_
        refine tb_cVv X hH hl.1 (c_X6_fills l g (tb_recM z) sl w (tb_fm z sl) hsl (by rw [tb_recM_k _ (by decide)]; exact hF.2.1) (by omega)) ky_X6_fills.1 ky_X6_fills.2 wm_264 tb_oM rfl rfl (Nat.le_of_ble_eq_true rfl) ⟨by decide, by decide⟩ ⟨by decide, by decide⟩ dX6_fill_50 (fun H locs hH => ?_)
        have hH : tb_H g s.heap (sz_X6_fill_m1 z sl w) H locs := hH
        refine lv_aload_n X.1 X.2.1 dX6_fill_53 rfl (lv_at hl 0 rfl) ?_
        refine lv_iload_n X.1 X.2.1 dX6_fill_54 rfl (lv_at hl 1 rfl) ?_
        refine lv_iconst (v := nI (5)) X.1 X.2.1 dX6_fill_55 (by decide +kernel) ?_
        refine tb_cVi X hH hl.1 (c_X6_part l g (sz_X6_fill_m1 z sl w) sl 5 (by first | assumption | omega | decide)) ky_X6_part.1 ky_X6_part.2 wm_229 tb_oM rfl rfl (Nat.le_of_ble_eq_true rfl) ⟨by decide, by decide⟩ ⟨by decide, by decide⟩ dX6_fill_56 (fun H locs hH => ?_)
        exact tb_ri X hr hlk hH ⟨(by rw [sr_X6_fill]; simp only [if_pos c_1, if_pos c_2, if_neg c_3]), (by rw [sz_X6_fill]; simp only [if_pos c_1, if_pos c_2, if_neg c_3])⟩ dX6_fill_59
      · refine lv_bipush (v := (-5)) X.1 X.2.1 dX6_fill_40 (by decide +kernel) ?_
        exact tb_ri X hr hlk hH ⟨(by rw [sr_X6_fill]; simp only [if_pos c_1, if_pos c_2, if_pos c_3]), (by rw [sz_X6_fill]; simp only [if_pos c_1, if_pos c_2, if_pos c_3])⟩ dX6_fill_42
  · refine lv_bipush (v := (-2)) X.1 X.2.1 dX6_fill_20 (by decide +kernel) ?_
    exact tb_ri X hr hlk hH ⟨(by rw [sr_X6_fill]; simp only [if_neg c_1]), (by rw [sz_X6_fill]; simp only [if_neg c_1])⟩ dX6_fill_22
def sz_X6_finish_m1 (z : tb_M) (sl : Nat) : tb_M := tb_up (tb_recM z) 158 ((11 + (46 * sl)) + 0) (nI (if (sp_X6_isSound (tb_recM z) sl) then 2 else 4))
def sz_X6_finish_m2 (z : tb_M) (sl : Nat) : tb_M := tb_up (sz_X6_finish_m1 z sl) 158 ((11 + (46 * sl)) + 4) (if (sp_X6_isSound (tb_recM z) sl) then ((sz_X6_finish_m1 z sl) 158 0) else (nI (0)))
def sz_X6_finish (z : tb_M) (sl : Nat) : tb_M := if (((z 158 ((11 + (46 * sl)) + 0))) = (nI (1))) then (if (((tb_lm z sl) - (tb_fm z sl))) ≤ 0 then (sz_X6_finish_m2 z sl) else z) else z
def sr_X6_finish (z : tb_M) (sl : Nat) : Int32 := if (((z 158 ((11 + (46 * sl)) + 0))) = (nI (1))) then (if (((tb_lm z sl) - (tb_fm z sl))) ≤ 0 then (tb_b ((sp_X6_isSound (tb_recM z) sl))) else ((-5))) else ((-5))
set_option maxHeartbeats 1000000 in
set_option maxRecDepth 100000 in
theorem c_X6_finish (l : Launch) (g : tb_G) (z : tb_M) (sl : Nat) (hsl : sl < 2) (hF : tb_okFM z sl) (hrc : tb_okRM z) : tb_Mi (.int) l yX6_finish cX6_finish 3 4 g z [.ref (tb_ad g 157), .int (nI sl)] (sr_X6_finish z sl) (sz_X6_finish z sl) := by
  refine tb_goi (own := RX6) (by decide +kernel) rfl (Nat.le_of_ble_eq_true rfl) ?_
  intro p e s m below meth c ls X hr hlk hH hl
  have hl : lv_has ls 3 [(0, .ref (tb_ad g (157))), (1, .int (nI (sl)))] := hl
  have hF2 := hF.1.2
  have hF3 := hF.2.2
  refine lv_iload_n X.1 X.2.1 dX6_finish_0 rfl (lv_at hl 1 rfl) ?_
  refine tb_cSi X hH hl.1 (c_X6_isSlot l g z (nI (sl))) ky_X6_isSlot.1 ky_X6_isSlot.2 wm_215 rfl rfl (Nat.le_of_ble_eq_true rfl) ⟨by decide, by decide⟩ ⟨by decide, by decide⟩ dX6_finish_1 (fun H locs hH => ?_)
  refine tb_jbne (tgt := 9) X dX6_finish_4 (by decide) (fun _ => ?_) (fun c => (c ⟨nI_nlt (by omega) (by omega), nI_nlt (by omega) (by omega)⟩ : False).elim)
  refine lv_aload_n X.1 X.2.1 dX6_finish_9 rfl (lv_at hl 0 rfl) ?_
  refine lv_iload_n X.1 X.2.1 dX6_finish_10 rfl (lv_at hl 1 rfl) ?_
  refine lv_iconst (v := nI (1)) X.1 X.2.1 dX6_finish_11 (by decide +kernel) ?_
  refine tb_cVi X hH hl.1 (c_X6_isHow l g z sl (nI (1)) (by first | assumption | omega | decide)) ky_X6_isHow.1 ky_X6_isHow.2 wm_256 tb_oM rfl rfl (Nat.le_of_ble_eq_true rfl) ⟨by decide, by decide⟩ ⟨by decide, by decide⟩ dX6_finish_12 (fun H locs hH => ?_)
  refine tb_jbeq (tgt := 26) X dX6_finish_15 (by decide) (fun c_1 => ?_) (fun c_1 => ?_)
  · refine lv_bipush (v := (-5)) X.1 X.2.1 dX6_finish_26 (by decide +kernel) ?_
    exact tb_ri X hr hlk hH ⟨(by rw [sr_X6_finish]; simp only [if_neg c_1]), (by rw [sz_X6_finish]; simp only [if_neg c_1])⟩ dX6_finish_28
  · refine lv_aload_n X.1 X.2.1 dX6_finish_18 rfl (lv_at hl 0 rfl) ?_
    refine lv_iload_n X.1 X.2.1 dX6_finish_19 rfl (lv_at hl 1 rfl) ?_
    refine tb_cVi X hH hl.1 (c_X6_lacks l g z sl hsl hF) ky_X6_lacks.1 ky_X6_lacks.2 wm_260 tb_oM rfl rfl (Nat.le_of_ble_eq_true rfl) ⟨by decide, by decide⟩ ⟨by decide, by decide⟩ dX6_finish_20 (fun H locs hH => ?_)
    refine tb_zle (tgt := 29) X (by omega) dX6_finish_23 (by decide) (fun c_2 => ?_) (fun c_2 => ?_)
    · refine lv_aload_n X.1 X.2.1 dX6_finish_29 rfl (lv_at hl 0 rfl) ?_
      refine tb_cVv X hH hl.1 (c_X6_record l g z hrc) ky_X6_record.1 ky_X6_record.2 wm_165 tb_oM rfl rfl (Nat.le_of_ble_eq_true rfl) ⟨by decide, by decide⟩ ⟨by decide, by decide⟩ dX6_finish_30 (fun H locs hH => ?_)
      refine lv_aload_n X.1 X.2.1 dX6_finish_33 rfl (lv_at hl 0 rfl) ?_
      refine lv_iload_n X.1 X.2.1 dX6_finish_34 rfl (lv_at hl 1 rfl) ?_
      refine tb_cVi X hH hl.1 (c_X6_isSound l g (tb_recM z) sl hsl (tb_recM_okM hF.1)) ky_X6_isSound.1 ky_X6_isSound.2 wm_322 tb_oM rfl rfl (Nat.le_of_ble_eq_true rfl) ⟨by decide, by decide⟩ ⟨by decide, by decide⟩ dX6_finish_35 (fun H locs hH => ?_)
      refine lv_istore_n (lv' := [(2, .int (tb_b ((sp_X6_isSound (tb_recM z) sl)))), (0, .ref (tb_ad g (157))), (1, .int (nI (sl)))]) X.1 X.2.1 dX6_finish_38 rfl hl (by decide) rfl (fun ls hl => ?_)
      refine lv_aload_n X.1 X.2.1 dX6_finish_39 rfl (lv_at hl 1 rfl) ?_
      refine lv_iload_n X.1 X.2.1 dX6_finish_40 rfl (lv_at hl 2 rfl) ?_
      refine lv_iconst (v := nI (0)) X.1 X.2.1 dX6_finish_41 (by decide +kernel) ?_
      refine lv_iload_n X.1 X.2.1 dX6_finish_42 rfl (lv_at hl 0 rfl) ?_
      have J_1 : ∀ (H : Heap) (locs : List Loc) (ls : Array Slot) (vq1 : Int32), vq1 = (nI (if (sp_X6_isSound (tb_recM z) sl) then 2 else 4)) → tb_H g s.heap (tb_recM z) H locs → lv_has ls 3 [(2, .int (tb_b ((sp_X6_isSound (tb_recM z) sl)))), (0, .ref (tb_ad g (157))), (1, .int (nI (sl)))] → W p l e (tb_rm 4) s m ([.ref (tb_ad g 157), .int (nI sl)] : List Value).toArray below meth c H locs 0 0 (MQ below (va_Qi (fun r9 u9 => r9 = sr_X6_finish z sl ∧ u9 = sz_X6_finish z sl) (tb_B g) (tb_A g)) ([.ref (tb_ad g 157), .int (nI sl)] : List Value).toArray s 0 0 (tb_A g)) (F0 m 51 ls [.int vq1, .int (nI (0)), .int (nI (sl)), .ref (tb_ad g (157))]) := by
        intro H locs ls vq1 evq1 hH hl
        subst evq1
        refine tb_cVv X hH hl.1 (c_X6_setPart l g (tb_recM z) sl 0 (nI (if (sp_X6_isSound (tb_recM z) sl) then 2 else 4)) (by first | assumption | omega | decide)) ky_X6_setPart.1 ky_X6_setPart.2 wm_105 tb_oM rfl rfl (Nat.le_of_ble_eq_true rfl) ⟨by decide, by decide⟩ ⟨by decide, by decide⟩ dX6_finish_51 (fun H locs hH => ?_)
        have hH : tb_H g s.heap (sz_X6_finish_m1 z sl) H locs := hH
        refine lv_aload_n X.1 X.2.1 dX6_finish_54 rfl (lv_at hl 1 rfl) ?_
        refine lv_iload_n X.1 X.2.1 dX6_finish_55 rfl (lv_at hl 2 rfl) ?_
        refine lv_iconst (v := nI (4)) X.1 X.2.1 dX6_finish_56 (by decide +kernel) ?_
        refine lv_iload_n X.1 X.2.1 dX6_finish_57 rfl (lv_at hl 0 rfl) ?_
        have J_2 : ∀ (H : Heap) (locs : List Loc) (ls : Array Slot) (vq1 : Int32), vq1 = (if (sp_X6_isSound (tb_recM z) sl) then ((sz_X6_finish_m1 z sl) 158 0) else (nI (0))) → tb_H g s.heap (sz_X6_finish_m1 z sl) H locs → lv_has ls 3 [(2, .int (tb_b ((sp_X6_isSound (tb_recM z) sl)))), (0, .ref (tb_ad g (157))), (1, .int (nI (sl)))] → W p l e (tb_rm 4) s m ([.ref (tb_ad g 157), .int (nI sl)] : List Value).toArray below meth c H locs 0 0 (MQ below (va_Qi (fun r9 u9 => r9 = sr_X6_finish z sl ∧ u9 = sz_X6_finish z sl) (tb_B g) (tb_A g)) ([.ref (tb_ad g 157), .int (nI sl)] : List Value).toArray s 0 0 (tb_A g)) (F0 m 71 ls [.int vq1, .int (nI (4)), .int (nI (sl)), .ref (tb_ad g (157))]) := by
          intro H locs ls vq1 evq1 hH hl
          subst evq1
          refine tb_cVv X hH hl.1 (c_X6_setPart l g (sz_X6_finish_m1 z sl) sl 4 (if (sp_X6_isSound (tb_recM z) sl) then ((sz_X6_finish_m1 z sl) 158 0) else (nI (0))) (by first | assumption | omega | decide)) ky_X6_setPart.1 ky_X6_setPart.2 wm_105 tb_oM rfl rfl (Nat.le_of_ble_eq_true rfl) ⟨by decide, by decide⟩ ⟨by decide, by decide⟩ dX6_finish_71 (fun H locs hH => ?_)
          have hH : tb_H g s.heap (sz_X6_finish_m2 z sl) H locs := hH
          refine lv_iload_n X.1 X.2.1 dX6_finish_74 rfl (lv_at hl 0 rfl) ?_
          have J_3 : ∀ (H : Heap) (locs : List Loc) (ls : Array Slot) (vq1 : Int32), vq1 = (tb_b ((sp_X6_isSound (tb_recM z) sl))) → tb_H g s.heap (sz_X6_finish_m2 z sl) H locs → lv_has ls 3 [(2, .int (tb_b ((sp_X6_isSound (tb_recM z) sl)))), (0, .ref (tb_ad g (157))), (1, .int (nI (sl)))] → W p l e (tb_rm 4) s m ([.ref (tb_ad g 157), .int (nI sl)] : List Value).toArray below meth c H locs 0 0 (MQ below (va_Qi (fun r9 u9 => r9 = sr_X6_finish z sl ∧ u9 = sz_X6_finish z sl) (tb_B g) (tb_A g)) ([.ref (tb_ad g 157), .int (nI sl)] : List Value).toArray s 0 0 (tb_A g)) (F0 m 83 ls [.int vq1]) := by
            intro H locs ls vq1 evq1 hH hl
            subst evq1
            exact tb_ri X hr hlk hH ⟨(by rw [sr_X6_finish]; simp only [if_pos c_1, if_pos c_2]), (by rw [sz_X6_finish]; simp only [if_pos c_1, if_pos c_2])⟩ dX6_finish_83
          refine tb_jbeq (tgt := 82) X dX6_finish_75 (by decide) (fun c_5 => ?_) (fun c_5 => ?_)
          · refine lv_iconst (v := nI (0)) X.1 X.2.1 dX6_finish_82 (by decide +kernel) ?_
            exact J_3 _ _ _ _ (tb_b_f c_5).symm hH (lv_sub hl [0, 1, 2] rfl)
          · refine lv_iconst (v := nI (1)) X.1 X.2.1 dX6_finish_78 (by decide +kernel) ?_
            refine lv_goto (tgt := 83) X.1 X.2.1 dX6_finish_79 (by decide) ?_
            exact J_3 _ _ _ _ (tb_b_t c_5).symm hH (lv_sub hl [0, 1, 2] rfl)
        refine tb_jbeq (tgt := 70) X dX6_finish_58 (by decide) (fun c_4 => ?_) (fun c_4 => ?_)
        · refine lv_iconst (v := nI (0)) X.1 X.2.1 dX6_finish_70 (by decide +kernel) ?_
          exact J_2 _ _ _ _ (by simp only [if_neg c_4]) hH (lv_sub hl [0, 1, 2] rfl)
        · refine lv_aload_n X.1 X.2.1 dX6_finish_61 rfl (lv_at hl 1 rfl) ?_
          refine tb_get X hH tb_Mc.1 (tb_Mc.2 _ _) rfl inlX6 0 (by decide) wm_99 (v := .ref (tb_ad g (158))) rfl dX6_finish_62 ?_
          refine lv_iconst (v := nI (0)) X.1 X.2.1 dX6_finish_65 (by decide +kernel) ?_
          refine tb_ald X hH tb_i158 (0) rfl (by decide) (by first | decide | omega) dX6_finish_66 ?_
          refine lv_goto (tgt := 71) X.1 X.2.1 dX6_finish_67 (by decide) ?_
          exact J_2 _ _ _ _ (by simp only [if_pos c_4]) hH (lv_sub hl [0, 1, 2] rfl)
      refine tb_jbeq (tgt := 50) X dX6_finish_43 (by decide) (fun c_3 => ?_) (fun c_3 => ?_)
      · refine lv_iconst (v := nI (4)) X.1 X.2.1 dX6_finish_50 (by decide +kernel) ?_
        exact J_1 _ _ _ _ (by simp only [if_neg c_3]) hH (lv_sub hl [0, 1, 2] rfl)
      · refine lv_iconst (v := nI (2)) X.1 X.2.1 dX6_finish_46 (by decide +kernel) ?_
        refine lv_goto (tgt := 51) X.1 X.2.1 dX6_finish_47 (by decide) ?_
        exact J_1 _ _ _ _ (by simp only [if_pos c_3]) hH (lv_sub hl [0, 1, 2] rfl)
    · refine lv_bipush (v := (-5)) X.1 X.2.1 dX6_finish_26 (by decide +kernel) ?_
      exact tb_ri X hr hlk hH ⟨(by rw [sr_X6_finish]; simp only [if_pos c_1, if_neg c_2]), (by rw [sz_X6_finish]; simp only [if_pos c_1, if_neg c_2])⟩ dX6_finish_28
set_option maxHeartbeats 1000000 in
set_option maxRecDepth 100000 in
theorem c_X6_damage_w (l : Launch) (g : tb_G) (z : tb_M) (sl : Nat) (w : Int32) (y : Int32) (hsl : sl < 2) (hw : ¬ (¬ (w < nI 0) ∧ (¬ (nI 31 < w)))) : tb_Mi (.int) l yX6_damage cX6_damage 4 2 g z [.ref (tb_ad g 157), .int (nI sl), .int w, .int y] ((-1)) (z) := by
  refine tb_goi (own := RX6) (by decide +kernel) rfl (Nat.le_of_ble_eq_true rfl) ?_
  intro p e s m below meth c ls X hr hlk hH hl
  have hl : lv_has ls 4 [(0, .ref (tb_ad g (157))), (1, .int (nI (sl))), (2, .int (w)), (3, .int (y))] := hl
  refine lv_iload_n X.1 X.2.1 dX6_damage_0 rfl (lv_at hl 1 rfl) ?_
  refine tb_cSi X hH hl.1 (c_X6_isSlot l g z (nI (sl))) ky_X6_isSlot.1 ky_X6_isSlot.2 wm_215 rfl rfl (Nat.le_of_ble_eq_true rfl) ⟨by decide, by decide⟩ ⟨by decide, by decide⟩ dX6_damage_1 (fun H locs hH => ?_)
  refine tb_jbeq (tgt := 17) X dX6_damage_4 (by decide) (fun c => (c ⟨nI_nlt (by omega) (by omega), nI_nlt (by omega) (by omega)⟩ : False).elim) (fun _ => ?_)
  refine lv_iload_n X.1 X.2.1 dX6_damage_7 rfl (lv_at hl 2 rfl) ?_
  refine lv_iconst (v := nI (0)) X.1 X.2.1 dX6_damage_8 (by decide +kernel) ?_
  refine lv_bipush (v := nI (31)) X.1 X.2.1 dX6_damage_9 (by decide +kernel) ?_
  refine tb_cSi X hH hl.1 (c_X6_within l g z w (nI (0)) (nI (31))) ky_X6_within.1 ky_X6_within.2 wm_162 rfl rfl (Nat.le_of_ble_eq_true rfl) ⟨by decide, by decide⟩ ⟨by decide, by decide⟩ dX6_damage_11 (fun H locs hH => ?_)
  refine tb_jbne (tgt := 19) X dX6_damage_14 (by decide) (fun c => (hw c : False).elim) (fun _ => ?_)
  refine lv_iconst (v := (-1)) X.1 X.2.1 dX6_damage_17 (by decide +kernel) ?_
  exact tb_ri X hr hlk hH ⟨rfl, rfl⟩ dX6_damage_18
def sz_X6_damage_m1 (z : tb_M) (sl : Nat) (w : Nat) (y : Int32) : tb_M := tb_up (tb_recM z) 158 ((11 + (46 * sl)) + (14 + w)) ((((tb_recM z) 158 ((11 + (46 * sl)) + (14 + w)))) ^^^ y)
def sz_X6_damage (z : tb_M) (sl : Nat) (w : Nat) (y : Int32) : tb_M := if (¬ (y < (nI (1))) ∧ (¬ ((nI (255)) < y))) then (sz_X6_damage_m1 z sl w y) else z
def sr_X6_damage (z : tb_M) (sl : Nat) (w : Nat) (y : Int32) : Int32 := if (¬ (y < (nI (1))) ∧ (¬ ((nI (255)) < y))) then (((sz_X6_damage_m1 z sl w y) 158 ((11 + (46 * sl)) + (14 + w)))) else ((-2))
set_option maxHeartbeats 1000000 in
set_option maxRecDepth 100000 in
theorem c_X6_damage (l : Launch) (g : tb_G) (z : tb_M) (sl : Nat) (w : Nat) (y : Int32) (hsl : sl < 2) (hw : w < 32) (hrc : tb_okRM z) : tb_Mi (.int) l yX6_damage cX6_damage 4 2 g z [.ref (tb_ad g 157), .int (nI sl), .int (nI w), .int y] (sr_X6_damage z sl w y) (sz_X6_damage z sl w y) := by
  refine tb_goi (own := RX6) (by decide +kernel) rfl (Nat.le_of_ble_eq_true rfl) ?_
  intro p e s m below meth c ls X hr hlk hH hl
  have hl : lv_has ls 4 [(0, .ref (tb_ad g (157))), (1, .int (nI (sl))), (2, .int (nI (w))), (3, .int (y))] := hl
  refine lv_iload_n X.1 X.2.1 dX6_damage_0 rfl (lv_at hl 1 rfl) ?_
  refine tb_cSi X hH hl.1 (c_X6_isSlot l g z (nI (sl))) ky_X6_isSlot.1 ky_X6_isSlot.2 wm_215 rfl rfl (Nat.le_of_ble_eq_true rfl) ⟨by decide, by decide⟩ ⟨by decide, by decide⟩ dX6_damage_1 (fun H locs hH => ?_)
  refine tb_jbeq (tgt := 17) X dX6_damage_4 (by decide) (fun c => (c ⟨nI_nlt (by omega) (by omega), nI_nlt (by omega) (by omega)⟩ : False).elim) (fun _ => ?_)
  refine lv_iload_n X.1 X.2.1 dX6_damage_7 rfl (lv_at hl 2 rfl) ?_
  refine lv_iconst (v := nI (0)) X.1 X.2.1 dX6_damage_8 (by decide +kernel) ?_
  refine lv_bipush (v := nI (31)) X.1 X.2.1 dX6_damage_9 (by decide +kernel) ?_
  refine tb_cSi X hH hl.1 (c_X6_within l g z (nI (w)) (nI (0)) (nI (31))) ky_X6_within.1 ky_X6_within.2 wm_162 rfl rfl (Nat.le_of_ble_eq_true rfl) ⟨by decide, by decide⟩ ⟨by decide, by decide⟩ dX6_damage_11 (fun H locs hH => ?_)
  refine tb_jbne (tgt := 19) X dX6_damage_14 (by decide) (fun _ => ?_) (fun c => (c ⟨nI_nlt (by omega) (by omega), nI_nlt (by omega) (by omega)⟩ : False).elim)
  refine lv_iload_n X.1 X.2.1 dX6_damage_19 rfl (lv_at hl 3 rfl) ?_
  refine lv_iconst (v := nI (1)) X.1 X.2.1 dX6_damage_20 (by decide +kernel) ?_
  refine lv_sipush (v := nI (255)) X.1 X.2.1 dX6_damage_21 (by decide +kernel) ?_
  refine tb_cSi X hH hl.1 (c_X6_within l g z y (nI (1)) (nI (255))) ky_X6_within.1 ky_X6_within.2 wm_162 rfl rfl (Nat.le_of_ble_eq_true rfl) ⟨by decide, by decide⟩ ⟨by decide, by decide⟩ dX6_damage_24 (fun H locs hH => ?_)
  refine tb_jbne (tgt := 33) X dX6_damage_27 (by decide) (fun c_1 => ?_) (fun c_1 => ?_)
  · refine lv_aload_n X.1 X.2.1 dX6_damage_33 rfl (lv_at hl 0 rfl) ?_
    refine tb_cVv X hH hl.1 (c_X6_record l g z hrc) ky_X6_record.1 ky_X6_record.2 wm_165 tb_oM rfl rfl (Nat.le_of_ble_eq_true rfl) ⟨by decide, by decide⟩ ⟨by decide, by decide⟩ dX6_damage_34 (fun H locs hH => ?_)
    refine lv_aload_n X.1 X.2.1 dX6_damage_37 rfl (lv_at hl 0 rfl) ?_
    refine lv_iload_n X.1 X.2.1 dX6_damage_38 rfl (lv_at hl 1 rfl) ?_
    refine lv_bipush (v := nI (14)) X.1 X.2.1 dX6_damage_39 (by decide +kernel) ?_
    refine lv_iload_n X.1 X.2.1 dX6_damage_41 rfl (lv_at hl 2 rfl) ?_
    refine tb_iaddN X dX6_damage_42 ?_
    refine lv_aload_n X.1 X.2.1 dX6_damage_43 rfl (lv_at hl 0 rfl) ?_
    refine lv_iload_n X.1 X.2.1 dX6_damage_44 rfl (lv_at hl 1 rfl) ?_
    refine lv_bipush (v := nI (14)) X.1 X.2.1 dX6_damage_45 (by decide +kernel) ?_
    refine lv_iload_n X.1 X.2.1 dX6_damage_47 rfl (lv_at hl 2 rfl) ?_
    refine tb_iaddN X dX6_damage_48 ?_
    refine tb_cVi X hH hl.1 (c_X6_part l g (tb_recM z) sl (14 + w) (by first | assumption | omega | decide)) ky_X6_part.1 ky_X6_part.2 wm_229 tb_oM rfl rfl (Nat.le_of_ble_eq_true rfl) ⟨by decide, by decide⟩ ⟨by decide, by decide⟩ dX6_damage_49 (fun H locs hH => ?_)
    refine lv_iload_n X.1 X.2.1 dX6_damage_52 rfl (lv_at hl 3 rfl) ?_
    refine lv_ixor X.1 X.2.1 dX6_damage_53 ?_
    refine tb_cVv X hH hl.1 (c_X6_setPart l g (tb_recM z) sl (14 + w) ((((tb_recM z) 158 ((11 + (46 * sl)) + (14 + w)))) ^^^ y) (by first | assumption | omega | decide)) ky_X6_setPart.1 ky_X6_setPart.2 wm_105 tb_oM rfl rfl (Nat.le_of_ble_eq_true rfl) ⟨by decide, by decide⟩ ⟨by decide, by decide⟩ dX6_damage_54 (fun H locs hH => ?_)
    have hH : tb_H g s.heap (sz_X6_damage_m1 z sl w y) H locs := hH
    refine lv_aload_n X.1 X.2.1 dX6_damage_57 rfl (lv_at hl 0 rfl) ?_
    refine lv_iload_n X.1 X.2.1 dX6_damage_58 rfl (lv_at hl 1 rfl) ?_
    refine lv_bipush (v := nI (14)) X.1 X.2.1 dX6_damage_59 (by decide +kernel) ?_
    refine lv_iload_n X.1 X.2.1 dX6_damage_61 rfl (lv_at hl 2 rfl) ?_
    refine tb_iaddN X dX6_damage_62 ?_
    refine tb_cVi X hH hl.1 (c_X6_part l g (sz_X6_damage_m1 z sl w y) sl (14 + w) (by first | assumption | omega | decide)) ky_X6_part.1 ky_X6_part.2 wm_229 tb_oM rfl rfl (Nat.le_of_ble_eq_true rfl) ⟨by decide, by decide⟩ ⟨by decide, by decide⟩ dX6_damage_63 (fun H locs hH => ?_)
    exact tb_ri X hr hlk hH ⟨(by rw [sr_X6_damage]; simp only [if_pos c_1]), (by rw [sz_X6_damage]; simp only [if_pos c_1])⟩ dX6_damage_66
  · refine lv_bipush (v := (-2)) X.1 X.2.1 dX6_damage_30 (by decide +kernel) ?_
    exact tb_ri X hr hlk hH ⟨(by rw [sr_X6_damage]; simp only [if_neg c_1]), (by rw [sz_X6_damage]; simp only [if_neg c_1])⟩ dX6_damage_32
def sz_X6_repair_m1 (z : tb_M) (sl : Nat) : tb_M := sz_X6_emptyPage (tb_recM z) sl 0
def sz_X6_repair_m2 (z : tb_M) (sl : Nat) : tb_M := tb_up (tb_up (tb_up (tb_up (tb_up (tb_up (tb_up (tb_up (sz_X6_repair_m1 z sl) 158 ((11 + (46 * sl)) + 0) (nI (3))) 158 ((11 + (46 * sl)) + 1) (nI (0))) 158 ((11 + (46 * sl)) + 2) (nI (2))) 158 ((11 + (46 * sl)) + 3) ((tb_sm (sr_X6_wordOf (tb_up (tb_up (tb_up (sz_X6_repair_m1 z sl) 158 ((11 + (46 * sl)) + 0) (nI (3))) 158 ((11 + (46 * sl)) + 1) (nI (0))) 158 ((11 + (46 * sl)) + 2) (nI (2))) 2) 2))) 158 ((11 + (46 * sl)) + 4) (nI (0))) 158 ((11 + (46 * sl)) + 5) (nI (2))) 158 ((11 + (46 * sl)) + 14) ((sr_X6_wordOf (tb_up (tb_up (tb_up (tb_up (tb_up (tb_up (sz_X6_repair_m1 z sl) 158 ((11 + (46 * sl)) + 0) (nI (3))) 158 ((11 + (46 * sl)) + 1) (nI (0))) 158 ((11 + (46 * sl)) + 2) (nI (2))) 158 ((11 + (46 * sl)) + 3) ((tb_sm (sr_X6_wordOf (tb_up (tb_up (tb_up (sz_X6_repair_m1 z sl) 158 ((11 + (46 * sl)) + 0) (nI (3))) 158 ((11 + (46 * sl)) + 1) (nI (0))) 158 ((11 + (46 * sl)) + 2) (nI (2))) 2) 2))) 158 ((11 + (46 * sl)) + 4) (nI (0))) 158 ((11 + (46 * sl)) + 5) (nI (2))) 2 0))) 158 ((11 + (46 * sl)) + 15) ((sr_X6_wordOf (tb_up (tb_up (tb_up (tb_up (tb_up (tb_up (tb_up (sz_X6_repair_m1 z sl) 158 ((11 + (46 * sl)) + 0) (nI (3))) 158 ((11 + (46 * sl)) + 1) (nI (0))) 158 ((11 + (46 * sl)) + 2) (nI (2))) 158 ((11 + (46 * sl)) + 3) ((tb_sm (sr_X6_wordOf (tb_up (tb_up (tb_up (sz_X6_repair_m1 z sl) 158 ((11 + (46 * sl)) + 0) (nI (3))) 158 ((11 + (46 * sl)) + 1) (nI (0))) 158 ((11 + (46 * sl)) + 2) (nI (2))) 2) 2))) 158 ((11 + (46 * sl)) + 4) (nI (0))) 158 ((11 + (46 * sl)) + 5) (nI (2))) 158 ((11 + (46 * sl)) + 14) ((sr_X6_wordOf (tb_up (tb_up (tb_up (tb_up (tb_up (tb_up (sz_X6_repair_m1 z sl) 158 ((11 + (46 * sl)) + 0) (nI (3))) 158 ((11 + (46 * sl)) + 1) (nI (0))) 158 ((11 + (46 * sl)) + 2) (nI (2))) 158 ((11 + (46 * sl)) + 3) ((tb_sm (sr_X6_wordOf (tb_up (tb_up (tb_up (sz_X6_repair_m1 z sl) 158 ((11 + (46 * sl)) + 0) (nI (3))) 158 ((11 + (46 * sl)) + 1) (nI (0))) 158 ((11 + (46 * sl)) + 2) (nI (2))) 2) 2))) 158 ((11 + (46 * sl)) + 4) (nI (0))) 158 ((11 + (46 * sl)) + 5) (nI (2))) 2 0))) 2 1))
def sz_X6_repair (z : tb_M) (sl : Nat) : tb_M := if (z 158 3) = (nI (2)) then (if (¬ (((z 158 ((11 + (46 * sl)) + (6 + 0)))) < (z 158 2))) then z else (if (z 158 6) ≤ 0 then (sz_X6_repair_m2 z sl) else z)) else z
def sr_X6_repair (z : tb_M) (sl : Nat) : Int32 := if (z 158 3) = (nI (2)) then (if (¬ (((z 158 ((11 + (46 * sl)) + (6 + 0)))) < (z 158 2))) then ((-5)) else (if (z 158 6) ≤ 0 then (((sz_X6_repair_m2 z sl) 158 ((11 + (46 * sl)) + 6))) else ((-5)))) else ((-5))
set_option maxHeartbeats 1000000 in
set_option maxRecDepth 100000 in
theorem c_X6_repair (l : Launch) (g : tb_G) (z : tb_M) (sl : Nat) (hsl : sl < 2) (hrc : tb_okRM z) : tb_Mi (.int) l yX6_repair cX6_repair 3 3 g z [.ref (tb_ad g 157), .int (nI sl)] (sr_X6_repair z sl) (sz_X6_repair z sl) := by
  refine tb_goi (own := RX6) (by decide +kernel) rfl (Nat.le_of_ble_eq_true rfl) ?_
  intro p e s m below meth c ls X hr hlk hH hl
  have hl : lv_has ls 3 [(0, .ref (tb_ad g (157))), (1, .int (nI (sl)))] := hl
  refine lv_iload_n X.1 X.2.1 dX6_repair_0 rfl (lv_at hl 1 rfl) ?_
  refine tb_cSi X hH hl.1 (c_X6_isSlot l g z (nI (sl))) ky_X6_isSlot.1 ky_X6_isSlot.2 wm_215 rfl rfl (Nat.le_of_ble_eq_true rfl) ⟨by decide, by decide⟩ ⟨by decide, by decide⟩ dX6_repair_1 (fun H locs hH => ?_)
  refine tb_jbne (tgt := 9) X dX6_repair_4 (by decide) (fun _ => ?_) (fun c => (c ⟨nI_nlt (by omega) (by omega), nI_nlt (by omega) (by omega)⟩ : False).elim)
  refine lv_aload_n X.1 X.2.1 dX6_repair_9 rfl (lv_at hl 0 rfl) ?_
  refine tb_get X hH tb_Mc.1 (tb_Mc.2 _ _) rfl inlX6 0 (by decide) wm_99 (v := .ref (tb_ad g (158))) rfl dX6_repair_10 ?_
  refine lv_iconst (v := nI (3)) X.1 X.2.1 dX6_repair_13 (by decide +kernel) ?_
  refine tb_ald X hH tb_i158 (3) rfl (by decide) (by first | decide | omega) dX6_repair_14 ?_
  refine lv_iconst (v := nI (2)) X.1 X.2.1 dX6_repair_15 (by decide +kernel) ?_
  refine lv_icmp_ne (tgt := 38) X.1 X.2.1 dX6_repair_16 (by decide) (fun c_1 => ?_) (fun c_1 => ?_)
  · refine lv_bipush (v := (-5)) X.1 X.2.1 dX6_repair_38 (by decide +kernel) ?_
    exact tb_ri X hr hlk hH ⟨(by rw [sr_X6_repair]; simp only [if_neg c_1]), (by rw [sz_X6_repair]; simp only [if_neg c_1])⟩ dX6_repair_40
  · refine lv_aload_n X.1 X.2.1 dX6_repair_19 rfl (lv_at hl 0 rfl) ?_
    refine lv_iload_n X.1 X.2.1 dX6_repair_20 rfl (lv_at hl 1 rfl) ?_
    refine lv_iconst (v := nI (0)) X.1 X.2.1 dX6_repair_21 (by decide +kernel) ?_
    refine tb_cVi X hH hl.1 (c_X6_isWorn l g z sl 0 (by first | assumption | omega | decide) (by first | assumption | omega | decide)) ky_X6_isWorn.1 ky_X6_isWorn.2 wm_225 tb_oM rfl rfl (Nat.le_of_ble_eq_true rfl) ⟨by decide, by decide⟩ ⟨by decide, by decide⟩ dX6_repair_22 (fun H locs hH => ?_)
    refine tb_jbne (tgt := 38) X dX6_repair_25 (by decide) (fun c_2 => ?_) (fun c_2 => ?_)
    · refine lv_bipush (v := (-5)) X.1 X.2.1 dX6_repair_38 (by decide +kernel) ?_
      exact tb_ri X hr hlk hH ⟨(by rw [sr_X6_repair]; simp only [if_pos c_1, if_pos c_2]), (by rw [sz_X6_repair]; simp only [if_pos c_1, if_pos c_2])⟩ dX6_repair_40
    · refine lv_aload_n X.1 X.2.1 dX6_repair_28 rfl (lv_at hl 0 rfl) ?_
      refine tb_get X hH tb_Mc.1 (tb_Mc.2 _ _) rfl inlX6 0 (by decide) wm_99 (v := .ref (tb_ad g (158))) rfl dX6_repair_29 ?_
      refine lv_bipush (v := nI (6)) X.1 X.2.1 dX6_repair_32 (by decide +kernel) ?_
      refine tb_ald X hH tb_i158 (6) rfl (by decide) (by first | decide | omega) dX6_repair_34 ?_
      refine lv_if_le (tgt := 41) X.1 X.2.1 dX6_repair_35 (by decide) (fun c_3 => ?_) (fun c_3 => ?_)
      · refine lv_aload_n X.1 X.2.1 dX6_repair_41 rfl (lv_at hl 0 rfl) ?_
        refine tb_cVv X hH hl.1 (c_X6_record l g z hrc) ky_X6_record.1 ky_X6_record.2 wm_165 tb_oM rfl rfl (Nat.le_of_ble_eq_true rfl) ⟨by decide, by decide⟩ ⟨by decide, by decide⟩ dX6_repair_42 (fun H locs hH => ?_)
        refine lv_aload_n X.1 X.2.1 dX6_repair_45 rfl (lv_at hl 0 rfl) ?_
        refine lv_iload_n X.1 X.2.1 dX6_repair_46 rfl (lv_at hl 1 rfl) ?_
        refine lv_iconst (v := nI (0)) X.1 X.2.1 dX6_repair_47 (by decide +kernel) ?_
        refine tb_cVv X hH hl.1 (c_X6_emptyPage l g (tb_recM z) sl 0 hsl (by decide)) ky_X6_emptyPage.1 ky_X6_emptyPage.2 wm_233 tb_oM rfl rfl (Nat.le_of_ble_eq_true rfl) ⟨by decide, by decide⟩ ⟨by decide, by decide⟩ dX6_repair_48 (fun H locs hH => ?_)
        have hH : tb_H g s.heap (sz_X6_repair_m1 z sl) H locs := hH
        refine lv_aload_n X.1 X.2.1 dX6_repair_51 rfl (lv_at hl 0 rfl) ?_
        refine lv_iload_n X.1 X.2.1 dX6_repair_52 rfl (lv_at hl 1 rfl) ?_
        refine lv_iconst (v := nI (0)) X.1 X.2.1 dX6_repair_53 (by decide +kernel) ?_
        refine lv_iconst (v := nI (3)) X.1 X.2.1 dX6_repair_54 (by decide +kernel) ?_
        refine tb_cVv X hH hl.1 (c_X6_setPart l g (sz_X6_repair_m1 z sl) sl 0 (nI (3)) (by first | assumption | omega | decide)) ky_X6_setPart.1 ky_X6_setPart.2 wm_105 tb_oM rfl rfl (Nat.le_of_ble_eq_true rfl) ⟨by decide, by decide⟩ ⟨by decide, by decide⟩ dX6_repair_55 (fun H locs hH => ?_)
        refine lv_aload_n X.1 X.2.1 dX6_repair_58 rfl (lv_at hl 0 rfl) ?_
        refine lv_iload_n X.1 X.2.1 dX6_repair_59 rfl (lv_at hl 1 rfl) ?_
        refine lv_iconst (v := nI (1)) X.1 X.2.1 dX6_repair_60 (by decide +kernel) ?_
        refine lv_iconst (v := nI (0)) X.1 X.2.1 dX6_repair_61 (by decide +kernel) ?_
        refine tb_cVv X hH hl.1 (c_X6_setPart l g (tb_up (sz_X6_repair_m1 z sl) 158 ((11 + (46 * sl)) + 0) (nI (3))) sl 1 (nI (0)) (by first | assumption | omega | decide)) ky_X6_setPart.1 ky_X6_setPart.2 wm_105 tb_oM rfl rfl (Nat.le_of_ble_eq_true rfl) ⟨by decide, by decide⟩ ⟨by decide, by decide⟩ dX6_repair_62 (fun H locs hH => ?_)
        refine lv_aload_n X.1 X.2.1 dX6_repair_65 rfl (lv_at hl 0 rfl) ?_
        refine lv_iload_n X.1 X.2.1 dX6_repair_66 rfl (lv_at hl 1 rfl) ?_
        refine lv_iconst (v := nI (2)) X.1 X.2.1 dX6_repair_67 (by decide +kernel) ?_
        refine lv_iconst (v := nI (2)) X.1 X.2.1 dX6_repair_68 (by decide +kernel) ?_
        refine tb_cVv X hH hl.1 (c_X6_setPart l g (tb_up (tb_up (sz_X6_repair_m1 z sl) 158 ((11 + (46 * sl)) + 0) (nI (3))) 158 ((11 + (46 * sl)) + 1) (nI (0))) sl 2 (nI (2)) (by first | assumption | omega | decide)) ky_X6_setPart.1 ky_X6_setPart.2 wm_105 tb_oM rfl rfl (Nat.le_of_ble_eq_true rfl) ⟨by decide, by decide⟩ ⟨by decide, by decide⟩ dX6_repair_69 (fun H locs hH => ?_)
        refine lv_aload_n X.1 X.2.1 dX6_repair_72 rfl (lv_at hl 0 rfl) ?_
        refine lv_iload_n X.1 X.2.1 dX6_repair_73 rfl (lv_at hl 1 rfl) ?_
        refine lv_iconst (v := nI (3)) X.1 X.2.1 dX6_repair_74 (by decide +kernel) ?_
        refine lv_aload_n X.1 X.2.1 dX6_repair_75 rfl (lv_at hl 0 rfl) ?_
        refine lv_iconst (v := nI (2)) X.1 X.2.1 dX6_repair_76 (by decide +kernel) ?_
        refine tb_cVi X hH hl.1 (c_X6_sumOf_g l g (tb_up (tb_up (tb_up (sz_X6_repair_m1 z sl) 158 ((11 + (46 * sl)) + 0) (nI (3))) 158 ((11 + (46 * sl)) + 1) (nI (0))) 158 ((11 + (46 * sl)) + 2) (nI (2)))) ky_X6_sumOf.1 ky_X6_sumOf.2 wm_326 tb_oM rfl rfl (Nat.le_of_ble_eq_true rfl) ⟨by decide, by decide⟩ ⟨by decide, by decide⟩ dX6_repair_77 (fun H locs hH => ?_)
        refine tb_cVv X hH hl.1 (c_X6_setPart l g (tb_up (tb_up (tb_up (sz_X6_repair_m1 z sl) 158 ((11 + (46 * sl)) + 0) (nI (3))) 158 ((11 + (46 * sl)) + 1) (nI (0))) 158 ((11 + (46 * sl)) + 2) (nI (2))) sl 3 ((tb_sm (sr_X6_wordOf (tb_up (tb_up (tb_up (sz_X6_repair_m1 z sl) 158 ((11 + (46 * sl)) + 0) (nI (3))) 158 ((11 + (46 * sl)) + 1) (nI (0))) 158 ((11 + (46 * sl)) + 2) (nI (2))) 2) 2)) (by first | assumption | omega | decide)) ky_X6_setPart.1 ky_X6_setPart.2 wm_105 tb_oM rfl rfl (Nat.le_of_ble_eq_true rfl) ⟨by decide, by decide⟩ ⟨by decide, by decide⟩ dX6_repair_80 (fun H locs hH => ?_)
        refine lv_aload_n X.1 X.2.1 dX6_repair_83 rfl (lv_at hl 0 rfl) ?_
        refine lv_iload_n X.1 X.2.1 dX6_repair_84 rfl (lv_at hl 1 rfl) ?_
        refine lv_iconst (v := nI (4)) X.1 X.2.1 dX6_repair_85 (by decide +kernel) ?_
        refine lv_iconst (v := nI (0)) X.1 X.2.1 dX6_repair_86 (by decide +kernel) ?_
        refine tb_cVv X hH hl.1 (c_X6_setPart l g (tb_up (tb_up (tb_up (tb_up (sz_X6_repair_m1 z sl) 158 ((11 + (46 * sl)) + 0) (nI (3))) 158 ((11 + (46 * sl)) + 1) (nI (0))) 158 ((11 + (46 * sl)) + 2) (nI (2))) 158 ((11 + (46 * sl)) + 3) ((tb_sm (sr_X6_wordOf (tb_up (tb_up (tb_up (sz_X6_repair_m1 z sl) 158 ((11 + (46 * sl)) + 0) (nI (3))) 158 ((11 + (46 * sl)) + 1) (nI (0))) 158 ((11 + (46 * sl)) + 2) (nI (2))) 2) 2))) sl 4 (nI (0)) (by first | assumption | omega | decide)) ky_X6_setPart.1 ky_X6_setPart.2 wm_105 tb_oM rfl rfl (Nat.le_of_ble_eq_true rfl) ⟨by decide, by decide⟩ ⟨by decide, by decide⟩ dX6_repair_87 (fun H locs hH => ?_)
        refine lv_aload_n X.1 X.2.1 dX6_repair_90 rfl (lv_at hl 0 rfl) ?_
        refine lv_iload_n X.1 X.2.1 dX6_repair_91 rfl (lv_at hl 1 rfl) ?_
        refine lv_iconst (v := nI (5)) X.1 X.2.1 dX6_repair_92 (by decide +kernel) ?_
        refine lv_iconst (v := nI (2)) X.1 X.2.1 dX6_repair_93 (by decide +kernel) ?_
        refine tb_cVv X hH hl.1 (c_X6_setPart l g (tb_up (tb_up (tb_up (tb_up (tb_up (sz_X6_repair_m1 z sl) 158 ((11 + (46 * sl)) + 0) (nI (3))) 158 ((11 + (46 * sl)) + 1) (nI (0))) 158 ((11 + (46 * sl)) + 2) (nI (2))) 158 ((11 + (46 * sl)) + 3) ((tb_sm (sr_X6_wordOf (tb_up (tb_up (tb_up (sz_X6_repair_m1 z sl) 158 ((11 + (46 * sl)) + 0) (nI (3))) 158 ((11 + (46 * sl)) + 1) (nI (0))) 158 ((11 + (46 * sl)) + 2) (nI (2))) 2) 2))) 158 ((11 + (46 * sl)) + 4) (nI (0))) sl 5 (nI (2)) (by first | assumption | omega | decide)) ky_X6_setPart.1 ky_X6_setPart.2 wm_105 tb_oM rfl rfl (Nat.le_of_ble_eq_true rfl) ⟨by decide, by decide⟩ ⟨by decide, by decide⟩ dX6_repair_94 (fun H locs hH => ?_)
        refine lv_iconst (v := nI (0)) X.1 X.2.1 dX6_repair_97 (by decide +kernel) ?_
        refine lv_istore_n (lv' := [(2, .int (nI (0))), (0, .ref (tb_ad g (157))), (1, .int (nI (sl)))]) X.1 X.2.1 dX6_repair_98 rfl hl (by decide) rfl (fun ls hl => ?_)
        refine lv_iload_n X.1 X.2.1 dX6_repair_99 rfl (lv_at hl 0 rfl) ?_
        refine lv_iconst (v := nI (2)) X.1 X.2.1 dX6_repair_100 (by decide +kernel) ?_
        refine tb_nge (tgt := 125) X (by omega) (by omega) dX6_repair_101 (by decide) (fun c => ((by omega) : False).elim) (fun _ => ?_)
        refine lv_aload_n X.1 X.2.1 dX6_repair_104 rfl (lv_at hl 1 rfl) ?_
        refine lv_iload_n X.1 X.2.1 dX6_repair_105 rfl (lv_at hl 2 rfl) ?_
        refine lv_bipush (v := nI (14)) X.1 X.2.1 dX6_repair_106 (by decide +kernel) ?_
        refine lv_iload_n X.1 X.2.1 dX6_repair_108 rfl (lv_at hl 0 rfl) ?_
        refine tb_iaddN X dX6_repair_109 ?_
        refine tb_top (x2 := nI 14) rfl ?_
        refine lv_aload_n X.1 X.2.1 dX6_repair_110 rfl (lv_at hl 1 rfl) ?_
        refine lv_iconst (v := nI (2)) X.1 X.2.1 dX6_repair_111 (by decide +kernel) ?_
        refine lv_iload_n X.1 X.2.1 dX6_repair_112 rfl (lv_at hl 0 rfl) ?_
        refine tb_cVi X hH hl.1 (c_X6_wordOf l g (tb_up (tb_up (tb_up (tb_up (tb_up (tb_up (sz_X6_repair_m1 z sl) 158 ((11 + (46 * sl)) + 0) (nI (3))) 158 ((11 + (46 * sl)) + 1) (nI (0))) 158 ((11 + (46 * sl)) + 2) (nI (2))) 158 ((11 + (46 * sl)) + 3) ((tb_sm (sr_X6_wordOf (tb_up (tb_up (tb_up (sz_X6_repair_m1 z sl) 158 ((11 + (46 * sl)) + 0) (nI (3))) 158 ((11 + (46 * sl)) + 1) (nI (0))) 158 ((11 + (46 * sl)) + 2) (nI (2))) 2) 2))) 158 ((11 + (46 * sl)) + 4) (nI (0))) 158 ((11 + (46 * sl)) + 5) (nI (2))) 2 0 (by first | assumption | omega | decide) (by first | assumption | omega | decide)) ky_X6_wordOf.1 ky_X6_wordOf.2 wm_330 tb_oM rfl rfl (Nat.le_of_ble_eq_true rfl) ⟨by decide, by decide⟩ ⟨by decide, by decide⟩ dX6_repair_113 (fun H locs hH => ?_)
        refine tb_cVv X hH hl.1 (c_X6_setPart l g (tb_up (tb_up (tb_up (tb_up (tb_up (tb_up (sz_X6_repair_m1 z sl) 158 ((11 + (46 * sl)) + 0) (nI (3))) 158 ((11 + (46 * sl)) + 1) (nI (0))) 158 ((11 + (46 * sl)) + 2) (nI (2))) 158 ((11 + (46 * sl)) + 3) ((tb_sm (sr_X6_wordOf (tb_up (tb_up (tb_up (sz_X6_repair_m1 z sl) 158 ((11 + (46 * sl)) + 0) (nI (3))) 158 ((11 + (46 * sl)) + 1) (nI (0))) 158 ((11 + (46 * sl)) + 2) (nI (2))) 2) 2))) 158 ((11 + (46 * sl)) + 4) (nI (0))) 158 ((11 + (46 * sl)) + 5) (nI (2))) sl 14 ((sr_X6_wordOf (tb_up (tb_up (tb_up (tb_up (tb_up (tb_up (sz_X6_repair_m1 z sl) 158 ((11 + (46 * sl)) + 0) (nI (3))) 158 ((11 + (46 * sl)) + 1) (nI (0))) 158 ((11 + (46 * sl)) + 2) (nI (2))) 158 ((11 + (46 * sl)) + 3) ((tb_sm (sr_X6_wordOf (tb_up (tb_up (tb_up (sz_X6_repair_m1 z sl) 158 ((11 + (46 * sl)) + 0) (nI (3))) 158 ((11 + (46 * sl)) + 1) (nI (0))) 158 ((11 + (46 * sl)) + 2) (nI (2))) 2) 2))) 158 ((11 + (46 * sl)) + 4) (nI (0))) 158 ((11 + (46 * sl)) + 5) (nI (2))) 2 0)) (by first | assumption | omega | decide)) ky_X6_setPart.1 ky_X6_setPart.2 wm_105 tb_oM rfl rfl (Nat.le_of_ble_eq_true rfl) ⟨by decide, by decide⟩ ⟨by decide, by decide⟩ dX6_repair_116 (fun H locs hH => ?_)
        refine lv_iinc (v := nI (1)) (lv' := [(2, .int (nI (1))), (0, .ref (tb_ad g (157))), (1, .int (nI (sl)))]) X.1 X.2.1 dX6_repair_119 hl (k := 0) rfl (by decide +kernel) (by decide) rfl (fun ls hl => ?_)
        refine lv_goto (tgt := 99) X.1 X.2.1 dX6_repair_122 (by decide) ?_
        refine lv_iload_n X.1 X.2.1 dX6_repair_99 rfl (lv_at hl 0 rfl) ?_
        refine lv_iconst (v := nI (2)) X.1 X.2.1 dX6_repair_100 (by decide +kernel) ?_
        refine tb_nge (tgt := 125) X (by omega) (by omega) dX6_repair_101 (by decide) (fun c => ((by omega) : False).elim) (fun _ => ?_)
        refine lv_aload_n X.1 X.2.1 dX6_repair_104 rfl (lv_at hl 1 rfl) ?_
        refine lv_iload_n X.1 X.2.1 dX6_repair_105 rfl (lv_at hl 2 rfl) ?_
        refine lv_bipush (v := nI (14)) X.1 X.2.1 dX6_repair_106 (by decide +kernel) ?_
        refine lv_iload_n X.1 X.2.1 dX6_repair_108 rfl (lv_at hl 0 rfl) ?_
        refine tb_iaddN X dX6_repair_109 ?_
        refine tb_top (x2 := nI 15) rfl ?_
        refine lv_aload_n X.1 X.2.1 dX6_repair_110 rfl (lv_at hl 1 rfl) ?_
        refine lv_iconst (v := nI (2)) X.1 X.2.1 dX6_repair_111 (by decide +kernel) ?_
        refine lv_iload_n X.1 X.2.1 dX6_repair_112 rfl (lv_at hl 0 rfl) ?_
        refine tb_cVi X hH hl.1 (c_X6_wordOf l g (tb_up (tb_up (tb_up (tb_up (tb_up (tb_up (tb_up (sz_X6_repair_m1 z sl) 158 ((11 + (46 * sl)) + 0) (nI (3))) 158 ((11 + (46 * sl)) + 1) (nI (0))) 158 ((11 + (46 * sl)) + 2) (nI (2))) 158 ((11 + (46 * sl)) + 3) ((tb_sm (sr_X6_wordOf (tb_up (tb_up (tb_up (sz_X6_repair_m1 z sl) 158 ((11 + (46 * sl)) + 0) (nI (3))) 158 ((11 + (46 * sl)) + 1) (nI (0))) 158 ((11 + (46 * sl)) + 2) (nI (2))) 2) 2))) 158 ((11 + (46 * sl)) + 4) (nI (0))) 158 ((11 + (46 * sl)) + 5) (nI (2))) 158 ((11 + (46 * sl)) + 14) ((sr_X6_wordOf (tb_up (tb_up (tb_up (tb_up (tb_up (tb_up (sz_X6_repair_m1 z sl) 158 ((11 + (46 * sl)) + 0) (nI (3))) 158 ((11 + (46 * sl)) + 1) (nI (0))) 158 ((11 + (46 * sl)) + 2) (nI (2))) 158 ((11 + (46 * sl)) + 3) ((tb_sm (sr_X6_wordOf (tb_up (tb_up (tb_up (sz_X6_repair_m1 z sl) 158 ((11 + (46 * sl)) + 0) (nI (3))) 158 ((11 + (46 * sl)) + 1) (nI (0))) 158 ((11 + (46 * sl)) + 2) (nI (2))) 2) 2))) 158 ((11 + (46 * sl)) + 4) (nI (0))) 158 ((11 + (46 * sl)) + 5) (nI (2))) 2 0))) 2 1 (by first | assumption | omega | decide) (by first | assumption | omega | decide)) ky_X6_wordOf.1 ky_X6_wordOf.2 wm_330 tb_oM rfl rfl (Nat.le_of_ble_eq_true rfl) ⟨by decide, by decide⟩ ⟨by decide, by decide⟩ dX6_repair_113 (fun H locs hH => ?_)
        refine tb_cVv X hH hl.1 (c_X6_setPart l g (tb_up (tb_up (tb_up (tb_up (tb_up (tb_up (tb_up (sz_X6_repair_m1 z sl) 158 ((11 + (46 * sl)) + 0) (nI (3))) 158 ((11 + (46 * sl)) + 1) (nI (0))) 158 ((11 + (46 * sl)) + 2) (nI (2))) 158 ((11 + (46 * sl)) + 3) ((tb_sm (sr_X6_wordOf (tb_up (tb_up (tb_up (sz_X6_repair_m1 z sl) 158 ((11 + (46 * sl)) + 0) (nI (3))) 158 ((11 + (46 * sl)) + 1) (nI (0))) 158 ((11 + (46 * sl)) + 2) (nI (2))) 2) 2))) 158 ((11 + (46 * sl)) + 4) (nI (0))) 158 ((11 + (46 * sl)) + 5) (nI (2))) 158 ((11 + (46 * sl)) + 14) ((sr_X6_wordOf (tb_up (tb_up (tb_up (tb_up (tb_up (tb_up (sz_X6_repair_m1 z sl) 158 ((11 + (46 * sl)) + 0) (nI (3))) 158 ((11 + (46 * sl)) + 1) (nI (0))) 158 ((11 + (46 * sl)) + 2) (nI (2))) 158 ((11 + (46 * sl)) + 3) ((tb_sm (sr_X6_wordOf (tb_up (tb_up (tb_up (sz_X6_repair_m1 z sl) 158 ((11 + (46 * sl)) + 0) (nI (3))) 158 ((11 + (46 * sl)) + 1) (nI (0))) 158 ((11 + (46 * sl)) + 2) (nI (2))) 2) 2))) 158 ((11 + (46 * sl)) + 4) (nI (0))) 158 ((11 + (46 * sl)) + 5) (nI (2))) 2 0))) sl 15 ((sr_X6_wordOf (tb_up (tb_up (tb_up (tb_up (tb_up (tb_up (tb_up (sz_X6_repair_m1 z sl) 158 ((11 + (46 * sl)) + 0) (nI (3))) 158 ((11 + (46 * sl)) + 1) (nI (0))) 158 ((11 + (46 * sl)) + 2) (nI (2))) 158 ((11 + (46 * sl)) + 3) ((tb_sm (sr_X6_wordOf (tb_up (tb_up (tb_up (sz_X6_repair_m1 z sl) 158 ((11 + (46 * sl)) + 0) (nI (3))) 158 ((11 + (46 * sl)) + 1) (nI (0))) 158 ((11 + (46 * sl)) + 2) (nI (2))) 2) 2))) 158 ((11 + (46 * sl)) + 4) (nI (0))) 158 ((11 + (46 * sl)) + 5) (nI (2))) 158 ((11 + (46 * sl)) + 14) ((sr_X6_wordOf (tb_up (tb_up (tb_up (tb_up (tb_up (tb_up (sz_X6_repair_m1 z sl) 158 ((11 + (46 * sl)) + 0) (nI (3))) 158 ((11 + (46 * sl)) + 1) (nI (0))) 158 ((11 + (46 * sl)) + 2) (nI (2))) 158 ((11 + (46 * sl)) + 3) ((tb_sm (sr_X6_wordOf (tb_up (tb_up (tb_up (sz_X6_repair_m1 z sl) 158 ((11 + (46 * sl)) + 0) (nI (3))) 158 ((11 + (46 * sl)) + 1) (nI (0))) 158 ((11 + (46 * sl)) + 2) (nI (2))) 2) 2))) 158 ((11 + (46 * sl)) + 4) (nI (0))) 158 ((11 + (46 * sl)) + 5) (nI (2))) 2 0))) 2 1)) (by first | assumption | omega | decide)) ky_X6_setPart.1 ky_X6_setPart.2 wm_105 tb_oM rfl rfl (Nat.le_of_ble_eq_true rfl) ⟨by decide, by decide⟩ ⟨by decide, by decide⟩ dX6_repair_116 (fun H locs hH => ?_)
        refine lv_iinc (v := nI (2)) (lv' := [(2, .int (nI (2))), (0, .ref (tb_ad g (157))), (1, .int (nI (sl)))]) X.1 X.2.1 dX6_repair_119 hl (k := 0) rfl (by decide +kernel) (by decide) rfl (fun ls hl => ?_)
        refine lv_goto (tgt := 99) X.1 X.2.1 dX6_repair_122 (by decide) ?_
        refine lv_iload_n X.1 X.2.1 dX6_repair_99 rfl (lv_at hl 0 rfl) ?_
        refine lv_iconst (v := nI (2)) X.1 X.2.1 dX6_repair_100 (by decide +kernel) ?_
        refine tb_nge (tgt := 125) X (by omega) (by omega) dX6_repair_101 (by decide) (fun _ => ?_) (fun c => ((by omega) : False).elim)
        have hH : tb_H g s.heap (sz_X6_repair_m2 z sl) H locs := hH
        refine lv_aload_n X.1 X.2.1 dX6_repair_125 rfl (lv_at hl 1 rfl) ?_
        refine lv_iload_n X.1 X.2.1 dX6_repair_126 rfl (lv_at hl 2 rfl) ?_
        refine lv_bipush (v := nI (6)) X.1 X.2.1 dX6_repair_127 (by decide +kernel) ?_
        refine tb_cVi X hH hl.1 (c_X6_part l g (sz_X6_repair_m2 z sl) sl 6 (by first | assumption | omega | decide)) ky_X6_part.1 ky_X6_part.2 wm_229 tb_oM rfl rfl (Nat.le_of_ble_eq_true rfl) ⟨by decide, by decide⟩ ⟨by decide, by decide⟩ dX6_repair_129 (fun H locs hH => ?_)
        exact tb_ri X hr hlk hH ⟨(by rw [sr_X6_repair]; simp only [if_pos c_1, if_neg c_2, if_pos c_3]), (by rw [sz_X6_repair]; simp only [if_pos c_1, if_neg c_2, if_pos c_3])⟩ dX6_repair_132
      · refine lv_bipush (v := (-5)) X.1 X.2.1 dX6_repair_38 (by decide +kernel) ?_
        exact tb_ri X hr hlk hH ⟨(by rw [sr_X6_repair]; simp only [if_pos c_1, if_neg c_2, if_neg c_3]), (by rw [sz_X6_repair]; simp only [if_pos c_1, if_neg c_2, if_neg c_3])⟩ dX6_repair_40
def sz_X6_start_m1 (z : tb_M) (q : Prop) [Decidable q] : tb_M := sz_X6_remember (sz_X6_starts_m9 (tb_recM z) (nI (if q then 2 else 0))) (nI (if q then 2 else 0))
set_option maxHeartbeats 1000000 in
set_option maxRecDepth 100000 in
theorem c_X6_start (l : Launch) (g : tb_G) (z : tb_M) (q : Prop) [Decidable q] (hT : tb_okTM z) (hrc : tb_okRM z) : tb_Mi (.int) l yX6_start cX6_start 2 6 g z [.ref (tb_ad g 157), .int (tb_b q)] ((sz_X6_start_m1 z q) 158 3) (sz_X6_start_m1 z q) := by
  refine tb_goi (own := RX6) (by decide +kernel) rfl (Nat.le_of_ble_eq_true rfl) ?_
  intro p e s m below meth c ls X hr hlk hH hl
  have hl : lv_has ls 2 [(0, .ref (tb_ad g (157))), (1, .int (tb_b (q)))] := hl
  refine lv_aload_n X.1 X.2.1 dX6_start_0 rfl (lv_at hl 0 rfl) ?_
  refine tb_cVv X hH hl.1 (c_X6_record l g z hrc) ky_X6_record.1 ky_X6_record.2 wm_165 tb_oM rfl rfl (Nat.le_of_ble_eq_true rfl) ⟨by decide, by decide⟩ ⟨by decide, by decide⟩ dX6_start_1 (fun H locs hH => ?_)
  refine lv_aload_n X.1 X.2.1 dX6_start_4 rfl (lv_at hl 0 rfl) ?_
  refine lv_iload_n X.1 X.2.1 dX6_start_5 rfl (lv_at hl 1 rfl) ?_
  have J_1 : ∀ (H : Heap) (locs : List Loc) (ls : Array Slot) (vq1 : Int32), vq1 = (nI (if q then 2 else 0)) → tb_H g s.heap (tb_recM z) H locs → lv_has ls 2 [(0, .ref (tb_ad g (157))), (1, .int (tb_b (q)))] → W p l e (tb_rm 6) s m ([.ref (tb_ad g 157), .int (tb_b q)] : List Value).toArray below meth c H locs 0 0 (MQ below (va_Qi (fun r9 u9 => r9 = (sz_X6_start_m1 z q) 158 3 ∧ u9 = sz_X6_start_m1 z q) (tb_B g) (tb_A g)) ([.ref (tb_ad g 157), .int (tb_b q)] : List Value).toArray s 0 0 (tb_A g)) (F0 m 14 ls [.int vq1, .ref (tb_ad g (157))]) := by
    intro H locs ls vq1 evq1 hH hl
    subst evq1
    refine tb_cVv X hH hl.1 (c_X6_starts l g (tb_recM z) (nI (if q then 2 else 0)) (tb_recM_TM hT).2) ky_X6_starts.1 ky_X6_starts.2 wm_401 tb_oM rfl rfl (Nat.le_of_ble_eq_true rfl) ⟨by decide, by decide⟩ ⟨by decide, by decide⟩ dX6_start_14 (fun H locs hH => ?_)
    have hH : tb_H g s.heap (sz_X6_start_m1 z q) H locs := hH
    refine lv_aload_n X.1 X.2.1 dX6_start_17 rfl (lv_at hl 0 rfl) ?_
    refine tb_get X hH tb_Mc.1 (tb_Mc.2 _ _) rfl inlX6 0 (by decide) wm_99 (v := .ref (tb_ad g (158))) rfl dX6_start_18 ?_
    refine lv_iconst (v := nI (3)) X.1 X.2.1 dX6_start_21 (by decide +kernel) ?_
    refine tb_ald X hH tb_i158 (3) rfl (by decide) (by first | decide | omega) dX6_start_22 ?_
    exact tb_ri X hr hlk hH ⟨rfl, rfl⟩ dX6_start_23
  refine tb_jbeq (tgt := 13) X dX6_start_6 (by decide) (fun c_1 => ?_) (fun c_1 => ?_)
  · refine lv_iconst (v := nI (0)) X.1 X.2.1 dX6_start_13 (by decide +kernel) ?_
    exact J_1 _ _ _ _ (by simp only [if_neg c_1]) hH (lv_sub hl [0, 1] rfl)
  · refine lv_iconst (v := nI (2)) X.1 X.2.1 dX6_start_9 (by decide +kernel) ?_
    refine lv_goto (tgt := 14) X.1 X.2.1 dX6_start_10 (by decide) ?_
    exact J_1 _ _ _ _ (by simp only [if_pos c_1]) hH (lv_sub hl [0, 1] rfl)
set_option maxHeartbeats 1000000 in
set_option maxRecDepth 100000 in
theorem c_X6_pass_bad (l : Launch) (g : tb_G) (z : tb_M) (x : Int32) (hx : ¬ (¬ (x < nI 1) ∧ (¬ (nI 500 < x)))) : tb_Mi (.int) l yX6_pass cX6_pass 2 1 g z [.ref (tb_ad g 157), .int x] ((-2)) (z) := by
  refine tb_goi (own := RX6) (by decide +kernel) rfl (Nat.le_of_ble_eq_true rfl) ?_
  intro p e s m below meth c ls X hr hlk hH hl
  have hl : lv_has ls 2 [(0, .ref (tb_ad g (157))), (1, .int (x))] := hl
  refine lv_iload_n X.1 X.2.1 dX6_pass_0 rfl (lv_at hl 1 rfl) ?_
  refine lv_iconst (v := nI (1)) X.1 X.2.1 dX6_pass_1 (by decide +kernel) ?_
  refine lv_sipush (v := nI (500)) X.1 X.2.1 dX6_pass_2 (by decide +kernel) ?_
  refine tb_cSi X hH hl.1 (c_X6_within l g z x (nI (1)) (nI (500))) ky_X6_within.1 ky_X6_within.2 wm_162 rfl rfl (Nat.le_of_ble_eq_true rfl) ⟨by decide, by decide⟩ ⟨by decide, by decide⟩ dX6_pass_5 (fun H locs hH => ?_)
  refine tb_jbne (tgt := 14) X dX6_pass_8 (by decide) (fun c => (hx c : False).elim) (fun _ => ?_)
  refine lv_bipush (v := (-2)) X.1 X.2.1 dX6_pass_11 (by decide +kernel) ?_
  exact tb_ri X hr hlk hH ⟨rfl, rfl⟩ dX6_pass_13
set_option maxHeartbeats 1000000 in
set_option maxRecDepth 100000 in
theorem c_X6_pass (l : Launch) (g : tb_G) (z : tb_M) (t : Nat) (ht : 1 ≤ t ∧ t ≤ 500) (hrc : tb_okRM z) (hW : ∀ i, i < t → tb_okTM (tb_mpZ (tb_recM z) i)) : tb_Mi (.int) l yX6_pass cX6_pass 2 8 g z [.ref (tb_ad g 157), .int (nI t)] ((tb_mpN (tb_recM z) t)) (tb_mpZ (tb_recM z) t) := by
  refine tb_goi (own := RX6) (by decide +kernel) rfl (Nat.le_of_ble_eq_true rfl) ?_
  intro p e s m below meth c ls X hr hlk hH hl
  have hl : lv_has ls 2 [(0, .ref (tb_ad g (157))), (1, .int (nI (t)))] := hl
  refine lv_iload_n X.1 X.2.1 dX6_pass_0 rfl (lv_at hl 1 rfl) ?_
  refine lv_iconst (v := nI (1)) X.1 X.2.1 dX6_pass_1 (by decide +kernel) ?_
  refine lv_sipush (v := nI (500)) X.1 X.2.1 dX6_pass_2 (by decide +kernel) ?_
  refine tb_cSi X hH hl.1 (c_X6_within l g z (nI (t)) (nI (1)) (nI (500))) ky_X6_within.1 ky_X6_within.2 wm_162 rfl rfl (Nat.le_of_ble_eq_true rfl) ⟨by decide, by decide⟩ ⟨by decide, by decide⟩ dX6_pass_5 (fun H locs hH => ?_)
  refine tb_jbne (tgt := 14) X dX6_pass_8 (by decide) (fun _ => ?_) (fun c => (c ⟨nI_nlt (by omega) (by omega), nI_nlt (by omega) (by omega)⟩ : False).elim)
  refine lv_aload_n X.1 X.2.1 dX6_pass_14 rfl (lv_at hl 0 rfl) ?_
  refine tb_cVv X hH hl.1 (c_X6_record l g z hrc) ky_X6_record.1 ky_X6_record.2 wm_165 tb_oM rfl rfl (Nat.le_of_ble_eq_true rfl) ⟨by decide, by decide⟩ ⟨by decide, by decide⟩ dX6_pass_15 (fun H locs hH => ?_)
  refine lv_aload_n X.1 X.2.1 dX6_pass_18 rfl (lv_at hl 0 rfl) ?_
  refine lv_iload_n X.1 X.2.1 dX6_pass_19 rfl (lv_at hl 1 rfl) ?_
  refine tb_cVi X hH hl.1 (c_X6_passes l g (tb_recM z) t (by omega) hW) ky_X6_passes.1 ky_X6_passes.2 wm_439 tb_oM rfl rfl (Nat.le_of_ble_eq_true rfl) ⟨by decide, by decide⟩ ⟨by decide, by decide⟩ dX6_pass_20 (fun H locs hH => ?_)
  exact tb_ri X hr hlk hH ⟨rfl, rfl⟩ dX6_pass_23
set_option maxHeartbeats 1000000 in
set_option maxRecDepth 100000 in
theorem c_X6_wornMany (l : Launch) (g : tb_G) (z : tb_M) (sl : Nat) (hsl : sl < 2) : tb_Mi (.int) l yX6_wornMany cX6_wornMany 4 2 g z [.ref (tb_ad g 157), .int (nI sl)] (tb_wm z sl 8) (z) := by
  refine tb_goi (own := RX6) (by decide +kernel) rfl (Nat.le_of_ble_eq_true rfl) ?_
  intro p e s m below meth c ls X hr hlk hH hl
  have hl : lv_has ls 4 [(0, .ref (tb_ad g (157))), (1, .int (nI (sl)))] := hl
  refine lv_iconst (v := nI (0)) X.1 X.2.1 dX6_wornMany_0 (by decide +kernel) ?_
  refine lv_istore_n (lv' := [(2, .int (nI (0))), (0, .ref (tb_ad g (157))), (1, .int (nI (sl)))]) X.1 X.2.1 dX6_wornMany_1 rfl hl (by decide) rfl (fun ls hl => ?_)
  refine lv_iconst (v := nI (0)) X.1 X.2.1 dX6_wornMany_2 (by decide +kernel) ?_
  refine lv_istore_n (lv' := [(3, .int (nI (0))), (2, .int (nI (0))), (0, .ref (tb_ad g (157))), (1, .int (nI (sl)))]) X.1 X.2.1 dX6_wornMany_3 rfl hl (by decide) rfl (fun ls hl => ?_)
  have L_4 : ∀ (k : Nat) (i : Nat), i + k = 8 → ∀ (H : Heap) (locs : List Loc) (ls : Array Slot), tb_H g s.heap (z) H locs → lv_has ls 4 [(0, .ref (tb_ad g (157))), (1, .int (nI (sl))), (2, .int (tb_wm z sl i)), (3, .int (nI (i)))] → W p l e (tb_rm 2) s m ([.ref (tb_ad g 157), .int (nI sl)] : List Value).toArray below meth c H locs 0 0 (MQ below (va_Qi (fun r9 u9 => r9 = tb_wm z sl 8 ∧ u9 = z) (tb_B g) (tb_A g)) ([.ref (tb_ad g 157), .int (nI sl)] : List Value).toArray s 0 0 (tb_A g)) (F0 m 4 ls []) := by
    intro k
    induction k with
    | zero =>
      intro i hik H locs ls hH hl
      obtain rfl : i = 8 := by omega
      refine lv_iload_n X.1 X.2.1 dX6_wornMany_4 rfl (lv_at hl 3 rfl) ?_
      refine lv_bipush (v := nI (8)) X.1 X.2.1 dX6_wornMany_5 (by decide +kernel) ?_
      refine tb_nge (tgt := 33) X (by omega) (by omega) dX6_wornMany_7 (by decide) (fun _ => ?_) (fun c => ((by omega) : False).elim)
      refine lv_iload_n X.1 X.2.1 dX6_wornMany_33 rfl (lv_at hl 2 rfl) ?_
      exact tb_ri X hr hlk hH ⟨rfl, rfl⟩ dX6_wornMany_34
    | succ k ih_4 =>
      intro i hik H locs ls hH hl
      refine lv_iload_n X.1 X.2.1 dX6_wornMany_4 rfl (lv_at hl 3 rfl) ?_
      refine lv_bipush (v := nI (8)) X.1 X.2.1 dX6_wornMany_5 (by decide +kernel) ?_
      refine tb_nge (tgt := 33) X (by omega) (by omega) dX6_wornMany_7 (by decide) (fun c => ((by omega) : False).elim) (fun _ => ?_)
      refine lv_iload_n X.1 X.2.1 dX6_wornMany_10 rfl (lv_at hl 2 rfl) ?_
      refine lv_aload_n X.1 X.2.1 dX6_wornMany_11 rfl (lv_at hl 0 rfl) ?_
      refine lv_iload_n X.1 X.2.1 dX6_wornMany_12 rfl (lv_at hl 1 rfl) ?_
      refine lv_iload_n X.1 X.2.1 dX6_wornMany_13 rfl (lv_at hl 3 rfl) ?_
      refine tb_cVi X hH hl.1 (c_X6_isWorn l g z sl i hsl (by omega)) ky_X6_isWorn.1 ky_X6_isWorn.2 wm_225 tb_oM rfl rfl (Nat.le_of_ble_eq_true rfl) ⟨by decide, by decide⟩ ⟨by decide, by decide⟩ dX6_wornMany_14 (fun H locs hH => ?_)
      have J_1 : ∀ (H : Heap) (locs : List Loc) (ls : Array Slot) (vq1 : Int32), vq1 = (tb_b ((¬ (((z 158 ((11 + (46 * sl)) + (6 + i)))) < (z 158 2))))) → tb_H g s.heap z H locs → lv_has ls 4 [(0, .ref (tb_ad g (157))), (1, .int (nI (sl))), (2, .int (tb_wm z sl i)), (3, .int (nI (i)))] → W p l e (tb_rm 2) s m ([.ref (tb_ad g 157), .int (nI sl)] : List Value).toArray below meth c H locs 0 0 (MQ below (va_Qi (fun r9 u9 => r9 = tb_wm z sl 8 ∧ u9 = z) (tb_B g) (tb_A g)) ([.ref (tb_ad g 157), .int (nI sl)] : List Value).toArray s 0 0 (tb_A g)) (F0 m 25 ls [.int vq1, .int (tb_wm z sl i)]) := by
        intro H locs ls vq1 evq1 hH hl
        subst evq1
        refine lv_iadd X.1 X.2.1 dX6_wornMany_25 ?_
        refine lv_istore_n (lv' := [(2, .int ((tb_wm z sl i) + (tb_b ((¬ (((z 158 ((11 + (46 * sl)) + (6 + i)))) < (z 158 2))))))), (0, .ref (tb_ad g (157))), (1, .int (nI (sl))), (3, .int (nI (i)))]) X.1 X.2.1 dX6_wornMany_26 rfl hl (by decide) rfl (fun ls hl => ?_)
        refine lv_iinc (v := nI (i + 1)) (lv' := [(3, .int (nI (i + 1))), (2, .int ((tb_wm z sl i) + (tb_b ((¬ (((z 158 ((11 + (46 * sl)) + (6 + i)))) < (z 158 2))))))), (0, .ref (tb_ad g (157))), (1, .int (nI (sl)))]) X.1 X.2.1 dX6_wornMany_27 hl (k := 3) rfl (nI_add _ _) (by decide) rfl (fun ls hl => ?_)
        refine lv_goto (tgt := 4) X.1 X.2.1 dX6_wornMany_30 (by decide) ?_
        exact ih_4 (i + 1) (by omega) _ _ _ hH (lv_sub hl [2, 3, 1, 0] rfl)
      refine tb_jbeq (tgt := 24) X dX6_wornMany_17 (by decide) (fun c_1 => ?_) (fun c_1 => ?_)
      · refine lv_iconst (v := nI (0)) X.1 X.2.1 dX6_wornMany_24 (by decide +kernel) ?_
        exact J_1 _ _ _ _ (tb_b_f c_1).symm hH (lv_sub hl [0, 1, 2, 3] rfl)
      · refine lv_iconst (v := nI (1)) X.1 X.2.1 dX6_wornMany_20 (by decide +kernel) ?_
        refine lv_goto (tgt := 25) X.1 X.2.1 dX6_wornMany_21 (by decide) ?_
        exact J_1 _ _ _ _ (tb_b_t c_1).symm hH (lv_sub hl [0, 1, 2, 3] rfl)
  exact L_4 8 0 rfl _ _ _ hH (lv_sub hl [2, 3, 1, 0] rfl)
def sr_X6_slot (z : tb_M) (sl : Nat) (w : Int32) : Int32 := if w = nI 0 then ((z 158 ((11 + (46 * sl)) + 0))) else (if w = nI 1 then ((z 158 ((11 + (46 * sl)) + 1))) else (if w = nI 2 then ((z 158 ((11 + (46 * sl)) + 2))) else (if w = nI 3 then ((z 158 ((11 + (46 * sl)) + 3))) else (if w = nI 4 then ((z 158 ((11 + (46 * sl)) + 4))) else (if w = nI 5 then ((z 158 ((11 + (46 * sl)) + 5))) else (if w = nI 6 then (if ((z 158 ((11 + (46 * sl)) + 2))) = 0 then ((-6)) else ((tb_sm (sr_X6_wordOf z sl) (tb_lm z sl)))) else (if w = nI 7 then ((tb_gx (fun i => z 158 ((11 + (46 * sl)) + (6 + i))) 8)) else (if w = nI 8 then ((tb_wm z sl 8)) else ((-2))))))))))
set_option maxHeartbeats 1000000 in
set_option maxRecDepth 100000 in
theorem c_X6_slot (l : Launch) (g : tb_G) (z : tb_M) (sl : Nat) (w : Int32) (hsl : sl < 2) (hL : tb_okM z sl) : tb_Mi (.int) l yX6_slot cX6_slot 3 3 g z [.ref (tb_ad g 157), .int (nI sl), .int w] (sr_X6_slot z sl w) (z) := by
  refine tb_goi (own := RX6) (by decide +kernel) rfl (Nat.le_of_ble_eq_true rfl) ?_
  intro p e s m below meth c ls X hr hlk hH hl
  have hl : lv_has ls 3 [(0, .ref (tb_ad g (157))), (1, .int (nI (sl))), (2, .int (w))] := hl
  refine lv_iload_n X.1 X.2.1 dX6_slot_0 rfl (lv_at hl 1 rfl) ?_
  refine tb_cSi X hH hl.1 (c_X6_isSlot l g z (nI (sl))) ky_X6_isSlot.1 ky_X6_isSlot.2 wm_215 rfl rfl (Nat.le_of_ble_eq_true rfl) ⟨by decide, by decide⟩ ⟨by decide, by decide⟩ dX6_slot_1 (fun H locs hH => ?_)
  refine tb_jbne (tgt := 9) X dX6_slot_4 (by decide) (fun _ => ?_) (fun c => (c ⟨nI_nlt (by omega) (by omega), nI_nlt (by omega) (by omega)⟩ : False).elim)
  refine lv_iload_n X.1 X.2.1 dX6_slot_9 rfl (lv_at hl 2 rfl) ?_
  by_cases c_1 : w = nI 0
  · refine lv_tableIn (off := 50) (tgt := 60) X.1 X.2.1 dX6_slot_10 (by rw [c_1]; decide +kernel) (by rw [c_1]; decide +kernel) (by rw [c_1]; decide +kernel) (by decide) ?_
    refine lv_aload_n X.1 X.2.1 dX6_slot_60 rfl (lv_at hl 0 rfl) ?_
    refine lv_iload_n X.1 X.2.1 dX6_slot_61 rfl (lv_at hl 1 rfl) ?_
    refine lv_iload_n X.1 X.2.1 dX6_slot_62 rfl (lv_at hl 2 rfl) ?_
    refine tb_top (x2 := nI (0)) c_1 ?_
    refine tb_cVi X hH hl.1 (c_X6_part l g z sl 0 (by first | assumption | omega | decide)) ky_X6_part.1 ky_X6_part.2 wm_229 tb_oM rfl rfl (Nat.le_of_ble_eq_true rfl) ⟨by decide, by decide⟩ ⟨by decide, by decide⟩ dX6_slot_63 (fun H locs hH => ?_)
    exact tb_ri X hr hlk hH ⟨(by rw [sr_X6_slot]; simp only [if_pos c_1]), rfl⟩ dX6_slot_66
  · by_cases c_2 : w = nI 1
    · refine lv_tableIn (off := 50) (tgt := 60) X.1 X.2.1 dX6_slot_10 (by rw [c_2]; decide +kernel) (by rw [c_2]; decide +kernel) (by rw [c_2]; decide +kernel) (by decide) ?_
      refine lv_aload_n X.1 X.2.1 dX6_slot_60 rfl (lv_at hl 0 rfl) ?_
      refine lv_iload_n X.1 X.2.1 dX6_slot_61 rfl (lv_at hl 1 rfl) ?_
      refine lv_iload_n X.1 X.2.1 dX6_slot_62 rfl (lv_at hl 2 rfl) ?_
      refine tb_top (x2 := nI (1)) c_2 ?_
      refine tb_cVi X hH hl.1 (c_X6_part l g z sl 1 (by first | assumption | omega | decide)) ky_X6_part.1 ky_X6_part.2 wm_229 tb_oM rfl rfl (Nat.le_of_ble_eq_true rfl) ⟨by decide, by decide⟩ ⟨by decide, by decide⟩ dX6_slot_63 (fun H locs hH => ?_)
      exact tb_ri X hr hlk hH ⟨(by rw [sr_X6_slot]; simp only [if_neg c_1, if_pos c_2]), rfl⟩ dX6_slot_66
    · by_cases c_3 : w = nI 2
      · refine lv_tableIn (off := 50) (tgt := 60) X.1 X.2.1 dX6_slot_10 (by rw [c_3]; decide +kernel) (by rw [c_3]; decide +kernel) (by rw [c_3]; decide +kernel) (by decide) ?_
        refine lv_aload_n X.1 X.2.1 dX6_slot_60 rfl (lv_at hl 0 rfl) ?_
        refine lv_iload_n X.1 X.2.1 dX6_slot_61 rfl (lv_at hl 1 rfl) ?_
        refine lv_iload_n X.1 X.2.1 dX6_slot_62 rfl (lv_at hl 2 rfl) ?_
        refine tb_top (x2 := nI (2)) c_3 ?_
        refine tb_cVi X hH hl.1 (c_X6_part l g z sl 2 (by first | assumption | omega | decide)) ky_X6_part.1 ky_X6_part.2 wm_229 tb_oM rfl rfl (Nat.le_of_ble_eq_true rfl) ⟨by decide, by decide⟩ ⟨by decide, by decide⟩ dX6_slot_63 (fun H locs hH => ?_)
        exact tb_ri X hr hlk hH ⟨(by rw [sr_X6_slot]; simp only [if_neg c_1, if_neg c_2, if_pos c_3]), rfl⟩ dX6_slot_66
      · by_cases c_4 : w = nI 3
        · refine lv_tableIn (off := 50) (tgt := 60) X.1 X.2.1 dX6_slot_10 (by rw [c_4]; decide +kernel) (by rw [c_4]; decide +kernel) (by rw [c_4]; decide +kernel) (by decide) ?_
          refine lv_aload_n X.1 X.2.1 dX6_slot_60 rfl (lv_at hl 0 rfl) ?_
          refine lv_iload_n X.1 X.2.1 dX6_slot_61 rfl (lv_at hl 1 rfl) ?_
          refine lv_iload_n X.1 X.2.1 dX6_slot_62 rfl (lv_at hl 2 rfl) ?_
          refine tb_top (x2 := nI (3)) c_4 ?_
          refine tb_cVi X hH hl.1 (c_X6_part l g z sl 3 (by first | assumption | omega | decide)) ky_X6_part.1 ky_X6_part.2 wm_229 tb_oM rfl rfl (Nat.le_of_ble_eq_true rfl) ⟨by decide, by decide⟩ ⟨by decide, by decide⟩ dX6_slot_63 (fun H locs hH => ?_)
          exact tb_ri X hr hlk hH ⟨(by rw [sr_X6_slot]; simp only [if_neg c_1, if_neg c_2, if_neg c_3, if_pos c_4]), rfl⟩ dX6_slot_66
        · by_cases c_5 : w = nI 4
          · refine lv_tableIn (off := 50) (tgt := 60) X.1 X.2.1 dX6_slot_10 (by rw [c_5]; decide +kernel) (by rw [c_5]; decide +kernel) (by rw [c_5]; decide +kernel) (by decide) ?_
            refine lv_aload_n X.1 X.2.1 dX6_slot_60 rfl (lv_at hl 0 rfl) ?_
            refine lv_iload_n X.1 X.2.1 dX6_slot_61 rfl (lv_at hl 1 rfl) ?_
            refine lv_iload_n X.1 X.2.1 dX6_slot_62 rfl (lv_at hl 2 rfl) ?_
            refine tb_top (x2 := nI (4)) c_5 ?_
            refine tb_cVi X hH hl.1 (c_X6_part l g z sl 4 (by first | assumption | omega | decide)) ky_X6_part.1 ky_X6_part.2 wm_229 tb_oM rfl rfl (Nat.le_of_ble_eq_true rfl) ⟨by decide, by decide⟩ ⟨by decide, by decide⟩ dX6_slot_63 (fun H locs hH => ?_)
            exact tb_ri X hr hlk hH ⟨(by rw [sr_X6_slot]; simp only [if_neg c_1, if_neg c_2, if_neg c_3, if_neg c_4, if_pos c_5]), rfl⟩ dX6_slot_66
          · by_cases c_6 : w = nI 5
            · refine lv_tableIn (off := 50) (tgt := 60) X.1 X.2.1 dX6_slot_10 (by rw [c_6]; decide +kernel) (by rw [c_6]; decide +kernel) (by rw [c_6]; decide +kernel) (by decide) ?_
              refine lv_aload_n X.1 X.2.1 dX6_slot_60 rfl (lv_at hl 0 rfl) ?_
              refine lv_iload_n X.1 X.2.1 dX6_slot_61 rfl (lv_at hl 1 rfl) ?_
              refine lv_iload_n X.1 X.2.1 dX6_slot_62 rfl (lv_at hl 2 rfl) ?_
              refine tb_top (x2 := nI (5)) c_6 ?_
              refine tb_cVi X hH hl.1 (c_X6_part l g z sl 5 (by first | assumption | omega | decide)) ky_X6_part.1 ky_X6_part.2 wm_229 tb_oM rfl rfl (Nat.le_of_ble_eq_true rfl) ⟨by decide, by decide⟩ ⟨by decide, by decide⟩ dX6_slot_63 (fun H locs hH => ?_)
              exact tb_ri X hr hlk hH ⟨(by rw [sr_X6_slot]; simp only [if_neg c_1, if_neg c_2, if_neg c_3, if_neg c_4, if_neg c_5, if_pos c_6]), rfl⟩ dX6_slot_66
            · by_cases c_7 : w = nI 6
              · refine lv_tableIn (off := 57) (tgt := 67) X.1 X.2.1 dX6_slot_10 (by rw [c_7]; decide +kernel) (by rw [c_7]; decide +kernel) (by rw [c_7]; decide +kernel) (by decide) ?_
                refine lv_aload_n X.1 X.2.1 dX6_slot_67 rfl (lv_at hl 0 rfl) ?_
                refine lv_iload_n X.1 X.2.1 dX6_slot_68 rfl (lv_at hl 1 rfl) ?_
                refine lv_iconst (v := nI (2)) X.1 X.2.1 dX6_slot_69 (by decide +kernel) ?_
                refine tb_cVi X hH hl.1 (c_X6_part l g z sl 2 (by first | assumption | omega | decide)) ky_X6_part.1 ky_X6_part.2 wm_229 tb_oM rfl rfl (Nat.le_of_ble_eq_true rfl) ⟨by decide, by decide⟩ ⟨by decide, by decide⟩ dX6_slot_70 (fun H locs hH => ?_)
                have J_1 : ∀ (H : Heap) (locs : List Loc) (ls : Array Slot) (vq1 : Int32), vq1 = (if ((z 158 ((11 + (46 * sl)) + 2))) = 0 then ((-6)) else ((tb_sm (sr_X6_wordOf z sl) (tb_lm z sl)))) → tb_H g s.heap z H locs → lv_has ls 3 [(0, .ref (tb_ad g (157))), (1, .int (nI (sl))), (2, .int (w))] → W p l e (tb_rm 3) s m ([.ref (tb_ad g 157), .int (nI sl), .int w] : List Value).toArray below meth c H locs 0 0 (MQ below (va_Qi (fun r9 u9 => r9 = sr_X6_slot z sl w ∧ u9 = z) (tb_B g) (tb_A g)) ([.ref (tb_ad g 157), .int (nI sl), .int w] : List Value).toArray s 0 0 (tb_A g)) (F0 m 86 ls [.int vq1]) := by
                  intro H locs ls vq1 evq1 hH hl
                  subst evq1
                  exact tb_ri X hr hlk hH ⟨(by rw [sr_X6_slot]; simp only [if_neg c_1, if_neg c_2, if_neg c_3, if_neg c_4, if_neg c_5, if_neg c_6, if_pos c_7]), rfl⟩ dX6_slot_86
                refine lv_if_ne (tgt := 81) X.1 X.2.1 dX6_slot_73 (by decide) (fun c_10 => ?_) (fun c_10 => ?_)
                · refine lv_aload_n X.1 X.2.1 dX6_slot_81 rfl (lv_at hl 0 rfl) ?_
                  refine lv_iload_n X.1 X.2.1 dX6_slot_82 rfl (lv_at hl 1 rfl) ?_
                  refine tb_cVi X hH hl.1 (c_X6_sumOf l g z sl hsl hL) ky_X6_sumOf.1 ky_X6_sumOf.2 wm_326 tb_oM rfl rfl (Nat.le_of_ble_eq_true rfl) ⟨by decide, by decide⟩ ⟨by decide, by decide⟩ dX6_slot_83 (fun H locs hH => ?_)
                  exact J_1 _ _ _ _ (by simp only [if_neg c_10]) hH (lv_sub hl [0, 1, 2] rfl)
                · refine lv_bipush (v := (-6)) X.1 X.2.1 dX6_slot_76 (by decide +kernel) ?_
                  refine lv_goto (tgt := 86) X.1 X.2.1 dX6_slot_78 (by decide) ?_
                  exact J_1 _ _ _ _ (by simp only [if_pos c_10]) hH (lv_sub hl [0, 1, 2] rfl)
              · by_cases c_8 : w = nI 7
                · refine lv_tableIn (off := 77) (tgt := 87) X.1 X.2.1 dX6_slot_10 (by rw [c_8]; decide +kernel) (by rw [c_8]; decide +kernel) (by rw [c_8]; decide +kernel) (by decide) ?_
                  refine lv_aload_n X.1 X.2.1 dX6_slot_87 rfl (lv_at hl 0 rfl) ?_
                  refine lv_iload_n X.1 X.2.1 dX6_slot_88 rfl (lv_at hl 1 rfl) ?_
                  refine lv_bipush (v := nI (8)) X.1 X.2.1 dX6_slot_89 (by decide +kernel) ?_
                  refine tb_cVi X hH hl.1 (c_X6_greatestWear l g z sl 8 hsl (by decide)) ky_X6_greatestWear.1 ky_X6_greatestWear.2 wm_237 tb_oM rfl rfl (Nat.le_of_ble_eq_true rfl) ⟨by decide, by decide⟩ ⟨by decide, by decide⟩ dX6_slot_91 (fun H locs hH => ?_)
                  exact tb_ri X hr hlk hH ⟨(by rw [sr_X6_slot]; simp only [if_neg c_1, if_neg c_2, if_neg c_3, if_neg c_4, if_neg c_5, if_neg c_6, if_neg c_7, if_pos c_8]), rfl⟩ dX6_slot_94
                · by_cases c_9 : w = nI 8
                  · refine lv_tableIn (off := 85) (tgt := 95) X.1 X.2.1 dX6_slot_10 (by rw [c_9]; decide +kernel) (by rw [c_9]; decide +kernel) (by rw [c_9]; decide +kernel) (by decide) ?_
                    refine lv_aload_n X.1 X.2.1 dX6_slot_95 rfl (lv_at hl 0 rfl) ?_
                    refine lv_iload_n X.1 X.2.1 dX6_slot_96 rfl (lv_at hl 1 rfl) ?_
                    refine tb_cVi X hH hl.1 (c_X6_wornMany l g z sl hsl) ky_X6_wornMany.1 ky_X6_wornMany.2 wm_471 tb_oM rfl rfl (Nat.le_of_ble_eq_true rfl) ⟨by decide, by decide⟩ ⟨by decide, by decide⟩ dX6_slot_97 (fun H locs hH => ?_)
                    exact tb_ri X hr hlk hH ⟨(by rw [sr_X6_slot]; simp only [if_neg c_1, if_neg c_2, if_neg c_3, if_neg c_4, if_neg c_5, if_neg c_6, if_neg c_7, if_neg c_8, if_pos c_9]), rfl⟩ dX6_slot_100
                  · refine lv_tableOut (tgt := 101) X.1 X.2.1 dX6_slot_10 (tb_out8 c_1 c_2 c_3 c_4 c_5 c_6 c_7 c_8 c_9) (by decide) ?_
                    refine lv_bipush (v := (-2)) X.1 X.2.1 dX6_slot_101 (by decide +kernel) ?_
                    exact tb_ri X hr hlk hH ⟨(by rw [sr_X6_slot]; simp only [if_neg c_1, if_neg c_2, if_neg c_3, if_neg c_4, if_neg c_5, if_neg c_6, if_neg c_7, if_neg c_8, if_neg c_9]), rfl⟩ dX6_slot_103
set_option maxHeartbeats 1000000 in
set_option maxRecDepth 100000 in
theorem c_X6_word_bad (l : Launch) (g : tb_G) (z : tb_M) (x : Int32) (w : Int32) (hx : ¬ (¬ (x < nI 0) ∧ (¬ (nI 2 < x)))) : tb_Mi (.int) l yX6_word cX6_word 3 1 g z [.ref (tb_ad g 157), .int x, .int w] ((-1)) (z) := by
  refine tb_goi (own := RX6) (by decide +kernel) rfl (Nat.le_of_ble_eq_true rfl) ?_
  intro p e s m below meth c ls X hr hlk hH hl
  have hl : lv_has ls 3 [(0, .ref (tb_ad g (157))), (1, .int (x)), (2, .int (w))] := hl
  refine lv_iload_n X.1 X.2.1 dX6_word_0 rfl (lv_at hl 1 rfl) ?_
  refine lv_iconst (v := nI (0)) X.1 X.2.1 dX6_word_1 (by decide +kernel) ?_
  refine lv_iconst (v := nI (2)) X.1 X.2.1 dX6_word_2 (by decide +kernel) ?_
  refine tb_cSi X hH hl.1 (c_X6_within l g z x (nI (0)) (nI (2))) ky_X6_within.1 ky_X6_within.2 wm_162 rfl rfl (Nat.le_of_ble_eq_true rfl) ⟨by decide, by decide⟩ ⟨by decide, by decide⟩ dX6_word_3 (fun H locs hH => ?_)
  refine tb_jbeq (tgt := 28) X dX6_word_6 (by decide) (fun _ => ?_) (fun c => (hx c : False).elim)
  refine lv_iconst (v := (-1)) X.1 X.2.1 dX6_word_28 (by decide +kernel) ?_
  exact tb_ri X hr hlk hH ⟨rfl, rfl⟩ dX6_word_29
set_option maxHeartbeats 1000000 in
set_option maxRecDepth 100000 in
theorem c_X6_word_w (l : Launch) (g : tb_G) (z : tb_M) (r : Nat) (w : Int32) (hr2 : r ≤ 2) (hw : ¬ (¬ (w < nI 0) ∧ (¬ (nI 31 < w)))) : tb_Mi (.int) l yX6_word cX6_word 3 1 g z [.ref (tb_ad g 157), .int (nI r), .int w] ((-1)) (z) := by
  refine tb_goi (own := RX6) (by decide +kernel) rfl (Nat.le_of_ble_eq_true rfl) ?_
  intro p e s m below meth c ls X hr hlk hH hl
  have hl : lv_has ls 3 [(0, .ref (tb_ad g (157))), (1, .int (nI (r))), (2, .int (w))] := hl
  refine lv_iload_n X.1 X.2.1 dX6_word_0 rfl (lv_at hl 1 rfl) ?_
  refine lv_iconst (v := nI (0)) X.1 X.2.1 dX6_word_1 (by decide +kernel) ?_
  refine lv_iconst (v := nI (2)) X.1 X.2.1 dX6_word_2 (by decide +kernel) ?_
  refine tb_cSi X hH hl.1 (c_X6_within l g z (nI (r)) (nI (0)) (nI (2))) ky_X6_within.1 ky_X6_within.2 wm_162 rfl rfl (Nat.le_of_ble_eq_true rfl) ⟨by decide, by decide⟩ ⟨by decide, by decide⟩ dX6_word_3 (fun H locs hH => ?_)
  refine tb_jbeq (tgt := 28) X dX6_word_6 (by decide) (fun c => (c ⟨nI_nlt (by omega) (by omega), nI_nlt (by omega) (by omega)⟩ : False).elim) (fun _ => ?_)
  refine lv_iload_n X.1 X.2.1 dX6_word_9 rfl (lv_at hl 2 rfl) ?_
  refine lv_iconst (v := nI (0)) X.1 X.2.1 dX6_word_10 (by decide +kernel) ?_
  refine lv_bipush (v := nI (31)) X.1 X.2.1 dX6_word_11 (by decide +kernel) ?_
  refine tb_cSi X hH hl.1 (c_X6_within l g z w (nI (0)) (nI (31))) ky_X6_within.1 ky_X6_within.2 wm_162 rfl rfl (Nat.le_of_ble_eq_true rfl) ⟨by decide, by decide⟩ ⟨by decide, by decide⟩ dX6_word_13 (fun H locs hH => ?_)
  refine tb_jbeq (tgt := 28) X dX6_word_16 (by decide) (fun _ => ?_) (fun c => (hw c : False).elim)
  refine lv_iconst (v := (-1)) X.1 X.2.1 dX6_word_28 (by decide +kernel) ?_
  exact tb_ri X hr hlk hH ⟨rfl, rfl⟩ dX6_word_29
set_option maxHeartbeats 1000000 in
set_option maxRecDepth 100000 in
theorem c_X6_word (l : Launch) (g : tb_G) (z : tb_M) (r : Nat) (w : Nat) (hr2 : r ≤ 2) (hw : w < 32) : tb_Mi (.int) l yX6_word cX6_word 3 2 g z [.ref (tb_ad g 157), .int (nI r), .int (nI w)] ((sr_X6_wordOf z r w)) (z) := by
  refine tb_goi (own := RX6) (by decide +kernel) rfl (Nat.le_of_ble_eq_true rfl) ?_
  intro p e s m below meth c ls X hr hlk hH hl
  have hl : lv_has ls 3 [(0, .ref (tb_ad g (157))), (1, .int (nI (r))), (2, .int (nI (w)))] := hl
  refine lv_iload_n X.1 X.2.1 dX6_word_0 rfl (lv_at hl 1 rfl) ?_
  refine lv_iconst (v := nI (0)) X.1 X.2.1 dX6_word_1 (by decide +kernel) ?_
  refine lv_iconst (v := nI (2)) X.1 X.2.1 dX6_word_2 (by decide +kernel) ?_
  refine tb_cSi X hH hl.1 (c_X6_within l g z (nI (r)) (nI (0)) (nI (2))) ky_X6_within.1 ky_X6_within.2 wm_162 rfl rfl (Nat.le_of_ble_eq_true rfl) ⟨by decide, by decide⟩ ⟨by decide, by decide⟩ dX6_word_3 (fun H locs hH => ?_)
  refine tb_jbeq (tgt := 28) X dX6_word_6 (by decide) (fun c => (c ⟨nI_nlt (by omega) (by omega), nI_nlt (by omega) (by omega)⟩ : False).elim) (fun _ => ?_)
  refine lv_iload_n X.1 X.2.1 dX6_word_9 rfl (lv_at hl 2 rfl) ?_
  refine lv_iconst (v := nI (0)) X.1 X.2.1 dX6_word_10 (by decide +kernel) ?_
  refine lv_bipush (v := nI (31)) X.1 X.2.1 dX6_word_11 (by decide +kernel) ?_
  refine tb_cSi X hH hl.1 (c_X6_within l g z (nI (w)) (nI (0)) (nI (31))) ky_X6_within.1 ky_X6_within.2 wm_162 rfl rfl (Nat.le_of_ble_eq_true rfl) ⟨by decide, by decide⟩ ⟨by decide, by decide⟩ dX6_word_13 (fun H locs hH => ?_)
  refine tb_jbeq (tgt := 28) X dX6_word_16 (by decide) (fun c => (c ⟨nI_nlt (by omega) (by omega), nI_nlt (by omega) (by omega)⟩ : False).elim) (fun _ => ?_)
  refine lv_aload_n X.1 X.2.1 dX6_word_19 rfl (lv_at hl 0 rfl) ?_
  refine lv_iload_n X.1 X.2.1 dX6_word_20 rfl (lv_at hl 1 rfl) ?_
  refine lv_iload_n X.1 X.2.1 dX6_word_21 rfl (lv_at hl 2 rfl) ?_
  refine tb_cVi X hH hl.1 (c_X6_wordOf l g z r w hr2 hw) ky_X6_wordOf.1 ky_X6_wordOf.2 wm_330 tb_oM rfl rfl (Nat.le_of_ble_eq_true rfl) ⟨by decide, by decide⟩ ⟨by decide, by decide⟩ dX6_word_22 (fun H locs hH => ?_)
  refine lv_goto (tgt := 29) X.1 X.2.1 dX6_word_25 (by decide) ?_
  exact tb_ri X hr hlk hH ⟨rfl, rfl⟩ dX6_word_29
set_option maxHeartbeats 1000000 in
set_option maxRecDepth 100000 in
theorem c_X6_wear_w (l : Launch) (g : tb_G) (z : tb_M) (sl : Nat) (w : Int32) (hsl : sl < 2) (hw : ¬ (¬ (w < nI 0) ∧ (¬ (nI 7 < w)))) : tb_Mi (.int) l yX6_wear cX6_wear 3 2 g z [.ref (tb_ad g 157), .int (nI sl), .int w] ((-1)) (z) := by
  refine tb_goi (own := RX6) (by decide +kernel) rfl (Nat.le_of_ble_eq_true rfl) ?_
  intro p e s m below meth c ls X hr hlk hH hl
  have hl : lv_has ls 3 [(0, .ref (tb_ad g (157))), (1, .int (nI (sl))), (2, .int (w))] := hl
  refine lv_iload_n X.1 X.2.1 dX6_wear_0 rfl (lv_at hl 1 rfl) ?_
  refine tb_cSi X hH hl.1 (c_X6_isSlot l g z (nI (sl))) ky_X6_isSlot.1 ky_X6_isSlot.2 wm_215 rfl rfl (Nat.le_of_ble_eq_true rfl) ⟨by decide, by decide⟩ ⟨by decide, by decide⟩ dX6_wear_1 (fun H locs hH => ?_)
  refine tb_jbeq (tgt := 29) X dX6_wear_4 (by decide) (fun c => (c ⟨nI_nlt (by omega) (by omega), nI_nlt (by omega) (by omega)⟩ : False).elim) (fun _ => ?_)
  refine lv_iload_n X.1 X.2.1 dX6_wear_7 rfl (lv_at hl 2 rfl) ?_
  refine lv_iconst (v := nI (0)) X.1 X.2.1 dX6_wear_8 (by decide +kernel) ?_
  refine lv_bipush (v := nI (7)) X.1 X.2.1 dX6_wear_9 (by decide +kernel) ?_
  refine tb_cSi X hH hl.1 (c_X6_within l g z w (nI (0)) (nI (7))) ky_X6_within.1 ky_X6_within.2 wm_162 rfl rfl (Nat.le_of_ble_eq_true rfl) ⟨by decide, by decide⟩ ⟨by decide, by decide⟩ dX6_wear_11 (fun H locs hH => ?_)
  refine tb_jbeq (tgt := 29) X dX6_wear_14 (by decide) (fun _ => ?_) (fun c => (hw c : False).elim)
  refine lv_iconst (v := (-1)) X.1 X.2.1 dX6_wear_29 (by decide +kernel) ?_
  exact tb_ri X hr hlk hH ⟨rfl, rfl⟩ dX6_wear_30
set_option maxHeartbeats 1000000 in
set_option maxRecDepth 100000 in
theorem c_X6_wear (l : Launch) (g : tb_G) (z : tb_M) (sl : Nat) (w : Nat) (hsl : sl < 2) (hw : w < 8) : tb_Mi (.int) l yX6_wear cX6_wear 3 2 g z [.ref (tb_ad g 157), .int (nI sl), .int (nI w)] ((z 158 ((11 + (46 * sl)) + (6 + w)))) (z) := by
  refine tb_goi (own := RX6) (by decide +kernel) rfl (Nat.le_of_ble_eq_true rfl) ?_
  intro p e s m below meth c ls X hr hlk hH hl
  have hl : lv_has ls 3 [(0, .ref (tb_ad g (157))), (1, .int (nI (sl))), (2, .int (nI (w)))] := hl
  refine lv_iload_n X.1 X.2.1 dX6_wear_0 rfl (lv_at hl 1 rfl) ?_
  refine tb_cSi X hH hl.1 (c_X6_isSlot l g z (nI (sl))) ky_X6_isSlot.1 ky_X6_isSlot.2 wm_215 rfl rfl (Nat.le_of_ble_eq_true rfl) ⟨by decide, by decide⟩ ⟨by decide, by decide⟩ dX6_wear_1 (fun H locs hH => ?_)
  refine tb_jbeq (tgt := 29) X dX6_wear_4 (by decide) (fun c => (c ⟨nI_nlt (by omega) (by omega), nI_nlt (by omega) (by omega)⟩ : False).elim) (fun _ => ?_)
  refine lv_iload_n X.1 X.2.1 dX6_wear_7 rfl (lv_at hl 2 rfl) ?_
  refine lv_iconst (v := nI (0)) X.1 X.2.1 dX6_wear_8 (by decide +kernel) ?_
  refine lv_bipush (v := nI (7)) X.1 X.2.1 dX6_wear_9 (by decide +kernel) ?_
  refine tb_cSi X hH hl.1 (c_X6_within l g z (nI (w)) (nI (0)) (nI (7))) ky_X6_within.1 ky_X6_within.2 wm_162 rfl rfl (Nat.le_of_ble_eq_true rfl) ⟨by decide, by decide⟩ ⟨by decide, by decide⟩ dX6_wear_11 (fun H locs hH => ?_)
  refine tb_jbeq (tgt := 29) X dX6_wear_14 (by decide) (fun c => (c ⟨nI_nlt (by omega) (by omega), nI_nlt (by omega) (by omega)⟩ : False).elim) (fun _ => ?_)
  refine lv_aload_n X.1 X.2.1 dX6_wear_17 rfl (lv_at hl 0 rfl) ?_
  refine lv_iload_n X.1 X.2.1 dX6_wear_18 rfl (lv_at hl 1 rfl) ?_
  refine lv_bipush (v := nI (6)) X.1 X.2.1 dX6_wear_19 (by decide +kernel) ?_
  refine lv_iload_n X.1 X.2.1 dX6_wear_21 rfl (lv_at hl 2 rfl) ?_
  refine tb_iaddN X dX6_wear_22 ?_
  refine tb_cVi X hH hl.1 (c_X6_part l g z sl (6 + w) (by first | assumption | omega | decide)) ky_X6_part.1 ky_X6_part.2 wm_229 tb_oM rfl rfl (Nat.le_of_ble_eq_true rfl) ⟨by decide, by decide⟩ ⟨by decide, by decide⟩ dX6_wear_23 (fun H locs hH => ?_)
  refine lv_goto (tgt := 30) X.1 X.2.1 dX6_wear_26 (by decide) ?_
  exact tb_ri X hr hlk hH ⟨rfl, rfl⟩ dX6_wear_30
set_option maxHeartbeats 1000000 in
set_option maxRecDepth 100000 in
theorem c_X6_past_bad (l : Launch) (g : tb_G) (z : tb_M) (x : Int32) (w : Int32) (hx : ¬ (¬ (x < nI 0) ∧ (¬ (z 158 10 - nI 1 < x)))) : tb_Mi (.int) l yX6_past cX6_past 3 1 g z [.ref (tb_ad g 157), .int x, .int w] ((-1)) (z) := by
  refine tb_goi (own := RX6) (by decide +kernel) rfl (Nat.le_of_ble_eq_true rfl) ?_
  intro p e s m below meth c ls X hr hlk hH hl
  have hl : lv_has ls 3 [(0, .ref (tb_ad g (157))), (1, .int (x)), (2, .int (w))] := hl
  refine lv_iload_n X.1 X.2.1 dX6_past_0 rfl (lv_at hl 1 rfl) ?_
  refine lv_iconst (v := nI (0)) X.1 X.2.1 dX6_past_1 (by decide +kernel) ?_
  refine lv_aload_n X.1 X.2.1 dX6_past_2 rfl (lv_at hl 0 rfl) ?_
  refine tb_get X hH tb_Mc.1 (tb_Mc.2 _ _) rfl inlX6 0 (by decide) wm_99 (v := .ref (tb_ad g (158))) rfl dX6_past_3 ?_
  refine lv_bipush (v := nI (10)) X.1 X.2.1 dX6_past_6 (by decide +kernel) ?_
  refine tb_ald X hH tb_i158 (10) rfl (by decide) (by first | decide | omega) dX6_past_8 ?_
  refine lv_iconst (v := nI (1)) X.1 X.2.1 dX6_past_9 (by decide +kernel) ?_
  refine lv_isub X.1 X.2.1 dX6_past_10 ?_
  refine tb_cSi X hH hl.1 (c_X6_within l g z x (nI (0)) ((z 158 10) - (nI (1)))) ky_X6_within.1 ky_X6_within.2 wm_162 rfl rfl (Nat.le_of_ble_eq_true rfl) ⟨by decide, by decide⟩ ⟨by decide, by decide⟩ dX6_past_11 (fun H locs hH => ?_)
  refine tb_jbne (tgt := 19) X dX6_past_14 (by decide) (fun c => (hx c : False).elim) (fun _ => ?_)
  refine lv_iconst (v := (-1)) X.1 X.2.1 dX6_past_17 (by decide +kernel) ?_
  exact tb_ri X hr hlk hH ⟨rfl, rfl⟩ dX6_past_18
set_option maxHeartbeats 1000000 in
set_option maxRecDepth 100000 in
theorem c_X6_past_w (l : Launch) (g : tb_G) (z : tb_M) (b : Nat) (w : Int32) (kp : Nat) (hkp : z 158 10 = nI kp) (hkp2 : kp ≤ 12) (hb : b < kp) (hw : ¬ (¬ (w < nI 0) ∧ (¬ (nI 2 < w)))) : tb_Mi (.int) l yX6_past cX6_past 3 1 g z [.ref (tb_ad g 157), .int (nI b), .int w] ((-2)) (z) := by
  refine tb_goi (own := RX6) (by decide +kernel) rfl (Nat.le_of_ble_eq_true rfl) ?_
  intro p e s m below meth c ls X hr hlk hH hl
  have hl : lv_has ls 3 [(0, .ref (tb_ad g (157))), (1, .int (nI (b))), (2, .int (w))] := hl
  refine lv_iload_n X.1 X.2.1 dX6_past_0 rfl (lv_at hl 1 rfl) ?_
  refine lv_iconst (v := nI (0)) X.1 X.2.1 dX6_past_1 (by decide +kernel) ?_
  refine lv_aload_n X.1 X.2.1 dX6_past_2 rfl (lv_at hl 0 rfl) ?_
  refine tb_get X hH tb_Mc.1 (tb_Mc.2 _ _) rfl inlX6 0 (by decide) wm_99 (v := .ref (tb_ad g (158))) rfl dX6_past_3 ?_
  refine lv_bipush (v := nI (10)) X.1 X.2.1 dX6_past_6 (by decide +kernel) ?_
  refine tb_ald X hH tb_i158 (10) rfl (by decide) (by first | decide | omega) dX6_past_8 ?_
  refine tb_top (x2 := nI (kp)) (hkp) ?_
  refine lv_iconst (v := nI (1)) X.1 X.2.1 dX6_past_9 (by decide +kernel) ?_
  refine tb_isubN X (by omega) dX6_past_10 ?_
  refine tb_cSi X hH hl.1 (c_X6_within l g z (nI (b)) (nI (0)) (nI (kp - 1))) ky_X6_within.1 ky_X6_within.2 wm_162 rfl rfl (Nat.le_of_ble_eq_true rfl) ⟨by decide, by decide⟩ ⟨by decide, by decide⟩ dX6_past_11 (fun H locs hH => ?_)
  refine tb_jbne (tgt := 19) X dX6_past_14 (by decide) (fun _ => ?_) (fun c => (c ⟨nI_nlt (by omega) (by omega), nI_nlt (by omega) (by omega)⟩ : False).elim)
  refine lv_iload_n X.1 X.2.1 dX6_past_19 rfl (lv_at hl 2 rfl) ?_
  refine lv_iconst (v := nI (0)) X.1 X.2.1 dX6_past_20 (by decide +kernel) ?_
  refine lv_iconst (v := nI (2)) X.1 X.2.1 dX6_past_21 (by decide +kernel) ?_
  refine tb_cSi X hH hl.1 (c_X6_within l g z w (nI (0)) (nI (2))) ky_X6_within.1 ky_X6_within.2 wm_162 rfl rfl (Nat.le_of_ble_eq_true rfl) ⟨by decide, by decide⟩ ⟨by decide, by decide⟩ dX6_past_22 (fun H locs hH => ?_)
  refine tb_jbeq (tgt := 44) X dX6_past_25 (by decide) (fun _ => ?_) (fun c => (hw c : False).elim)
  refine lv_bipush (v := (-2)) X.1 X.2.1 dX6_past_44 (by decide +kernel) ?_
  exact tb_ri X hr hlk hH ⟨rfl, rfl⟩ dX6_past_46
set_option maxHeartbeats 1000000 in
set_option maxRecDepth 100000 in
theorem c_X6_past (l : Launch) (g : tb_G) (z : tb_M) (b : Nat) (w : Nat) (kp : Nat) (hkp : z 158 10 = nI kp) (hkp2 : kp ≤ 12) (hb : b < kp) (hw : w < 3) : tb_Mi (.int) l yX6_past cX6_past 3 1 g z [.ref (tb_ad g 157), .int (nI b), .int (nI w)] (z 158 ((103 + (3 * b)) + w)) (z) := by
  refine tb_goi (own := RX6) (by decide +kernel) rfl (Nat.le_of_ble_eq_true rfl) ?_
  intro p e s m below meth c ls X hr hlk hH hl
  have hl : lv_has ls 3 [(0, .ref (tb_ad g (157))), (1, .int (nI (b))), (2, .int (nI (w)))] := hl
  refine lv_iload_n X.1 X.2.1 dX6_past_0 rfl (lv_at hl 1 rfl) ?_
  refine lv_iconst (v := nI (0)) X.1 X.2.1 dX6_past_1 (by decide +kernel) ?_
  refine lv_aload_n X.1 X.2.1 dX6_past_2 rfl (lv_at hl 0 rfl) ?_
  refine tb_get X hH tb_Mc.1 (tb_Mc.2 _ _) rfl inlX6 0 (by decide) wm_99 (v := .ref (tb_ad g (158))) rfl dX6_past_3 ?_
  refine lv_bipush (v := nI (10)) X.1 X.2.1 dX6_past_6 (by decide +kernel) ?_
  refine tb_ald X hH tb_i158 (10) rfl (by decide) (by first | decide | omega) dX6_past_8 ?_
  refine tb_top (x2 := nI (kp)) (hkp) ?_
  refine lv_iconst (v := nI (1)) X.1 X.2.1 dX6_past_9 (by decide +kernel) ?_
  refine tb_isubN X (by omega) dX6_past_10 ?_
  refine tb_cSi X hH hl.1 (c_X6_within l g z (nI (b)) (nI (0)) (nI (kp - 1))) ky_X6_within.1 ky_X6_within.2 wm_162 rfl rfl (Nat.le_of_ble_eq_true rfl) ⟨by decide, by decide⟩ ⟨by decide, by decide⟩ dX6_past_11 (fun H locs hH => ?_)
  refine tb_jbne (tgt := 19) X dX6_past_14 (by decide) (fun _ => ?_) (fun c => (c ⟨nI_nlt (by omega) (by omega), nI_nlt (by omega) (by omega)⟩ : False).elim)
  refine lv_iload_n X.1 X.2.1 dX6_past_19 rfl (lv_at hl 2 rfl) ?_
  refine lv_iconst (v := nI (0)) X.1 X.2.1 dX6_past_20 (by decide +kernel) ?_
  refine lv_iconst (v := nI (2)) X.1 X.2.1 dX6_past_21 (by decide +kernel) ?_
  refine tb_cSi X hH hl.1 (c_X6_within l g z (nI (w)) (nI (0)) (nI (2))) ky_X6_within.1 ky_X6_within.2 wm_162 rfl rfl (Nat.le_of_ble_eq_true rfl) ⟨by decide, by decide⟩ ⟨by decide, by decide⟩ dX6_past_22 (fun H locs hH => ?_)
  refine tb_jbeq (tgt := 44) X dX6_past_25 (by decide) (fun c => (c ⟨nI_nlt (by omega) (by omega), nI_nlt (by omega) (by omega)⟩ : False).elim) (fun _ => ?_)
  refine lv_aload_n X.1 X.2.1 dX6_past_28 rfl (lv_at hl 0 rfl) ?_
  refine tb_get X hH tb_Mc.1 (tb_Mc.2 _ _) rfl inlX6 0 (by decide) wm_99 (v := .ref (tb_ad g (158))) rfl dX6_past_29 ?_
  refine lv_bipush (v := nI (103)) X.1 X.2.1 dX6_past_32 (by decide +kernel) ?_
  refine lv_iconst (v := nI (3)) X.1 X.2.1 dX6_past_34 (by decide +kernel) ?_
  refine lv_iload_n X.1 X.2.1 dX6_past_35 rfl (lv_at hl 1 rfl) ?_
  refine tb_imulN X dX6_past_36 ?_
  refine tb_iaddN X dX6_past_37 ?_
  refine lv_iload_n X.1 X.2.1 dX6_past_38 rfl (lv_at hl 2 rfl) ?_
  refine tb_iaddN X dX6_past_39 ?_
  refine tb_ald X hH tb_i158 ((103 + (3 * b)) + w) rfl (by omega) (by first | decide | omega) dX6_past_40 ?_
  refine lv_goto (tgt := 46) X.1 X.2.1 dX6_past_41 (by decide) ?_
  exact tb_ri X hr hlk hH ⟨rfl, rfl⟩ dX6_past_46
