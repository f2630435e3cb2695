set_option maxHeartbeats 1000000 in
set_option maxRecDepth 100000 in
theorem c_X6_moves (l : Launch) (g : tb_G) (z : tb_M) (k1 nk1 : Nat) (hk1 : tb_isI k1 nk1) (f : Nat) (k2 nk2 : Nat) (hk2 : tb_isI k2 nk2) (t : Nat) (h1 : f + 139 ≤ nk1) (h2 : t + 139 ≤ nk2) (h3 : nk1 < 1000 ∧ nk2 < 1000) : tb_Mv l yX6_moves cX6_moves 5 0 g z [.ref (tb_ad g k1), .int (nI f), .ref (tb_ad g k2), .int (nI t)] (tb_mv z k1 f k2 t 139) := by
  refine tb_gov (own := RX6) (by decide +kernel) rfl (Nat.le_of_ble_eq_true rfl) ?_
  intro p e s m below meth c ls X hr hlk hH hl
  have hl : lv_has ls 5 [(0, .ref (tb_ad g (k1))), (1, .int (nI (f))), (2, .ref (tb_ad g (k2))), (3, .int (nI (t)))] := hl
  refine lv_iconst (v := nI (0)) X.1 X.2.1 dX6_moves_0 (by decide +kernel) ?_
  refine lv_istore (lv' := [(4, .int (nI (0))), (0, .ref (tb_ad g (k1))), (1, .int (nI (f))), (2, .ref (tb_ad g (k2))), (3, .int (nI (t)))]) X.1 X.2.1 dX6_moves_1 hl (by decide) rfl (fun ls hl => ?_)
  have L_3 : ∀ (k : Nat) (i : Nat), i + k = 139 → ∀ (H : Heap) (locs : List Loc) (ls : Array Slot), tb_H g s.heap (tb_mv z k1 f k2 t i) H locs → lv_has ls 5 [(0, .ref (tb_ad g (k1))), (1, .int (nI (f))), (2, .ref (tb_ad g (k2))), (3, .int (nI (t))), (4, .int (nI (i)))] → W p l e (tb_rm 0) s m ([.ref (tb_ad g k1), .int (nI f), .ref (tb_ad g k2), .int (nI t)] : List Value).toArray below meth c H locs 0 0 (MQ below (va_Qv (fun u9 => u9 = (tb_mv z k1 f k2 t 139)) (tb_B g) (tb_A g)) ([.ref (tb_ad g k1), .int (nI f), .ref (tb_ad g k2), .int (nI t)] : List Value).toArray s 0 0 (tb_A g)) (F0 m 3 ls []) := by
    intro k
    induction k with
    | zero =>
      intro i hik H locs ls hH hl
      obtain rfl : i = 139 := by omega
      refine lv_iload X.1 X.2.1 dX6_moves_3 (lv_at hl 4 rfl) ?_
      refine lv_sipush (v := nI (139)) X.1 X.2.1 dX6_moves_5 (by decide +kernel) ?_
      refine tb_nge (tgt := 29) X (by omega) (by omega) dX6_moves_8 (by decide) (fun _ => ?_) (fun c => ((by omega) : False).elim)
      exact tb_rv X hr hlk hH rfl dX6_moves_29
    | succ k ih_3 =>
      intro i hik H locs ls hH hl
      refine lv_iload X.1 X.2.1 dX6_moves_3 (lv_at hl 4 rfl) ?_
      refine lv_sipush (v := nI (139)) X.1 X.2.1 dX6_moves_5 (by decide +kernel) ?_
      refine tb_nge (tgt := 29) X (by omega) (by omega) dX6_moves_8 (by decide) (fun c => ((by omega) : False).elim) (fun _ => ?_)
      refine lv_aload_n X.1 X.2.1 dX6_moves_11 rfl (lv_at hl 2 rfl) ?_
      refine lv_iload_n X.1 X.2.1 dX6_moves_12 rfl (lv_at hl 3 rfl) ?_
      refine lv_iload X.1 X.2.1 dX6_moves_13 (lv_at hl 4 rfl) ?_
      refine tb_iaddN X dX6_moves_15 ?_
      refine lv_aload_n X.1 X.2.1 dX6_moves_16 rfl (lv_at hl 0 rfl) ?_
      refine lv_iload_n X.1 X.2.1 dX6_moves_17 rfl (lv_at hl 1 rfl) ?_
      refine lv_iload X.1 X.2.1 dX6_moves_18 (lv_at hl 4 rfl) ?_
      refine tb_iaddN X dX6_moves_20 ?_
      refine tb_ald X hH hk1 (f + i) rfl (by omega) (by first | decide | omega) dX6_moves_21 ?_
      refine tb_ast X hH hk2 (t + i) rfl (by omega) (by first | decide | omega) dX6_moves_22 (fun H locs hH => ?_)
      refine lv_iinc (v := nI (i + 1)) (lv' := [(4, .int (nI (i + 1))), (0, .ref (tb_ad g (k1))), (1, .int (nI (f))), (2, .ref (tb_ad g (k2))), (3, .int (nI (t)))]) X.1 X.2.1 dX6_moves_23 hl (k := 4) rfl (nI_add _ _) (by decide) rfl (fun ls hl => ?_)
      refine lv_goto (tgt := 3) X.1 X.2.1 dX6_moves_26 (by decide) ?_
      exact ih_3 (i + 1) (by omega) _ _ _ hH (lv_sub hl [1, 2, 3, 4, 0] rfl)
  exact L_3 139 0 rfl _ _ _ hH (lv_sub hl [1, 2, 3, 4, 0] rfl)
set_option maxHeartbeats 1000000 in
set_option maxRecDepth 100000 in
theorem c_X6_within (l : Launch) (g : tb_G) (z : tb_M) (x : Int32) (lo : Int32) (hi : Int32) : tb_Mi (.boolean) l yX6_within cX6_within 3 0 g z [.int x, .int lo, .int hi] (tb_b (¬ (x < lo) ∧ (¬ (hi < x)))) (z) := by
  refine tb_goi (own := RX6) (by decide +kernel) rfl (Nat.le_of_ble_eq_true rfl) ?_
  intro p e s m below meth c ls X hr hlk hH hl
  have hl : lv_has ls 3 [(0, .int (x)), (1, .int (lo)), (2, .int (hi))] := hl
  refine lv_iload_n X.1 X.2.1 dX6_within_0 rfl (lv_at hl 0 rfl) ?_
  refine lv_iload_n X.1 X.2.1 dX6_within_1 rfl (lv_at hl 1 rfl) ?_
  have J_1 : ∀ (H : Heap) (locs : List Loc) (ls : Array Slot) (vq1 : Int32), vq1 = (tb_b (¬ (x < lo) ∧ (¬ (hi < x)))) → tb_H g s.heap z H locs → lv_has ls 3 [(0, .int (x)), (1, .int (lo)), (2, .int (hi))] → W p l e (tb_rm 0) s m ([.int x, .int lo, .int hi] : List Value).toArray below meth c H locs 0 0 (MQ below (va_Qi (fun r9 u9 => r9 = tb_b (¬ (x < lo) ∧ (¬ (hi < x))) ∧ u9 = z) (tb_B g) (tb_A g)) ([.int x, .int lo, .int hi] : List Value).toArray s 0 0 (tb_A g)) (F0 m 15 ls [.int vq1]) := by
    intro H locs ls vq1 evq1 hH hl
    subst evq1
    exact tb_rz X hr hlk hH ⟨(Iff.rfl).symm, rfl⟩ dX6_within_15
  refine lv_icmp_lt (tgt := 14) X.1 X.2.1 dX6_within_2 (by decide) (fun c_1 => ?_) (fun c_1 => ?_)
  · refine lv_iconst (v := nI (0)) X.1 X.2.1 dX6_within_14 (by decide +kernel) ?_
    exact J_1 _ _ _ _ (tb_b_f (fun h => h.1 c_1)).symm hH (lv_sub hl [0, 1, 2] rfl)
  · refine lv_iload_n X.1 X.2.1 dX6_within_5 rfl (lv_at hl 0 rfl) ?_
    refine lv_iload_n X.1 X.2.1 dX6_within_6 rfl (lv_at hl 2 rfl) ?_
    refine lv_icmp_gt (tgt := 14) X.1 X.2.1 dX6_within_7 (by decide) (fun c_2 => ?_) (fun c_2 => ?_)
    · refine lv_iconst (v := nI (0)) X.1 X.2.1 dX6_within_14 (by decide +kernel) ?_
      exact J_1 _ _ _ _ (tb_b_f (fun h => (fun h => h c_2) h.2)).symm hH (lv_sub hl [0, 1, 2] rfl)
    · refine lv_iconst (v := nI (1)) X.1 X.2.1 dX6_within_10 (by decide +kernel) ?_
      refine lv_goto (tgt := 15) X.1 X.2.1 dX6_within_11 (by decide) ?_
      exact J_1 _ _ _ _ (tb_b_t ⟨c_1, c_2⟩).symm hH (lv_sub hl [0, 1, 2] rfl)
set_option maxHeartbeats 1000000 in
set_option maxRecDepth 100000 in
theorem c_X6_isSlot (l : Launch) (g : tb_G) (z : tb_M) (x : Int32) : tb_Mi (.boolean) l yX6_isSlot cX6_isSlot 1 1 g z [.int x] (tb_b ((¬ (x < (nI (0))) ∧ (¬ ((nI (1)) < x))))) (z) := by
  refine tb_goi (own := RX6) (by decide +kernel) rfl (Nat.le_of_ble_eq_true rfl) ?_
  intro p e s m below meth c ls X hr hlk hH hl
  have hl : lv_has ls 1 [(0, .int (x))] := hl
  refine lv_iload_n X.1 X.2.1 dX6_isSlot_0 rfl (lv_at hl 0 rfl) ?_
  refine lv_iconst (v := nI (0)) X.1 X.2.1 dX6_isSlot_1 (by decide +kernel) ?_
  refine lv_iconst (v := nI (1)) X.1 X.2.1 dX6_isSlot_2 (by decide +kernel) ?_
  refine tb_cSi X hH hl.1 (c_X6_within l g z x (nI (0)) (nI (1))) ky_X6_within.1 ky_X6_within.2 wm_162 rfl rfl (Nat.le_of_ble_eq_true rfl) ⟨by decide, by decide⟩ ⟨by decide, by decide⟩ dX6_isSlot_3 (fun H locs hH => ?_)
  exact tb_rz X hr hlk hH ⟨(Iff.rfl).symm, rfl⟩ dX6_isSlot_6
set_option maxHeartbeats 1000000 in
set_option maxRecDepth 100000 in
theorem c_X6_pagesOf (l : Launch) (g : tb_G) (z : tb_M) (x : Nat) (hx : x < 1000) : tb_Mi (.int) l yX6_pagesOf cX6_pagesOf 1 0 g z [.int (nI x)] (nI ((x + 4 - 1) / 4)) (z) := by
  refine tb_goi (own := RX6) (by decide +kernel) rfl (Nat.le_of_ble_eq_true rfl) ?_
  intro p e s m below meth c ls X hr hlk hH hl
  have hl : lv_has ls 1 [(0, .int (nI (x)))] := hl
  refine lv_iload_n X.1 X.2.1 dX6_pagesOf_0 rfl (lv_at hl 0 rfl) ?_
  refine lv_iconst (v := nI (4)) X.1 X.2.1 dX6_pagesOf_1 (by decide +kernel) ?_
  refine tb_iaddN X dX6_pagesOf_2 ?_
  refine lv_iconst (v := nI (1)) X.1 X.2.1 dX6_pagesOf_3 (by decide +kernel) ?_
  refine tb_isubN X (by omega) dX6_pagesOf_4 ?_
  refine lv_iconst (v := nI (4)) X.1 X.2.1 dX6_pagesOf_5 (by decide +kernel) ?_
  refine lv_idiv X.1 X.2.1 dX6_pagesOf_6 (by decide +kernel) ?_
  refine tb_top (x2 := nI ((x + 4 - 1) / 4)) (pk_div (by omega) (by decide) (by decide)) ?_
  exact tb_ri X hr hlk hH ⟨rfl, rfl⟩ dX6_pagesOf_7
def sz_X6_record_full_m1 (z : tb_M)  : tb_M := tb_up (tb_sh z 695) 157 3 (nI (5))
def sz_X6_record_full_m2 (z : tb_M)  : tb_M := tb_mv (sz_X6_record_full_m1 z) 158 0 160 695 139
def sz_X6_record_full (z : tb_M)  : tb_M := tb_up (sz_X6_record_full_m2 z) 157 3 (((sz_X6_record_full_m2 z) 157 3) + (nI (1)))
set_option maxHeartbeats 1000000 in
set_option maxRecDepth 100000 in
theorem c_X6_record_full (l : Launch) (g : tb_G) (z : tb_M) (hrc : z 157 3 = nI 6) : tb_Mv l yX6_record cX6_record 2 1 g z [.ref (tb_ad g 157)] (sz_X6_record_full z ) := by
  refine tb_gov (own := RX6) (by decide +kernel) rfl (Nat.le_of_ble_eq_true rfl) ?_
  intro p e s m below meth c ls X hr hlk hH hl
  have hl : lv_has ls 2 [(0, .ref (tb_ad g (157)))] := hl
  refine lv_aload_n X.1 X.2.1 dX6_record_0 rfl (lv_at hl 0 rfl) ?_
  refine tb_get X hH tb_Mc.1 (tb_Mc.2 _ _) rfl inlX6 3 (by decide) wm_169 (v := .int (z 157 3)) rfl dX6_record_1 ?_
  refine tb_top (x2 := nI (6)) (hrc) ?_
  refine lv_bipush (v := nI (6)) X.1 X.2.1 dX6_record_4 (by decide +kernel) ?_
  refine tb_nne (tgt := 50) X (by omega) (by omega) dX6_record_6 (by decide) (fun c => ((by omega) : False).elim) (fun _ => ?_)
  refine lv_iconst (v := nI (0)) X.1 X.2.1 dX6_record_9 (by decide +kernel) ?_
  refine lv_istore_n (lv' := [(1, .int (nI (0))), (0, .ref (tb_ad g (157)))]) X.1 X.2.1 dX6_record_10 rfl hl (by decide) rfl (fun ls hl => ?_)
  have L_11 : ∀ (k : Nat) (i : Nat), i + k = 695 → ∀ (H : Heap) (locs : List Loc) (ls : Array Slot), tb_H g s.heap (tb_sh z i) H locs → lv_has ls 2 [(0, .ref (tb_ad g (157))), (1, .int (nI (i)))] → W p l e (tb_rm 1) s m ([.ref (tb_ad g 157)] : List Value).toArray below meth c H locs 0 0 (MQ below (va_Qv (fun u9 => u9 = (sz_X6_record_full z )) (tb_B g) (tb_A g)) ([.ref (tb_ad g 157)] : List Value).toArray s 0 0 (tb_A g)) (F0 m 11 ls []) := by
    intro k
    induction k with
    | zero =>
      intro i hik H locs ls hH hl
      obtain rfl : i = 695 := by omega
      refine lv_iload_n X.1 X.2.1 dX6_record_11 rfl (lv_at hl 1 rfl) ?_
      refine lv_sipush (v := nI (695)) X.1 X.2.1 dX6_record_12 (by decide +kernel) ?_
      refine tb_nge (tgt := 40) X (by omega) (by omega) dX6_record_15 (by decide) (fun _ => ?_) (fun c => ((by omega) : False).elim)
      refine lv_aload_n X.1 X.2.1 dX6_record_40 rfl (lv_at hl 0 rfl) ?_
      refine lv_dup X.1 X.2.1 dX6_record_41 rfl ?_
      refine tb_get X hH tb_Mc.1 (tb_Mc.2 _ _) rfl inlX6 3 (by decide) wm_169 (v := .int ((tb_sh z 695) 157 3)) rfl dX6_record_42 ?_
      refine tb_top (x2 := nI (6)) (by rw [tb_sh_k _ (by decide)]; exact hrc) ?_
      refine lv_iconst (v := nI (1)) X.1 X.2.1 dX6_record_45 (by decide +kernel) ?_
      refine tb_isubN X (by decide) dX6_record_46 ?_
      refine tb_top (x2 := nI 5) rfl ?_
      refine tb_putM X hH 3 (by decide) wm_169 dX6_record_47 (fun H locs hH => ?_)
      have hH : tb_H g s.heap (sz_X6_record_full_m1 z) H locs := hH
      refine lv_aload_n X.1 X.2.1 dX6_record_50 rfl (lv_at hl 0 rfl) ?_
      refine tb_get X hH tb_Mc.1 (tb_Mc.2 _ _) rfl inlX6 0 (by decide) wm_99 (v := .ref (tb_ad g (158))) rfl dX6_record_51 ?_
      refine lv_iconst (v := nI (0)) X.1 X.2.1 dX6_record_54 (by decide +kernel) ?_
      refine lv_aload_n X.1 X.2.1 dX6_record_55 rfl (lv_at hl 0 rfl) ?_
      refine tb_get X hH tb_Mc.1 (tb_Mc.2 _ _) rfl inlX6 2 (by decide) wm_101 (v := .ref (tb_ad g (160))) rfl dX6_record_56 ?_
      refine lv_aload_n X.1 X.2.1 dX6_record_59 rfl (lv_at hl 0 rfl) ?_
      refine tb_get X hH tb_Mc.1 (tb_Mc.2 _ _) rfl inlX6 3 (by decide) wm_169 (v := .int ((sz_X6_record_full_m1 z) 157 3)) rfl dX6_record_60 ?_
      refine tb_top (x2 := nI (5)) (tb_up_s _ _ _ _) ?_
      refine lv_sipush (v := nI (139)) X.1 X.2.1 dX6_record_63 (by decide +kernel) ?_
      refine tb_imulN X dX6_record_66 ?_
      refine tb_top (x2 := nI 695) rfl ?_
      refine tb_cSv X hH hl.1 (c_X6_moves l g (sz_X6_record_full_m1 z) 158 139 tb_i158 0 160 834 tb_i160 695 (by omega) (by omega) ⟨by decide, by decide⟩) ky_X6_moves.1 ky_X6_moves.2 wm_170 rfl rfl (Nat.le_of_ble_eq_true rfl) ⟨by decide, by decide⟩ ⟨by decide, by decide⟩ dX6_record_67 (fun H locs hH => ?_)
      have hH : tb_H g s.heap (sz_X6_record_full_m2 z) H locs := hH
      refine lv_aload_n X.1 X.2.1 dX6_record_70 rfl (lv_at hl 0 rfl) ?_
      refine lv_dup X.1 X.2.1 dX6_record_71 rfl ?_
      refine tb_get X hH tb_Mc.1 (tb_Mc.2 _ _) rfl inlX6 3 (by decide) wm_169 (v := .int ((sz_X6_record_full_m2 z) 157 3)) rfl dX6_record_72 ?_
      refine lv_iconst (v := nI (1)) X.1 X.2.1 dX6_record_75 (by decide +kernel) ?_
      refine lv_iadd X.1 X.2.1 dX6_record_76 ?_
      refine tb_putM X hH 3 (by decide) wm_169 dX6_record_77 (fun H locs hH => ?_)
      exact tb_rv X hr hlk hH (by rw [sz_X6_record_full]) dX6_record_80
    | succ k ih_11 =>
      intro i hik H locs ls hH hl
      refine lv_iload_n X.1 X.2.1 dX6_record_11 rfl (lv_at hl 1 rfl) ?_
      refine lv_sipush (v := nI (695)) X.1 X.2.1 dX6_record_12 (by decide +kernel) ?_
      refine tb_nge (tgt := 40) X (by omega) (by omega) dX6_record_15 (by decide) (fun c => ((by omega) : False).elim) (fun _ => ?_)
      refine lv_aload_n X.1 X.2.1 dX6_record_18 rfl (lv_at hl 0 rfl) ?_
      refine tb_get X hH tb_Mc.1 (tb_Mc.2 _ _) rfl inlX6 2 (by decide) wm_101 (v := .ref (tb_ad g (160))) rfl dX6_record_19 ?_
      refine lv_iload_n X.1 X.2.1 dX6_record_22 rfl (lv_at hl 1 rfl) ?_
      refine lv_aload_n X.1 X.2.1 dX6_record_23 rfl (lv_at hl 0 rfl) ?_
      refine tb_get X hH tb_Mc.1 (tb_Mc.2 _ _) rfl inlX6 2 (by decide) wm_101 (v := .ref (tb_ad g (160))) rfl dX6_record_24 ?_
      refine lv_iload_n X.1 X.2.1 dX6_record_27 rfl (lv_at hl 1 rfl) ?_
      refine lv_sipush (v := nI (139)) X.1 X.2.1 dX6_record_28 (by decide +kernel) ?_
      refine tb_iaddN X dX6_record_31 ?_
      refine tb_ald X hH tb_i160 (i + 139) rfl (by omega) (by first | decide | omega) dX6_record_32 ?_
      refine tb_ast X hH tb_i160 (i) rfl (by omega) (by first | decide | omega) dX6_record_33 (fun H locs hH => ?_)
      refine lv_iinc (v := nI (i + 1)) (lv' := [(1, .int (nI (i + 1))), (0, .ref (tb_ad g (157)))]) X.1 X.2.1 dX6_record_34 hl (k := 1) rfl (nI_add _ _) (by decide) rfl (fun ls hl => ?_)
      refine lv_goto (tgt := 11) X.1 X.2.1 dX6_record_37 (by decide) ?_
      exact ih_11 (i + 1) (by omega) _ _ _ hH (lv_sub hl [1, 0] rfl)
  exact L_11 695 0 rfl _ _ _ hH (lv_sub hl [1, 0] rfl)
def sz_X6_record_n_m1 (z : tb_M) (rc : Nat) : tb_M := tb_mv z 158 0 160 (rc * 139) 139
def sz_X6_record_n (z : tb_M) (rc : Nat) : tb_M := tb_up (sz_X6_record_n_m1 z rc) 157 3 (((sz_X6_record_n_m1 z rc) 157 3) + (nI (1)))
set_option maxHeartbeats 1000000 in
set_option maxRecDepth 100000 in
theorem c_X6_record_n (l : Launch) (g : tb_G) (z : tb_M) (rc : Nat) (hrc : z 157 3 = nI rc) (hrc2 : rc < 6) : tb_Mv l yX6_record cX6_record 2 1 g z [.ref (tb_ad g 157)] (sz_X6_record_n z rc) := by
  refine tb_gov (own := RX6) (by decide +kernel) rfl (Nat.le_of_ble_eq_true rfl) ?_
  intro p e s m below meth c ls X hr hlk hH hl
  have hl : lv_has ls 2 [(0, .ref (tb_ad g (157)))] := hl
  refine lv_aload_n X.1 X.2.1 dX6_record_0 rfl (lv_at hl 0 rfl) ?_
  refine tb_get X hH tb_Mc.1 (tb_Mc.2 _ _) rfl inlX6 3 (by decide) wm_169 (v := .int (z 157 3)) rfl dX6_record_1 ?_
  refine tb_top (x2 := nI (rc)) (hrc) ?_
  refine lv_bipush (v := nI (6)) X.1 X.2.1 dX6_record_4 (by decide +kernel) ?_
  refine tb_nne (tgt := 50) X (by omega) (by omega) dX6_record_6 (by decide) (fun _ => ?_) (fun c => ((by omega) : False).elim)
  refine lv_aload_n X.1 X.2.1 dX6_record_50 rfl (lv_at hl 0 rfl) ?_
  refine tb_get X hH tb_Mc.1 (tb_Mc.2 _ _) rfl inlX6 0 (by decide) wm_99 (v := .ref (tb_ad g (158))) rfl dX6_record_51 ?_
  refine lv_iconst (v := nI (0)) X.1 X.2.1 dX6_record_54 (by decide +kernel) ?_
  refine lv_aload_n X.1 X.2.1 dX6_record_55 rfl (lv_at hl 0 rfl) ?_
  refine tb_get X hH tb_Mc.1 (tb_Mc.2 _ _) rfl inlX6 2 (by decide) wm_101 (v := .ref (tb_ad g (160))) rfl dX6_record_56 ?_
  refine lv_aload_n X.1 X.2.1 dX6_record_59 rfl (lv_at hl 0 rfl) ?_
  refine tb_get X hH tb_Mc.1 (tb_Mc.2 _ _) rfl inlX6 3 (by decide) wm_169 (v := .int (z 157 3)) rfl dX6_record_60 ?_
  refine tb_top (x2 := nI (rc)) (hrc) ?_
  refine lv_sipush (v := nI (139)) X.1 X.2.1 dX6_record_63 (by decide +kernel) ?_
  refine tb_imulN X dX6_record_66 ?_
  refine tb_cSv X hH hl.1 (c_X6_moves l g z 158 139 tb_i158 0 160 834 tb_i160 (rc * 139) (by omega) (by omega) ⟨by decide, by decide⟩) ky_X6_moves.1 ky_X6_moves.2 wm_170 rfl rfl (Nat.le_of_ble_eq_true rfl) ⟨by decide, by decide⟩ ⟨by decide, by decide⟩ dX6_record_67 (fun H locs hH => ?_)
  have hH : tb_H g s.heap (sz_X6_record_n_m1 z rc) H locs := hH
  refine lv_aload_n X.1 X.2.1 dX6_record_70 rfl (lv_at hl 0 rfl) ?_
  refine lv_dup X.1 X.2.1 dX6_record_71 rfl ?_
  refine tb_get X hH tb_Mc.1 (tb_Mc.2 _ _) rfl inlX6 3 (by decide) wm_169 (v := .int ((sz_X6_record_n_m1 z rc) 157 3)) rfl dX6_record_72 ?_
  refine lv_iconst (v := nI (1)) X.1 X.2.1 dX6_record_75 (by decide +kernel) ?_
  refine lv_iadd X.1 X.2.1 dX6_record_76 ?_
  refine tb_putM X hH 3 (by decide) wm_169 dX6_record_77 (fun H locs hH => ?_)
  exact tb_rv X hr hlk hH (by rw [sz_X6_record_n]) dX6_record_80
def tb_rcM (z : tb_M) : Nat := (z 157 3).toNatClampNeg
def tb_okRM (z : tb_M) : Prop := z 157 3 = nI (tb_rcM z) ∧ tb_rcM z ≤ 6
def tb_recM (z : tb_M) : tb_M := if tb_rcM z = 6 then sz_X6_record_full z else sz_X6_record_n z (tb_rcM z)
theorem c_X6_record (l : Launch) (g : tb_G) (z : tb_M) (hrc : tb_okRM z) : tb_Mv l yX6_record cX6_record 2 1 g z [.ref (tb_ad g 157)] (tb_recM z) := by
  unfold tb_recM
  by_cases h : tb_rcM z = 6
  · rw [if_pos h]
    exact c_X6_record_full l g z (by rw [← h]; exact hrc.1)
  · rw [if_neg h]
    exact c_X6_record_n l g z (tb_rcM z) hrc.1 (by have := hrc.2; omega)
theorem tb_recM_k (z : tb_M) {k : Nat} (h : k ≠ 157 ∧ k ≠ 160) : tb_recM z k = z k := by
  unfold tb_recM
  split
  · unfold sz_X6_record_full sz_X6_record_full_m2 sz_X6_record_full_m1
    rw [tb_up_k _ _ _ h.1, tb_mv_k _ h.2, tb_up_k _ _ _ h.1, tb_sh_k _ h.2]
  · unfold sz_X6_record_n sz_X6_record_n_m1
    rw [tb_up_k _ _ _ h.1, tb_mv_k _ h.2]
theorem tb_recM_7 (z : tb_M) : tb_recM z 157 7 = z 157 7 := by
  unfold tb_recM
  split
  · unfold sz_X6_record_full sz_X6_record_full_m2 sz_X6_record_full_m1
    rw [tb_up_j _ _ _ (by decide), tb_mv_k _ (by decide), tb_up_j _ _ _ (by decide), tb_sh_k _ (by decide)]
  · unfold sz_X6_record_n sz_X6_record_n_m1
    rw [tb_up_j _ _ _ (by decide), tb_mv_k _ (by decide)]
set_option maxHeartbeats 1000000 in
set_option maxRecDepth 100000 in
theorem c_X6_part (l : Launch) (g : tb_G) (z : tb_M) (sl : Nat) (q : Nat) (hq : 11 + 46 * sl + q < 139) : tb_Mi (.int) l yX6_part cX6_part 3 0 g z [.ref (tb_ad g 157), .int (nI sl), .int (nI q)] (z 158 ((11 + (46 * sl)) + q)) (z) := by
  refine tb_goi (own := RX6) (by decide +kernel) rfl (Nat.le_of_ble_eq_true rfl) ?_
  intro p e s m below meth c ls X hr hlk hH hl
  have hl : lv_has ls 3 [(0, .ref (tb_ad g (157))), (1, .int (nI (sl))), (2, .int (nI (q)))] := hl
  refine lv_aload_n X.1 X.2.1 dX6_part_0 rfl (lv_at hl 0 rfl) ?_
  refine tb_get X hH tb_Mc.1 (tb_Mc.2 _ _) rfl inlX6 0 (by decide) wm_99 (v := .ref (tb_ad g (158))) rfl dX6_part_1 ?_
  refine lv_bipush (v := nI (11)) X.1 X.2.1 dX6_part_4 (by decide +kernel) ?_
  refine lv_bipush (v := nI (46)) X.1 X.2.1 dX6_part_6 (by decide +kernel) ?_
  refine lv_iload_n X.1 X.2.1 dX6_part_8 rfl (lv_at hl 1 rfl) ?_
  refine tb_imulN X dX6_part_9 ?_
  refine tb_iaddN X dX6_part_10 ?_
  refine lv_iload_n X.1 X.2.1 dX6_part_11 rfl (lv_at hl 2 rfl) ?_
  refine tb_iaddN X dX6_part_12 ?_
  refine tb_ald X hH tb_i158 ((11 + (46 * sl)) + q) rfl (by omega) (by first | decide | omega) dX6_part_13 ?_
  exact tb_ri X hr hlk hH ⟨rfl, rfl⟩ dX6_part_14
set_option maxHeartbeats 1000000 in
set_option maxRecDepth 100000 in
theorem c_X6_setPart (l : Launch) (g : tb_G) (z : tb_M) (sl : Nat) (q : Nat) (v : Int32) (hq : 11 + 46 * sl + q < 139) : tb_Mv l yX6_setPart cX6_setPart 4 0 g z [.ref (tb_ad g 157), .int (nI sl), .int (nI q), .int v] (tb_up z 158 ((11 + (46 * sl)) + q) v) := by
  refine tb_gov (own := RX6) (by decide +kernel) rfl (Nat.le_of_ble_eq_true rfl) ?_
  intro p e s m below meth c ls X hr hlk hH hl
  have hl : lv_has ls 4 [(0, .ref (tb_ad g (157))), (1, .int (nI (sl))), (2, .int (nI (q))), (3, .int (v))] := hl
  refine lv_aload_n X.1 X.2.1 dX6_setPart_0 rfl (lv_at hl 0 rfl) ?_
  refine tb_get X hH tb_Mc.1 (tb_Mc.2 _ _) rfl inlX6 0 (by decide) wm_99 (v := .ref (tb_ad g (158))) rfl dX6_setPart_1 ?_
  refine lv_bipush (v := nI (11)) X.1 X.2.1 dX6_setPart_4 (by decide +kernel) ?_
  refine lv_bipush (v := nI (46)) X.1 X.2.1 dX6_setPart_6 (by decide +kernel) ?_
  refine lv_iload_n X.1 X.2.1 dX6_setPart_8 rfl (lv_at hl 1 rfl) ?_
  refine tb_imulN X dX6_setPart_9 ?_
  refine tb_iaddN X dX6_setPart_10 ?_
  refine lv_iload_n X.1 X.2.1 dX6_setPart_11 rfl (lv_at hl 2 rfl) ?_
  refine tb_iaddN X dX6_setPart_12 ?_
  refine lv_iload_n X.1 X.2.1 dX6_setPart_13 rfl (lv_at hl 3 rfl) ?_
  refine tb_ast X hH tb_i158 ((11 + (46 * sl)) + q) rfl (by omega) (by first | decide | omega) dX6_setPart_14 (fun H locs hH => ?_)
  exact tb_rv X hr hlk hH rfl dX6_setPart_15
set_option maxHeartbeats 1000000 in
set_option maxRecDepth 100000 in
theorem c_X6_isHow (l : Launch) (g : tb_G) (z : tb_M) (sl : Nat) (x : Int32) (hsl : sl < 2) : tb_Mi (.boolean) l yX6_isHow cX6_isHow 3 1 g z [.ref (tb_ad g 157), .int (nI sl), .int x] (tb_b (((z 158 ((11 + (46 * sl)) + 0))) = x)) (z) := by
  refine tb_goi (own := RX6) (by decide +kernel) rfl (Nat.le_of_ble_eq_true rfl) ?_
  intro p e s m below meth c ls X hr hlk hH hl
  have hl : lv_has ls 3 [(0, .ref (tb_ad g (157))), (1, .int (nI (sl))), (2, .int (x))] := hl
  refine lv_aload_n X.1 X.2.1 dX6_isHow_0 rfl (lv_at hl 0 rfl) ?_
  refine lv_iload_n X.1 X.2.1 dX6_isHow_1 rfl (lv_at hl 1 rfl) ?_
  refine lv_iconst (v := nI (0)) X.1 X.2.1 dX6_isHow_2 (by decide +kernel) ?_
  refine tb_cVi X hH hl.1 (c_X6_part l g z sl 0 (by first | assumption | omega | decide)) ky_X6_part.1 ky_X6_part.2 wm_229 tb_oM rfl rfl (Nat.le_of_ble_eq_true rfl) ⟨by decide, by decide⟩ ⟨by decide, by decide⟩ dX6_isHow_3 (fun H locs hH => ?_)
  refine lv_iload_n X.1 X.2.1 dX6_isHow_6 rfl (lv_at hl 2 rfl) ?_
  have J_1 : ∀ (H : Heap) (locs : List Loc) (ls : Array Slot) (vq1 : Int32), vq1 = (tb_b (((z 158 ((11 + (46 * sl)) + 0))) = x)) → tb_H g s.heap z H locs → lv_has ls 3 [(0, .ref (tb_ad g (157))), (1, .int (nI (sl))), (2, .int (x))] → W p l e (tb_rm 1) s m ([.ref (tb_ad g 157), .int (nI sl), .int x] : List Value).toArray below meth c H locs 0 0 (MQ below (va_Qi (fun r9 u9 => r9 = tb_b (((z 158 ((11 + (46 * sl)) + 0))) = x) ∧ u9 = z) (tb_B g) (tb_A g)) ([.ref (tb_ad g 157), .int (nI sl), .int x] : List Value).toArray s 0 0 (tb_A g)) (F0 m 15 ls [.int vq1]) := by
    intro H locs ls vq1 evq1 hH hl
    subst evq1
    exact tb_rz X hr hlk hH ⟨(Iff.rfl).symm, rfl⟩ dX6_isHow_15
  refine lv_icmp_ne (tgt := 14) X.1 X.2.1 dX6_isHow_7 (by decide) (fun c_1 => ?_) (fun c_1 => ?_)
  · refine lv_iconst (v := nI (0)) X.1 X.2.1 dX6_isHow_14 (by decide +kernel) ?_
    exact J_1 _ _ _ _ (tb_b_f c_1).symm hH (lv_sub hl [0, 1, 2] rfl)
  · refine lv_iconst (v := nI (1)) X.1 X.2.1 dX6_isHow_10 (by decide +kernel) ?_
    refine lv_goto (tgt := 15) X.1 X.2.1 dX6_isHow_11 (by decide) ?_
    exact J_1 _ _ _ _ (tb_b_t c_1).symm hH (lv_sub hl [0, 1, 2] rfl)
def sr_X6_wordOf (z : tb_M) (r : Nat) (w : Nat) : Int32 := if r = 2 then (if 2 ≤ w then (nI (255)) else (nI (0))) else ((z 158 ((11 + (46 * r)) + (14 + w))))
set_option maxHeartbeats 1000000 in
set_option maxRecDepth 100000 in
theorem c_X6_wordOf (l : Launch) (g : tb_G) (z : tb_M) (r : Nat) (w : Nat) (hr2 : r ≤ 2) (hw : w < 32) : tb_Mi (.int) l yX6_wordOf cX6_wordOf 3 1 g z [.ref (tb_ad g 157), .int (nI r), .int (nI w)] (sr_X6_wordOf z r w) (z) := by
  refine tb_goi (own := RX6) (by decide +kernel) rfl (Nat.le_of_ble_eq_true rfl) ?_
  intro p e s m below meth c ls X hr hlk hH hl
  have hl : lv_has ls 3 [(0, .ref (tb_ad g (157))), (1, .int (nI (r))), (2, .int (nI (w)))] := hl
  refine lv_iload_n X.1 X.2.1 dX6_wordOf_0 rfl (lv_at hl 1 rfl) ?_
  refine lv_iconst (v := nI (2)) X.1 X.2.1 dX6_wordOf_1 (by decide +kernel) ?_
  have J_1 : ∀ (H : Heap) (locs : List Loc) (ls : Array Slot) (vq1 : Int32), vq1 = (if r = 2 then (if 2 ≤ w then (nI (255)) else (nI (0))) else ((z 158 ((11 + (46 * r)) + (14 + w))))) → tb_H g s.heap z H locs → lv_has ls 3 [(0, .ref (tb_ad g (157))), (1, .int (nI (r))), (2, .int (nI (w)))] → W p l e (tb_rm 1) s m ([.ref (tb_ad g 157), .int (nI r), .int (nI w)] : List Value).toArray below meth c H locs 0 0 (MQ below (va_Qi (fun r9 u9 => r9 = sr_X6_wordOf z r w ∧ u9 = z) (tb_B g) (tb_A g)) ([.ref (tb_ad g 157), .int (nI r), .int (nI w)] : List Value).toArray s 0 0 (tb_A g)) (F0 m 29 ls [.int vq1]) := by
    intro H locs ls vq1 evq1 hH hl
    subst evq1
    exact tb_ri X hr hlk hH ⟨(by rw [sr_X6_wordOf]), rfl⟩ dX6_wordOf_29
  refine tb_neq (tgt := 17) X (by omega) (by omega) dX6_wordOf_2 (by decide) (fun c_1 => ?_) (fun c_1 => ?_)
  · refine lv_iload_n X.1 X.2.1 dX6_wordOf_17 rfl (lv_at hl 2 rfl) ?_
    refine lv_iconst (v := nI (2)) X.1 X.2.1 dX6_wordOf_18 (by decide +kernel) ?_
    refine tb_nge (tgt := 26) X (by omega) (by omega) dX6_wordOf_19 (by decide) (fun c_2 => ?_) (fun c_2 => ?_)
    · refine lv_sipush (v := nI (255)) X.1 X.2.1 dX6_wordOf_26 (by decide +kernel) ?_
      exact J_1 _ _ _ _ (by simp only [if_pos c_1, if_pos c_2]) hH (lv_sub hl [0, 1, 2] rfl)
    · refine lv_iconst (v := nI (0)) X.1 X.2.1 dX6_wordOf_22 (by decide +kernel) ?_
      refine lv_goto (tgt := 29) X.1 X.2.1 dX6_wordOf_23 (by decide) ?_
      exact J_1 _ _ _ _ (by simp only [if_pos c_1, if_neg c_2]) hH (lv_sub hl [0, 1, 2] rfl)
  · refine lv_aload_n X.1 X.2.1 dX6_wordOf_5 rfl (lv_at hl 0 rfl) ?_
    refine lv_iload_n X.1 X.2.1 dX6_wordOf_6 rfl (lv_at hl 1 rfl) ?_
    refine lv_bipush (v := nI (14)) X.1 X.2.1 dX6_wordOf_7 (by decide +kernel) ?_
    refine lv_iload_n X.1 X.2.1 dX6_wordOf_9 rfl (lv_at hl 2 rfl) ?_
    refine tb_iaddN X dX6_wordOf_10 ?_
    refine tb_cVi X hH hl.1 (c_X6_part l g z r (14 + w) (by first | assumption | omega | decide)) ky_X6_part.1 ky_X6_part.2 wm_229 tb_oM rfl rfl (Nat.le_of_ble_eq_true rfl) ⟨by decide, by decide⟩ ⟨by decide, by decide⟩ dX6_wordOf_11 (fun H locs hH => ?_)
    refine lv_goto (tgt := 29) X.1 X.2.1 dX6_wordOf_14 (by decide) ?_
    exact J_1 _ _ _ _ (by simp only [if_neg c_1]) hH (lv_sub hl [0, 1, 2] rfl)
set_option maxHeartbeats 1000000 in
set_option maxRecDepth 100000 in
theorem c_X6_sumOf (l : Launch) (g : tb_G) (z : tb_M) (sl : Nat) (hsl : sl < 2) (hL : tb_okM z sl) : tb_Mi (.int) l yX6_sumOf cX6_sumOf 5 2 g z [.ref (tb_ad g 157), .int (nI sl)] (tb_sm (sr_X6_wordOf z sl) (tb_lm z sl)) (z) := by
  refine tb_goi (own := RX6) (by decide +kernel) rfl (Nat.le_of_ble_eq_true rfl) ?_
  intro p e s m below meth c ls X hr hlk hH hl
  have hl : lv_has ls 5 [(0, .ref (tb_ad g (157))), (1, .int (nI (sl)))] := hl
  have hL2 := hL.2
  refine lv_iload_n X.1 X.2.1 dX6_sumOf_0 rfl (lv_at hl 1 rfl) ?_
  refine lv_iconst (v := nI (2)) X.1 X.2.1 dX6_sumOf_1 (by decide +kernel) ?_
  refine tb_nne (tgt := 9) X (by omega) (by omega) dX6_sumOf_2 (by decide) (fun _ => ?_) (fun c => ((by omega) : False).elim)
  refine lv_aload_n X.1 X.2.1 dX6_sumOf_9 rfl (lv_at hl 0 rfl) ?_
  refine lv_iload_n X.1 X.2.1 dX6_sumOf_10 rfl (lv_at hl 1 rfl) ?_
  refine lv_iconst (v := nI (2)) X.1 X.2.1 dX6_sumOf_11 (by decide +kernel) ?_
  refine tb_cVi X hH hl.1 (c_X6_part l g z sl 2 (by first | assumption | omega | decide)) ky_X6_part.1 ky_X6_part.2 wm_229 tb_oM rfl rfl (Nat.le_of_ble_eq_true rfl) ⟨by decide, by decide⟩ ⟨by decide, by decide⟩ dX6_sumOf_12 (fun H locs hH => ?_)
  refine tb_top (x2 := nI (tb_lm z sl)) (hL.1) ?_
  refine lv_istore_n (lv' := [(2, .int (nI (tb_lm z sl))), (0, .ref (tb_ad g (157))), (1, .int (nI (sl)))]) X.1 X.2.1 dX6_sumOf_15 rfl hl (by decide) rfl (fun ls hl => ?_)
  refine lv_iconst (v := nI (1)) X.1 X.2.1 dX6_sumOf_16 (by decide +kernel) ?_
  refine lv_istore_n (lv' := [(3, .int (nI (1))), (2, .int (nI (tb_lm z sl))), (0, .ref (tb_ad g (157))), (1, .int (nI (sl)))]) X.1 X.2.1 dX6_sumOf_17 rfl hl (by decide) rfl (fun ls hl => ?_)
  refine lv_iconst (v := nI (0)) X.1 X.2.1 dX6_sumOf_18 (by decide +kernel) ?_
  refine lv_istore (lv' := [(4, .int (nI (0))), (3, .int (nI (1))), (2, .int (nI (tb_lm z sl))), (0, .ref (tb_ad g (157))), (1, .int (nI (sl)))]) X.1 X.2.1 dX6_sumOf_19 hl (by decide) rfl (fun ls hl => ?_)
  have L_21 : ∀ (k : Nat) (i : Nat), i + k = tb_lm z sl → ∀ (H : Heap) (locs : List Loc) (ls : Array Slot), tb_H g s.heap (z) H locs → lv_has ls 5 [(0, .ref (tb_ad g (157))), (1, .int (nI (sl))), (2, .int (nI (tb_lm z sl))), (3, .int (tb_sm (sr_X6_wordOf z sl) i)), (4, .int (nI (i)))] → W p l e (tb_rm 2) s m ([.ref (tb_ad g 157), .int (nI sl)] : List Value).toArray below meth c H locs 0 0 (MQ below (va_Qi (fun r9 u9 => r9 = tb_sm (sr_X6_wordOf z sl) (tb_lm z sl) ∧ u9 = z) (tb_B g) (tb_A g)) ([.ref (tb_ad g 157), .int (nI sl)] : List Value).toArray s 0 0 (tb_A g)) (F0 m 21 ls []) := by
    intro k
    induction k with
    | zero =>
      intro i hik H locs ls hH hl
      obtain rfl : i = tb_lm z sl := by omega
      refine lv_iload X.1 X.2.1 dX6_sumOf_21 (lv_at hl 4 rfl) ?_
      refine lv_iload_n X.1 X.2.1 dX6_sumOf_23 rfl (lv_at hl 2 rfl) ?_
      refine tb_nge (tgt := 49) X (by omega) (by omega) dX6_sumOf_24 (by decide) (fun _ => ?_) (fun c => ((by omega) : False).elim)
      refine lv_iload_n X.1 X.2.1 dX6_sumOf_49 rfl (lv_at hl 3 rfl) ?_
      exact tb_ri X hr hlk hH ⟨rfl, rfl⟩ dX6_sumOf_50
    | succ k ih_21 =>
      intro i hik H locs ls hH hl
      refine lv_iload X.1 X.2.1 dX6_sumOf_21 (lv_at hl 4 rfl) ?_
      refine lv_iload_n X.1 X.2.1 dX6_sumOf_23 rfl (lv_at hl 2 rfl) ?_
      refine tb_nge (tgt := 49) X (by omega) (by omega) dX6_sumOf_24 (by decide) (fun c => ((by omega) : False).elim) (fun _ => ?_)
      refine lv_iconst (v := nI (3)) X.1 X.2.1 dX6_sumOf_27 (by decide +kernel) ?_
      refine lv_iload_n X.1 X.2.1 dX6_sumOf_28 rfl (lv_at hl 3 rfl) ?_
      refine lv_imul X.1 X.2.1 dX6_sumOf_29 ?_
      refine lv_aload_n X.1 X.2.1 dX6_sumOf_30 rfl (lv_at hl 0 rfl) ?_
      refine lv_iload_n X.1 X.2.1 dX6_sumOf_31 rfl (lv_at hl 1 rfl) ?_
      refine lv_iload X.1 X.2.1 dX6_sumOf_32 (lv_at hl 4 rfl) ?_
      refine tb_cVi X hH hl.1 (c_X6_wordOf l g z sl i (by omega) (by omega)) ky_X6_wordOf.1 ky_X6_wordOf.2 wm_330 tb_oM rfl rfl (Nat.le_of_ble_eq_true rfl) ⟨by decide, by decide⟩ ⟨by decide, by decide⟩ dX6_sumOf_34 (fun H locs hH => ?_)
      refine lv_iadd X.1 X.2.1 dX6_sumOf_37 ?_
      refine lv_sipush (v := nI (251)) X.1 X.2.1 dX6_sumOf_38 (by decide +kernel) ?_
      refine lv_irem X.1 X.2.1 dX6_sumOf_41 (by decide +kernel) ?_
      refine lv_istore_n (lv' := [(3, .int ((((nI (3)) * (tb_sm (sr_X6_wordOf z sl) i)) + ((sr_X6_wordOf z sl i))) - (((nI (3)) * (tb_sm (sr_X6_wordOf z sl) i)) + ((sr_X6_wordOf z sl i))) / (nI (251)) * (nI (251)))), (0, .ref (tb_ad g (157))), (1, .int (nI (sl))), (2, .int (nI (tb_lm z sl))), (4, .int (nI (i)))]) X.1 X.2.1 dX6_sumOf_42 rfl hl (by decide) rfl (fun ls hl => ?_)
      refine lv_iinc (v := nI (i + 1)) (lv' := [(4, .int (nI (i + 1))), (3, .int ((((nI (3)) * (tb_sm (sr_X6_wordOf z sl) i)) + ((sr_X6_wordOf z sl i))) - (((nI (3)) * (tb_sm (sr_X6_wordOf z sl) i)) + ((sr_X6_wordOf z sl i))) / (nI (251)) * (nI (251)))), (0, .ref (tb_ad g (157))), (1, .int (nI (sl))), (2, .int (nI (tb_lm z sl)))]) X.1 X.2.1 dX6_sumOf_43 hl (k := 4) rfl (nI_add _ _) (by decide) rfl (fun ls hl => ?_)
      refine lv_goto (tgt := 21) X.1 X.2.1 dX6_sumOf_46 (by decide) ?_
      exact ih_21 (i + 1) (by omega) _ _ _ hH (lv_sub hl [2, 3, 4, 1, 0] rfl)
  exact L_21 (tb_lm z sl) 0 (by omega) _ _ _ hH (lv_sub hl [3, 4, 2, 1, 0] rfl)
set_option maxHeartbeats 1000000 in
set_option maxRecDepth 100000 in
theorem c_X6_sumOf_g (l : Launch) (g : tb_G) (z : tb_M)  : tb_Mi (.int) l yX6_sumOf cX6_sumOf 5 2 g z [.ref (tb_ad g 157), .int (nI 2)] (tb_sm (sr_X6_wordOf z 2) 2) (z) := by
  refine tb_goi (own := RX6) (by decide +kernel) rfl (Nat.le_of_ble_eq_true rfl) ?_
  intro p e s m below meth c ls X hr hlk hH hl
  have hl : lv_has ls 5 [(0, .ref (tb_ad g (157))), (1, .int (nI (2)))] := hl
  refine lv_iload_n X.1 X.2.1 dX6_sumOf_0 rfl (lv_at hl 1 rfl) ?_
  refine lv_iconst (v := nI (2)) X.1 X.2.1 dX6_sumOf_1 (by decide +kernel) ?_
  refine tb_nne (tgt := 9) X (by omega) (by omega) dX6_sumOf_2 (by decide) (fun c => ((by omega) : False).elim) (fun _ => ?_)
  refine lv_iconst (v := nI (2)) X.1 X.2.1 dX6_sumOf_5 (by decide +kernel) ?_
  refine lv_goto (tgt := 15) X.1 X.2.1 dX6_sumOf_6 (by decide) ?_
  refine lv_istore_n (lv' := [(2, .int (nI (2))), (0, .ref (tb_ad g (157))), (1, .int (nI (2)))]) X.1 X.2.1 dX6_sumOf_15 rfl hl (by decide) rfl (fun ls hl => ?_)
  refine lv_iconst (v := nI (1)) X.1 X.2.1 dX6_sumOf_16 (by decide +kernel) ?_
  refine lv_istore_n (lv' := [(3, .int (nI (1))), (2, .int (nI (2))), (0, .ref (tb_ad g (157))), (1, .int (nI (2)))]) X.1 X.2.1 dX6_sumOf_17 rfl hl (by decide) rfl (fun ls hl => ?_)
  refine lv_iconst (v := nI (0)) X.1 X.2.1 dX6_sumOf_18 (by decide +kernel) ?_
  refine lv_istore (lv' := [(4, .int (nI (0))), (3, .int (nI (1))), (2, .int (nI (2))), (0, .ref (tb_ad g (157))), (1, .int (nI (2)))]) X.1 X.2.1 dX6_sumOf_19 hl (by decide) rfl (fun ls hl => ?_)
  have L_21 : ∀ (k : Nat) (i : Nat), i + k = 2 → ∀ (H : Heap) (locs : List Loc) (ls : Array Slot), tb_H g s.heap (z) H locs → lv_has ls 5 [(0, .ref (tb_ad g (157))), (1, .int (nI (2))), (2, .int (nI (2))), (3, .int (tb_sm (sr_X6_wordOf z 2) i)), (4, .int (nI (i)))] → W p l e (tb_rm 2) s m ([.ref (tb_ad g 157), .int (nI 2)] : List Value).toArray below meth c H locs 0 0 (MQ below (va_Qi (fun r9 u9 => r9 = tb_sm (sr_X6_wordOf z 2) 2 ∧ u9 = z) (tb_B g) (tb_A g)) ([.ref (tb_ad g 157), .int (nI 2)] : List Value).toArray s 0 0 (tb_A g)) (F0 m 21 ls []) := by
    intro k
    induction k with
    | zero =>
      intro i hik H locs ls hH hl
      obtain rfl : i = 2 := by omega
      refine lv_iload X.1 X.2.1 dX6_sumOf_21 (lv_at hl 4 rfl) ?_
      refine lv_iload_n X.1 X.2.1 dX6_sumOf_23 rfl (lv_at hl 2 rfl) ?_
      refine tb_nge (tgt := 49) X (by omega) (by omega) dX6_sumOf_24 (by decide) (fun _ => ?_) (fun c => ((by omega) : False).elim)
      refine lv_iload_n X.1 X.2.1 dX6_sumOf_49 rfl (lv_at hl 3 rfl) ?_
      exact tb_ri X hr hlk hH ⟨rfl, rfl⟩ dX6_sumOf_50
    | succ k ih_21 =>
      intro i hik H locs ls hH hl
      refine lv_iload X.1 X.2.1 dX6_sumOf_21 (lv_at hl 4 rfl) ?_
      refine lv_iload_n X.1 X.2.1 dX6_sumOf_23 rfl (lv_at hl 2 rfl) ?_
      refine tb_nge (tgt := 49) X (by omega) (by omega) dX6_sumOf_24 (by decide) (fun c => ((by omega) : False).elim) (fun _ => ?_)
      refine lv_iconst (v := nI (3)) X.1 X.2.1 dX6_sumOf_27 (by decide +kernel) ?_
      refine lv_iload_n X.1 X.2.1 dX6_sumOf_28 rfl (lv_at hl 3 rfl) ?_
      refine lv_imul X.1 X.2.1 dX6_sumOf_29 ?_
      refine lv_aload_n X.1 X.2.1 dX6_sumOf_30 rfl (lv_at hl 0 rfl) ?_
      refine lv_iload_n X.1 X.2.1 dX6_sumOf_31 rfl (lv_at hl 1 rfl) ?_
      refine lv_iload X.1 X.2.1 dX6_sumOf_32 (lv_at hl 4 rfl) ?_
      refine tb_cVi X hH hl.1 (c_X6_wordOf l g z 2 i (by omega) (by omega)) ky_X6_wordOf.1 ky_X6_wordOf.2 wm_330 tb_oM rfl rfl (Nat.le_of_ble_eq_true rfl) ⟨by decide, by decide⟩ ⟨by decide, by decide⟩ dX6_sumOf_34 (fun H locs hH => ?_)
      refine lv_iadd X.1 X.2.1 dX6_sumOf_37 ?_
      refine lv_sipush (v := nI (251)) X.1 X.2.1 dX6_sumOf_38 (by decide +kernel) ?_
      refine lv_irem X.1 X.2.1 dX6_sumOf_41 (by decide +kernel) ?_
      refine lv_istore_n (lv' := [(3, .int ((((nI (3)) * (tb_sm (sr_X6_wordOf z 2) i)) + ((sr_X6_wordOf z 2 i))) - (((nI (3)) * (tb_sm (sr_X6_wordOf z 2) i)) + ((sr_X6_wordOf z 2 i))) / (nI (251)) * (nI (251)))), (0, .ref (tb_ad g (157))), (1, .int (nI (2))), (2, .int (nI (2))), (4, .int (nI (i)))]) X.1 X.2.1 dX6_sumOf_42 rfl hl (by decide) rfl (fun ls hl => ?_)
      refine lv_iinc (v := nI (i + 1)) (lv' := [(4, .int (nI (i + 1))), (3, .int ((((nI (3)) * (tb_sm (sr_X6_wordOf z 2) i)) + ((sr_X6_wordOf z 2 i))) - (((nI (3)) * (tb_sm (sr_X6_wordOf z 2) i)) + ((sr_X6_wordOf z 2 i))) / (nI (251)) * (nI (251)))), (0, .ref (tb_ad g (157))), (1, .int (nI (2))), (2, .int (nI (2)))]) X.1 X.2.1 dX6_sumOf_43 hl (k := 4) rfl (nI_add _ _) (by decide) rfl (fun ls hl => ?_)
      refine lv_goto (tgt := 21) X.1 X.2.1 dX6_sumOf_46 (by decide) ?_
      exact ih_21 (i + 1) (by omega) _ _ _ hH (lv_sub hl [2, 3, 4, 1, 0] rfl)
  exact L_21 2 0 rfl _ _ _ hH (lv_sub hl [3, 4, 2, 1, 0] rfl)
abbrev sp_X6_isSound (z : tb_M) (sl : Nat) : Prop := ((tb_sm (sr_X6_wordOf z sl) (tb_lm z sl))) = ((z 158 ((11 + (46 * sl)) + 3)))
set_option maxHeartbeats 1000000 in
set_option maxRecDepth 100000 in
theorem c_X6_isSound (l : Launch) (g : tb_G) (z : tb_M) (sl : Nat) (hsl : sl < 2) (hL : tb_okM z sl) : tb_Mi (.boolean) l yX6_isSound cX6_isSound 2 3 g z [.ref (tb_ad g 157), .int (nI sl)] (tb_b (sp_X6_isSound z sl)) (z) := by
  refine tb_goi (own := RX6) (by decide +kernel) rfl (Nat.le_of_ble_eq_true rfl) ?_
  intro p e s m below meth c ls X hr hlk hH hl
  have hl : lv_has ls 2 [(0, .ref (tb_ad g (157))), (1, .int (nI (sl)))] := hl
  refine lv_aload_n X.1 X.2.1 dX6_isSound_0 rfl (lv_at hl 0 rfl) ?_
  refine lv_iload_n X.1 X.2.1 dX6_isSound_1 rfl (lv_at hl 1 rfl) ?_
  refine tb_cVi X hH hl.1 (c_X6_sumOf l g z sl (by first | assumption | omega | decide) (by first | assumption | omega | decide)) ky_X6_sumOf.1 ky_X6_sumOf.2 wm_326 tb_oM rfl rfl (Nat.le_of_ble_eq_true rfl) ⟨by decide, by decide⟩ ⟨by decide, by decide⟩ dX6_isSound_2 (fun H locs hH => ?_)
  refine lv_aload_n X.1 X.2.1 dX6_isSound_5 rfl (lv_at hl 0 rfl) ?_
  refine lv_iload_n X.1 X.2.1 dX6_isSound_6 rfl (lv_at hl 1 rfl) ?_
  refine lv_iconst (v := nI (3)) X.1 X.2.1 dX6_isSound_7 (by decide +kernel) ?_
  refine tb_cVi X hH hl.1 (c_X6_part l g z sl 3 (by first | assumption | omega | decide)) ky_X6_part.1 ky_X6_part.2 wm_229 tb_oM rfl rfl (Nat.le_of_ble_eq_true rfl) ⟨by decide, by decide⟩ ⟨by decide, by decide⟩ dX6_isSound_8 (fun H locs hH => ?_)
  have J_1 : ∀ (H : Heap) (locs : List Loc) (ls : Array Slot) (vq1 : Int32), vq1 = (tb_b (((tb_sm (sr_X6_wordOf z sl) (tb_lm z sl))) = ((z 158 ((11 + (46 * sl)) + 3))))) → tb_H g s.heap z H locs → lv_has ls 2 [(0, .ref (tb_ad g (157))), (1, .int (nI (sl)))] → W p l e (tb_rm 3) s m ([.ref (tb_ad g 157), .int (nI sl)] : List Value).toArray below meth c H locs 0 0 (MQ below (va_Qi (fun r9 u9 => r9 = tb_b (sp_X6_isSound z sl) ∧ u9 = z) (tb_B g) (tb_A g)) ([.ref (tb_ad g 157), .int (nI sl)] : List Value).toArray s 0 0 (tb_A g)) (F0 m 19 ls [.int vq1]) := by
    intro H locs ls vq1 evq1 hH hl
    subst evq1
    exact tb_rz X hr hlk hH ⟨(Iff.rfl).symm, rfl⟩ dX6_isSound_19
  refine lv_icmp_ne (tgt := 18) X.1 X.2.1 dX6_isSound_11 (by decide) (fun c_1 => ?_) (fun c_1 => ?_)
  · refine lv_iconst (v := nI (0)) X.1 X.2.1 dX6_isSound_18 (by decide +kernel) ?_
    exact J_1 _ _ _ _ (tb_b_f c_1).symm hH (lv_sub hl [0, 1] rfl)
  · refine lv_iconst (v := nI (1)) X.1 X.2.1 dX6_isSound_14 (by decide +kernel) ?_
    refine lv_goto (tgt := 19) X.1 X.2.1 dX6_isSound_15 (by decide) ?_
    exact J_1 _ _ _ _ (tb_b_t c_1).symm hH (lv_sub hl [0, 1] rfl)
set_option maxHeartbeats 1000000 in
set_option maxRecDepth 100000 in
theorem c_X6_isWorn (l : Launch) (g : tb_G) (z : tb_M) (sl : Nat) (q : Nat) (hsl : sl < 2) (hq : q < 8) : tb_Mi (.boolean) l yX6_isWorn cX6_isWorn 3 1 g z [.ref (tb_ad g 157), .int (nI sl), .int (nI q)] (tb_b (¬ (((z 158 ((11 + (46 * sl)) + (6 + q)))) < (z 158 2)))) (z) := by
  refine tb_goi (own := RX6) (by decide +kernel) rfl (Nat.le_of_ble_eq_true rfl) ?_
  intro p e s m below meth c ls X hr hlk hH hl
  have hl : lv_has ls 3 [(0, .ref (tb_ad g (157))), (1, .int (nI (sl))), (2, .int (nI (q)))] := hl
  refine lv_aload_n X.1 X.2.1 dX6_isWorn_0 rfl (lv_at hl 0 rfl) ?_
  refine lv_iload_n X.1 X.2.1 dX6_isWorn_1 rfl (lv_at hl 1 rfl) ?_
  refine lv_bipush (v := nI (6)) X.1 X.2.1 dX6_isWorn_2 (by decide +kernel) ?_
  refine lv_iload_n X.1 X.2.1 dX6_isWorn_4 rfl (lv_at hl 2 rfl) ?_
  refine tb_iaddN X dX6_isWorn_5 ?_
  refine tb_cVi X hH hl.1 (c_X6_part l g z sl (6 + q) (by first | assumption | omega | decide)) ky_X6_part.1 ky_X6_part.2 wm_229 tb_oM rfl rfl (Nat.le_of_ble_eq_true rfl) ⟨by decide, by decide⟩ ⟨by decide, by decide⟩ dX6_isWorn_6 (fun H locs hH => ?_)
  refine lv_aload_n X.1 X.2.1 dX6_isWorn_9 rfl (lv_at hl 0 rfl) ?_
  refine tb_get X hH tb_Mc.1 (tb_Mc.2 _ _) rfl inlX6 0 (by decide) wm_99 (v := .ref (tb_ad g (158))) rfl dX6_isWorn_10 ?_
  refine lv_iconst (v := nI (2)) X.1 X.2.1 dX6_isWorn_13 (by decide +kernel) ?_
  refine tb_ald X hH tb_i158 (2) rfl (by decide) (by first | decide | omega) dX6_isWorn_14 ?_
  have J_1 : ∀ (H : Heap) (locs : List Loc) (ls : Array Slot) (vq1 : Int32), vq1 = (tb_b (¬ (((z 158 ((11 + (46 * sl)) + (6 + q)))) < (z 158 2)))) → tb_H g s.heap z H locs → lv_has ls 3 [(0, .ref (tb_ad g (157))), (1, .int (nI (sl))), (2, .int (nI (q)))] → W p l e (tb_rm 1) s m ([.ref (tb_ad g 157), .int (nI sl), .int (nI q)] : List Value).toArray below meth c H locs 0 0 (MQ below (va_Qi (fun r9 u9 => r9 = tb_b (¬ (((z 158 ((11 + (46 * sl)) + (6 + q)))) < (z 158 2))) ∧ u9 = z) (tb_B g) (tb_A g)) ([.ref (tb_ad g 157), .int (nI sl), .int (nI q)] : List Value).toArray s 0 0 (tb_A g)) (F0 m 23 ls [.int vq1]) := by
    intro H locs ls vq1 evq1 hH hl
    subst evq1
    exact tb_rz X hr hlk hH ⟨(Iff.rfl).symm, rfl⟩ dX6_isWorn_23
  refine lv_icmp_lt (tgt := 22) X.1 X.2.1 dX6_isWorn_15 (by decide) (fun c_1 => ?_) (fun c_1 => ?_)
  · refine lv_iconst (v := nI (0)) X.1 X.2.1 dX6_isWorn_22 (by decide +kernel) ?_
    exact J_1 _ _ _ _ (tb_b_f (fun h => h c_1)).symm hH (lv_sub hl [0, 1, 2] rfl)
  · refine lv_iconst (v := nI (1)) X.1 X.2.1 dX6_isWorn_18 (by decide +kernel) ?_
    refine lv_goto (tgt := 23) X.1 X.2.1 dX6_isWorn_19 (by decide) ?_
    exact J_1 _ _ _ _ (tb_b_t c_1).symm hH (lv_sub hl [0, 1, 2] rfl)
set_option maxHeartbeats 1000000 in
set_option maxRecDepth 100000 in
theorem c_X6_isAnyWorn (l : Launch) (g : tb_G) (z : tb_M) (sl : Nat) (q : Nat) (hsl : sl < 2) (hq : q ≤ 8) : tb_Mi (.boolean) l yX6_isAnyWorn cX6_isAnyWorn 5 2 g z [.ref (tb_ad g 157), .int (nI sl), .int (nI q)] (tb_b (tb_aw z sl q = true)) (z) := by
  refine tb_goi (own := RX6) (by decide +kernel) rfl (Nat.le_of_ble_eq_true rfl) ?_
  intro p e s m below meth c ls X hr hlk hH hl
  have hl : lv_has ls 5 [(0, .ref (tb_ad g (157))), (1, .int (nI (sl))), (2, .int (nI (q)))] := hl
  refine lv_iconst (v := nI (0)) X.1 X.2.1 dX6_isAnyWorn_0 (by decide +kernel) ?_
  refine lv_istore_n (lv' := [(3, .int (nI (0))), (0, .ref (tb_ad g (157))), (1, .int (nI (sl))), (2, .int (nI (q)))]) X.1 X.2.1 dX6_isAnyWorn_1 rfl hl (by decide) rfl (fun ls hl => ?_)
  refine lv_iconst (v := nI (0)) X.1 X.2.1 dX6_isAnyWorn_2 (by decide +kernel) ?_
  refine lv_istore (lv' := [(4, .int (nI (0))), (3, .int (nI (0))), (0, .ref (tb_ad g (157))), (1, .int (nI (sl))), (2, .int (nI (q)))]) X.1 X.2.1 dX6_isAnyWorn_3 hl (by decide) rfl (fun ls hl => ?_)
  have L_5 : ∀ (k : Nat) (i : Nat), i + k = q → ∀ (H : Heap) (locs : List Loc) (ls : Array Slot), tb_H g s.heap (z) H locs → lv_has ls 5 [(0, .ref (tb_ad g (157))), (1, .int (nI (sl))), (2, .int (nI (q))), (3, .int (tb_b (tb_aw z sl i = true))), (4, .int (nI (i)))] → W p l e (tb_rm 2) s m ([.ref (tb_ad g 157), .int (nI sl), .int (nI q)] : List Value).toArray below meth c H locs 0 0 (MQ below (va_Qi (fun r9 u9 => r9 = tb_b (tb_aw z sl q = true) ∧ u9 = z) (tb_B g) (tb_A g)) ([.ref (tb_ad g 157), .int (nI sl), .int (nI q)] : List Value).toArray s 0 0 (tb_A g)) (F0 m 5 ls []) := by
    intro k
    induction k with
    | zero =>
      intro i hik H locs ls hH hl
      refine lv_iload X.1 X.2.1 dX6_isAnyWorn_5 (lv_at hl 4 rfl) ?_
      refine lv_iload_n X.1 X.2.1 dX6_isAnyWorn_7 rfl (lv_at hl 2 rfl) ?_
      refine tb_nge (tgt := 37) X (by omega) (by omega) dX6_isAnyWorn_8 (by decide) (fun _ => ?_) (fun c => ((by omega) : False).elim)
      refine lv_iload_n X.1 X.2.1 dX6_isAnyWorn_37 rfl (lv_at hl 3 rfl) ?_
      exact tb_rz X hr hlk hH ⟨(by rw [show i = q by omega]), rfl⟩ dX6_isAnyWorn_38
    | succ k ih_5 =>
      intro i hik H locs ls hH hl
      refine lv_iload X.1 X.2.1 dX6_isAnyWorn_5 (lv_at hl 4 rfl) ?_
      refine lv_iload_n X.1 X.2.1 dX6_isAnyWorn_7 rfl (lv_at hl 2 rfl) ?_
      refine tb_nge (tgt := 37) X (by omega) (by omega) dX6_isAnyWorn_8 (by decide) (fun c => ((by omega) : False).elim) (fun _ => ?_)
      refine lv_iload_n X.1 X.2.1 dX6_isAnyWorn_11 rfl (lv_at hl 3 rfl) ?_
      have J_1 : ∀ (H : Heap) (locs : List Loc) (ls : Array Slot) (vq1 : Int32), vq1 = (tb_b ((tb_aw z sl i = true) ∨ ((¬ (((z 158 ((11 + (46 * sl)) + (6 + i)))) < (z 158 2)))))) → tb_H g s.heap z H locs → lv_has ls 5 [(0, .ref (tb_ad g (157))), (1, .int (nI (sl))), (2, .int (nI (q))), (3, .int (tb_b (tb_aw z sl i = true))), (4, .int (nI (i)))] → W p l e (tb_rm 2) s m ([.ref (tb_ad g 157), .int (nI sl), .int (nI q)] : List Value).toArray below meth c H locs 0 0 (MQ below (va_Qi (fun r9 u9 => r9 = tb_b (tb_aw z sl q = true) ∧ u9 = z) (tb_B g) (tb_A g)) ([.ref (tb_ad g 157), .int (nI sl), .int (nI q)] : List Value).toArray s 0 0 (tb_A g)) (F0 m 30 ls [.int vq1]) := by
        intro H locs ls vq1 evq1 hH hl
        subst evq1
        refine tb_top (x2 := tb_b (tb_aw z sl (i + 1) = true)) (tb_b_c (tb_aw_s z sl i)) ?_
        refine lv_istore_n (lv' := [(3, .int (tb_b (tb_aw z sl (i + 1) = true))), (0, .ref (tb_ad g (157))), (1, .int (nI (sl))), (2, .int (nI (q))), (4, .int (nI (i)))]) X.1 X.2.1 dX6_isAnyWorn_30 rfl hl (by decide) rfl (fun ls hl => ?_)
        refine lv_iinc (v := nI (i + 1)) (lv' := [(4, .int (nI (i + 1))), (3, .int (tb_b (tb_aw z sl (i + 1) = true))), (0, .ref (tb_ad g (157))), (1, .int (nI (sl))), (2, .int (nI (q)))]) X.1 X.2.1 dX6_isAnyWorn_31 hl (k := 4) rfl (nI_add _ _) (by decide) rfl (fun ls hl => ?_)
        refine lv_goto (tgt := 5) X.1 X.2.1 dX6_isAnyWorn_34 (by decide) ?_
        exact ih_5 (i + 1) (by omega) _ _ _ hH (lv_sub hl [2, 3, 4, 1, 0] rfl)
      refine tb_jbne (tgt := 25) X dX6_isAnyWorn_12 (by decide) (fun c_1 => ?_) (fun c_1 => ?_)
      · refine lv_iconst (v := nI (1)) X.1 X.2.1 dX6_isAnyWorn_25 (by decide +kernel) ?_
        refine lv_goto (tgt := 30) X.1 X.2.1 dX6_isAnyWorn_26 (by decide) ?_
        exact J_1 _ _ _ _ (tb_b_t (Or.inl c_1)).symm hH (lv_sub hl [0, 1, 2, 3, 4] rfl)
      · refine lv_aload_n X.1 X.2.1 dX6_isAnyWorn_15 rfl (lv_at hl 0 rfl) ?_
        refine lv_iload_n X.1 X.2.1 dX6_isAnyWorn_16 rfl (lv_at hl 1 rfl) ?_
        refine lv_iload X.1 X.2.1 dX6_isAnyWorn_17 (lv_at hl 4 rfl) ?_
        refine tb_cVi X hH hl.1 (c_X6_isWorn l g z sl i (by omega) (by omega)) ky_X6_isWorn.1 ky_X6_isWorn.2 wm_225 tb_oM rfl rfl (Nat.le_of_ble_eq_true rfl) ⟨by decide, by decide⟩ ⟨by decide, by decide⟩ dX6_isAnyWorn_19 (fun H locs hH => ?_)
        refine tb_jbeq (tgt := 29) X dX6_isAnyWorn_22 (by decide) (fun c_2 => ?_) (fun c_2 => ?_)
        · refine lv_iconst (v := nI (0)) X.1 X.2.1 dX6_isAnyWorn_29 (by decide +kernel) ?_
          exact J_1 _ _ _ _ (tb_b_f (fun h => h.elim c_1 c_2)).symm hH (lv_sub hl [0, 1, 2, 3, 4] rfl)
        · refine lv_iconst (v := nI (1)) X.1 X.2.1 dX6_isAnyWorn_25 (by decide +kernel) ?_
          refine lv_goto (tgt := 30) X.1 X.2.1 dX6_isAnyWorn_26 (by decide) ?_
          exact J_1 _ _ _ _ (tb_b_t (Or.inr c_2)).symm hH (lv_sub hl [0, 1, 2, 3, 4] rfl)
  exact L_5 q 0 (by omega) _ _ _ hH (lv_sub hl [2, 3, 4, 1, 0] rfl)
def sz_X6_emptyPage_m1 (z : tb_M) (sl : Nat) (q : Nat) : tb_M := tb_up (tb_up (tb_up (tb_up z 158 ((11 + (46 * sl)) + ((14 + (4 * q)) + 0)) (nI (255))) 158 ((11 + (46 * sl)) + ((14 + (4 * q)) + 1)) (nI (255))) 158 ((11 + (46 * sl)) + ((14 + (4 * q)) + 2)) (nI (255))) 158 ((11 + (46 * sl)) + ((14 + (4 * q)) + 3)) (nI (255))
def sz_X6_emptyPage (z : tb_M) (sl : Nat) (q : Nat) : tb_M := tb_up (sz_X6_emptyPage_m1 z sl q) 158 ((11 + (46 * sl)) + (6 + q)) ((((sz_X6_emptyPage_m1 z sl q) 158 ((11 + (46 * sl)) + (6 + q)))) + (nI (1)))
set_option maxHeartbeats 1000000 in
set_option maxRecDepth 100000 in
theorem c_X6_emptyPage (l : Launch) (g : tb_G) (z : tb_M) (sl : Nat) (q : Nat) (hsl : sl < 2) (hq : q < 8) : tb_Mv l yX6_emptyPage cX6_emptyPage 4 1 g z [.ref (tb_ad g 157), .int (nI sl), .int (nI q)] (sz_X6_emptyPage z sl q) := by
  refine tb_gov (own := RX6) (by decide +kernel) rfl (Nat.le_of_ble_eq_true rfl) ?_
  intro p e s m below meth c ls X hr hlk hH hl
  have hl : lv_has ls 4 [(0, .ref (tb_ad g (157))), (1, .int (nI (sl))), (2, .int (nI (q)))] := hl
  refine lv_iconst (v := nI (0)) X.1 X.2.1 dX6_emptyPage_0 (by decide +kernel) ?_
  refine lv_istore_n (lv' := [(3, .int (nI (0))), (0, .ref (tb_ad g (157))), (1, .int (nI (sl))), (2, .int (nI (q)))]) X.1 X.2.1 dX6_emptyPage_1 rfl hl (by decide) rfl (fun ls hl => ?_)
  refine lv_iload_n X.1 X.2.1 dX6_emptyPage_2 rfl (lv_at hl 0 rfl) ?_
  refine lv_iconst (v := nI (4)) X.1 X.2.1 dX6_emptyPage_3 (by decide +kernel) ?_
  refine tb_nge (tgt := 29) X (by omega) (by omega) dX6_emptyPage_4 (by decide) (fun c => ((by omega) : False).elim) (fun _ => ?_)
  refine lv_aload_n X.1 X.2.1 dX6_emptyPage_7 rfl (lv_at hl 1 rfl) ?_
  refine lv_iload_n X.1 X.2.1 dX6_emptyPage_8 rfl (lv_at hl 2 rfl) ?_
  refine lv_bipush (v := nI (14)) X.1 X.2.1 dX6_emptyPage_9 (by decide +kernel) ?_
  refine lv_iconst (v := nI (4)) X.1 X.2.1 dX6_emptyPage_11 (by decide +kernel) ?_
  refine lv_iload_n X.1 X.2.1 dX6_emptyPage_12 rfl (lv_at hl 3 rfl) ?_
  refine tb_imulN X dX6_emptyPage_13 ?_
  refine tb_iaddN X dX6_emptyPage_14 ?_
  refine lv_iload_n X.1 X.2.1 dX6_emptyPage_15 rfl (lv_at hl 0 rfl) ?_
  refine tb_iaddN X dX6_emptyPage_16 ?_
  refine lv_sipush (v := nI (255)) X.1 X.2.1 dX6_emptyPage_17 (by decide +kernel) ?_
  refine tb_cVv X hH hl.1 (c_X6_setPart l g z sl ((14 + (4 * q)) + 0) (nI (255)) (by first | assumption | omega | decide)) ky_X6_setPart.1 ky_X6_setPart.2 wm_105 tb_oM rfl rfl (Nat.le_of_ble_eq_true rfl) ⟨by decide, by decide⟩ ⟨by decide, by decide⟩ dX6_emptyPage_20 (fun H locs hH => ?_)
  refine lv_iinc (v := nI (1)) (lv' := [(3, .int (nI (1))), (0, .ref (tb_ad g (157))), (1, .int (nI (sl))), (2, .int (nI (q)))]) X.1 X.2.1 dX6_emptyPage_23 hl (k := 0) rfl (by decide +kernel) (by decide) rfl (fun ls hl => ?_)
  refine lv_goto (tgt := 2) X.1 X.2.1 dX6_emptyPage_26 (by decide) ?_
  refine lv_iload_n X.1 X.2.1 dX6_emptyPage_2 rfl (lv_at hl 0 rfl) ?_
  refine lv_iconst (v := nI (4)) X.1 X.2.1 dX6_emptyPage_3 (by decide +kernel) ?_
  refine tb_nge (tgt := 29) X (by omega) (by omega) dX6_emptyPage_4 (by decide) (fun c => ((by omega) : False).elim) (fun _ => ?_)
  refine lv_aload_n X.1 X.2.1 dX6_emptyPage_7 rfl (lv_at hl 1 rfl) ?_
  refine lv_iload_n X.1 X.2.1 dX6_emptyPage_8 rfl (lv_at hl 2 rfl) ?_
  refine lv_bipush (v := nI (14)) X.1 X.2.1 dX6_emptyPage_9 (by decide +kernel) ?_
  refine lv_iconst (v := nI (4)) X.1 X.2.1 dX6_emptyPage_11 (by decide +kernel) ?_
  refine lv_iload_n X.1 X.2.1 dX6_emptyPage_12 rfl (lv_at hl 3 rfl) ?_
  refine tb_imulN X dX6_emptyPage_13 ?_
  refine tb_iaddN X dX6_emptyPage_14 ?_
  refine lv_iload_n X.1 X.2.1 dX6_emptyPage_15 rfl (lv_at hl 0 rfl) ?_
  refine tb_iaddN X dX6_emptyPage_16 ?_
  refine lv_sipush (v := nI (255)) X.1 X.2.1 dX6_emptyPage_17 (by decide +kernel) ?_
  refine tb_cVv X hH hl.1 (c_X6_setPart l g (tb_up z 158 ((11 + (46 * sl)) + ((14 + (4 * q)) + 0)) (nI (255))) sl ((14 + (4 * q)) + 1) (nI (255)) (by first | assumption | omega | decide)) ky_X6_setPart.1 ky_X6_setPart.2 wm_105 tb_oM rfl rfl (Nat.le_of_ble_eq_true rfl) ⟨by decide, by decide⟩ ⟨by decide, by decide⟩ dX6_emptyPage_20 (fun H locs hH => ?_)
  refine lv_iinc (v := nI (2)) (lv' := [(3, .int (nI (2))), (0, .ref (tb_ad g (157))), (1, .int (nI (sl))), (2, .int (nI (q)))]) X.1 X.2.1 dX6_emptyPage_23 hl (k := 0) rfl (by decide +kernel) (by decide) rfl (fun ls hl => ?_)
  refine lv_goto (tgt := 2) X.1 X.2.1 dX6_emptyPage_26 (by decide) ?_
  refine lv_iload_n X.1 X.2.1 dX6_emptyPage_2 rfl (lv_at hl 0 rfl) ?_
  refine lv_iconst (v := nI (4)) X.1 X.2.1 dX6_emptyPage_3 (by decide +kernel) ?_
  refine tb_nge (tgt := 29) X (by omega) (by omega) dX6_emptyPage_4 (by decide) (fun c => ((by omega) : False).elim) (fun _ => ?_)
  refine lv_aload_n X.1 X.2.1 dX6_emptyPage_7 rfl (lv_at hl 1 rfl) ?_
  refine lv_iload_n X.1 X.2.1 dX6_emptyPage_8 rfl (lv_at hl 2 rfl) ?_
  refine lv_bipush (v := nI (14)) X.1 X.2.1 dX6_emptyPage_9 (by decide +kernel) ?_
  refine lv_iconst (v := nI (4)) X.1 X.2.1 dX6_emptyPage_11 (by decide +kernel) ?_
  refine lv_iload_n X.1 X.2.1 dX6_emptyPage_12 rfl (lv_at hl 3 rfl) ?_
  refine tb_imulN X dX6_emptyPage_13 ?_
  refine tb_iaddN X dX6_emptyPage_14 ?_
  refine lv_iload_n X.1 X.2.1 dX6_emptyPage_15 rfl (lv_at hl 0 rfl) ?_
  refine tb_iaddN X dX6_emptyPage_16 ?_
  refine lv_sipush (v := nI (255)) X.1 X.2.1 dX6_emptyPage_17 (by decide +kernel) ?_
  refine tb_cVv X hH hl.1 (c_X6_setPart l g (tb_up (tb_up z 158 ((11 + (46 * sl)) + ((14 + (4 * q)) + 0)) (nI (255))) 158 ((11 + (46 * sl)) + ((14 + (4 * q)) + 1)) (nI (255))) sl ((14 + (4 * q)) + 2) (nI (255)) (by first | assumption | omega | decide)) ky_X6_setPart.1 ky_X6_setPart.2 wm_105 tb_oM rfl rfl (Nat.le_of_ble_eq_true rfl) ⟨by decide, by decide⟩ ⟨by decide, by decide⟩ dX6_emptyPage_20 (fun H locs hH => ?_)
  refine lv_iinc (v := nI (3)) (lv' := [(3, .int (nI (3))), (0, .ref (tb_ad g (157))), (1, .int (nI (sl))), (2, .int (nI (q)))]) X.1 X.2.1 dX6_emptyPage_23 hl (k := 0) rfl (by decide +kernel) (by decide) rfl (fun ls hl => ?_)
  refine lv_goto (tgt := 2) X.1 X.2.1 dX6_emptyPage_26 (by decide) ?_
  refine lv_iload_n X.1 X.2.1 dX6_emptyPage_2 rfl (lv_at hl 0 rfl) ?_
  refine lv_iconst (v := nI (4)) X.1 X.2.1 dX6_emptyPage_3 (by decide +kernel) ?_
  refine tb_nge (tgt := 29) X (by omega) (by omega) dX6_emptyPage_4 (by decide) (fun c => ((by omega) : False).elim) (fun _ => ?_)
  refine lv_aload_n X.1 X.2.1 dX6_emptyPage_7 rfl (lv_at hl 1 rfl) ?_
  refine lv_iload_n X.1 X.2.1 dX6_emptyPage_8 rfl (lv_at hl 2 rfl) ?_
  refine lv_bipush (v := nI (14)) X.1 X.2.1 dX6_emptyPage_9 (by decide +kernel) ?_
  refine lv_iconst (v := nI (4)) X.1 X.2.1 dX6_emptyPage_11 (by decide +kernel) ?_
  refine lv_iload_n X.1 X.2.1 dX6_emptyPage_12 rfl (lv_at hl 3 rfl) ?_
  refine tb_imulN X dX6_emptyPage_13 ?_
  refine tb_iaddN X dX6_emptyPage_14 ?_
  refine lv_iload_n X.1 X.2.1 dX6_emptyPage_15 rfl (lv_at hl 0 rfl) ?_
  refine tb_iaddN X dX6_emptyPage_16 ?_
  refine lv_sipush (v := nI (255)) X.1 X.2.1 dX6_emptyPage_17 (by decide +kernel) ?_
  refine tb_cVv X hH hl.1 (c_X6_setPart l g (tb_up (tb_up (tb_up z 158 ((11 + (46 * sl)) + ((14 + (4 * q)) + 0)) (nI (255))) 158 ((11 + (46 * sl)) + ((14 + (4 * q)) + 1)) (nI (255))) 158 ((11 + (46 * sl)) + ((14 + (4 * q)) + 2)) (nI (255))) sl ((14 + (4 * q)) + 3) (nI (255)) (by first | assumption | omega | decide)) ky_X6_setPart.1 ky_X6_setPart.2 wm_105 tb_oM rfl rfl (Nat.le_of_ble_eq_true rfl) ⟨by decide, by decide⟩ ⟨by decide, by decide⟩ dX6_emptyPage_20 (fun H locs hH => ?_)
  refine lv_iinc (v := nI (4)) (lv' := [(3, .int (nI (4))), (0, .ref (tb_ad g (157))), (1, .int (nI (sl))), (2, .int (nI (q)))]) X.1 X.2.1 dX6_emptyPage_23 hl (k := 0) rfl (by decide +kernel) (by decide) rfl (fun ls hl => ?_)
  refine lv_goto (tgt := 2) X.1 X.2.1 dX6_emptyPage_26 (by decide) ?_
  refine lv_iload_n X.1 X.2.1 dX6_emptyPage_2 rfl (lv_at hl 0 rfl) ?_
  refine lv_iconst (v := nI (4)) X.1 X.2.1 dX6_emptyPage_3 (by decide +kernel) ?_
  refine tb_nge (tgt := 29) X (by omega) (by omega) dX6_emptyPage_4 (by decide) (fun _ => ?_) (fun c => ((by omega) : False).elim)
  have hH : tb_H g s.heap (sz_X6_emptyPage_m1 z sl q) H locs := hH
  refine lv_aload_n X.1 X.2.1 dX6_emptyPage_29 rfl (lv_at hl 1 rfl) ?_
  refine lv_iload_n X.1 X.2.1 dX6_emptyPage_30 rfl (lv_at hl 2 rfl) ?_
  refine lv_bipush (v := nI (6)) X.1 X.2.1 dX6_emptyPage_31 (by decide +kernel) ?_
  refine lv_iload_n X.1 X.2.1 dX6_emptyPage_33 rfl (lv_at hl 3 rfl) ?_
  refine tb_iaddN X dX6_emptyPage_34 ?_
  refine lv_aload_n X.1 X.2.1 dX6_emptyPage_35 rfl (lv_at hl 1 rfl) ?_
  refine lv_iload_n X.1 X.2.1 dX6_emptyPage_36 rfl (lv_at hl 2 rfl) ?_
  refine lv_bipush (v := nI (6)) X.1 X.2.1 dX6_emptyPage_37 (by decide +kernel) ?_
  refine lv_iload_n X.1 X.2.1 dX6_emptyPage_39 rfl (lv_at hl 3 rfl) ?_
  refine tb_iaddN X dX6_emptyPage_40 ?_
  refine tb_cVi X hH hl.1 (c_X6_part l g (sz_X6_emptyPage_m1 z sl q) sl (6 + q) (by first | assumption | omega | decide)) ky_X6_part.1 ky_X6_part.2 wm_229 tb_oM rfl rfl (Nat.le_of_ble_eq_true rfl) ⟨by decide, by decide⟩ ⟨by decide, by decide⟩ dX6_emptyPage_41 (fun H locs hH => ?_)
  refine lv_iconst (v := nI (1)) X.1 X.2.1 dX6_emptyPage_44 (by decide +kernel) ?_
  refine lv_iadd X.1 X.2.1 dX6_emptyPage_45 ?_
  refine tb_cVv X hH hl.1 (c_X6_setPart l g (sz_X6_emptyPage_m1 z sl q) sl (6 + q) ((((sz_X6_emptyPage_m1 z sl q) 158 ((11 + (46 * sl)) + (6 + q)))) + (nI (1))) (by first | assumption | omega | decide)) ky_X6_setPart.1 ky_X6_setPart.2 wm_105 tb_oM rfl rfl (Nat.le_of_ble_eq_true rfl) ⟨by decide, by decide⟩ ⟨by decide, by decide⟩ dX6_emptyPage_46 (fun H locs hH => ?_)
  exact tb_rv X hr hlk hH (by rw [sz_X6_emptyPage]) dX6_emptyPage_49
set_option maxHeartbeats 1000000 in
set_option maxRecDepth 100000 in
theorem c_X6_greatestWear (l : Launch) (g : tb_G) (z : tb_M) (sl : Nat) (q : Nat) (hsl : sl < 2) (hq : q ≤ 8) : tb_Mi (.int) l yX6_greatestWear cX6_greatestWear 5 1 g z [.ref (tb_ad g 157), .int (nI sl), .int (nI q)] (tb_gx (fun i => z 158 ((11 + (46 * sl)) + (6 + i))) q) (z) := by
  refine tb_goi (own := RX6) (by decide +kernel) rfl (Nat.le_of_ble_eq_true rfl) ?_
  intro p e s m below meth c ls X hr hlk hH hl
  have hl : lv_has ls 5 [(0, .ref (tb_ad g (157))), (1, .int (nI (sl))), (2, .int (nI (q)))] := hl
  refine lv_iconst (v := nI (0)) X.1 X.2.1 dX6_greatestWear_0 (by decide +kernel) ?_
  refine lv_istore_n (lv' := [(3, .int (nI (0))), (0, .ref (tb_ad g (157))), (1, .int (nI (sl))), (2, .int (nI (q)))]) X.1 X.2.1 dX6_greatestWear_1 rfl hl (by decide) rfl (fun ls hl => ?_)
  refine lv_iconst (v := nI (0)) X.1 X.2.1 dX6_greatestWear_2 (by decide +kernel) ?_
  refine lv_istore (lv' := [(4, .int (nI (0))), (3, .int (nI (0))), (0, .ref (tb_ad g (157))), (1, .int (nI (sl))), (2, .int (nI (q)))]) X.1 X.2.1 dX6_greatestWear_3 hl (by decide) rfl (fun ls hl => ?_)
  have L_5 : ∀ (k : Nat) (i : Nat), i + k = q → ∀ (H : Heap) (locs : List Loc) (ls : Array Slot), tb_H g s.heap (z) H locs → lv_has ls 5 [(0, .ref (tb_ad g (157))), (1, .int (nI (sl))), (2, .int (nI (q))), (3, .int (tb_gx (fun i => z 158 ((11 + (46 * sl)) + (6 + i))) i)), (4, .int (nI (i)))] → W p l e (tb_rm 1) s m ([.ref (tb_ad g 157), .int (nI sl), .int (nI q)] : List Value).toArray below meth c H locs 0 0 (MQ below (va_Qi (fun r9 u9 => r9 = tb_gx (fun i => z 158 ((11 + (46 * sl)) + (6 + i))) q ∧ u9 = z) (tb_B g) (tb_A g)) ([.ref (tb_ad g 157), .int (nI sl), .int (nI q)] : List Value).toArray s 0 0 (tb_A g)) (F0 m 5 ls []) := by
    intro k
    induction k with
    | zero =>
      intro i hik H locs ls hH hl
      refine lv_iload X.1 X.2.1 dX6_greatestWear_5 (lv_at hl 4 rfl) ?_
      refine lv_iload_n X.1 X.2.1 dX6_greatestWear_7 rfl (lv_at hl 2 rfl) ?_
      refine tb_nge (tgt := 46) X (by omega) (by omega) dX6_greatestWear_8 (by decide) (fun _ => ?_) (fun c => ((by omega) : False).elim)
      refine lv_iload_n X.1 X.2.1 dX6_greatestWear_46 rfl (lv_at hl 3 rfl) ?_
      exact tb_ri X hr hlk hH ⟨(by rw [show i = q by omega]), rfl⟩ dX6_greatestWear_47
    | succ k ih_5 =>
      intro i hik H locs ls hH hl
      refine lv_iload X.1 X.2.1 dX6_greatestWear_5 (lv_at hl 4 rfl) ?_
      refine lv_iload_n X.1 X.2.1 dX6_greatestWear_7 rfl (lv_at hl 2 rfl) ?_
      refine tb_nge (tgt := 46) X (by omega) (by omega) dX6_greatestWear_8 (by decide) (fun c => ((by omega) : False).elim) (fun _ => ?_)
      refine lv_aload_n X.1 X.2.1 dX6_greatestWear_11 rfl (lv_at hl 0 rfl) ?_
      refine lv_iload_n X.1 X.2.1 dX6_greatestWear_12 rfl (lv_at hl 1 rfl) ?_
      refine lv_bipush (v := nI (6)) X.1 X.2.1 dX6_greatestWear_13 (by decide +kernel) ?_
      refine lv_iload X.1 X.2.1 dX6_greatestWear_15 (lv_at hl 4 rfl) ?_
      refine tb_iaddN X dX6_greatestWear_17 ?_
      refine tb_cVi X hH hl.1 (c_X6_part l g z sl (6 + i) (by first | assumption | omega | decide)) ky_X6_part.1 ky_X6_part.2 wm_229 tb_oM rfl rfl (Nat.le_of_ble_eq_true rfl) ⟨by decide, by decide⟩ ⟨by decide, by decide⟩ dX6_greatestWear_18 (fun H locs hH => ?_)
      refine lv_iload_n X.1 X.2.1 dX6_greatestWear_21 rfl (lv_at hl 3 rfl) ?_
      have J_1 : ∀ (H : Heap) (locs : List Loc) (ls : Array Slot) (vq1 : Int32), vq1 = (if ((z 158 ((11 + (46 * sl)) + (6 + i)))) ≤ (tb_gx (fun i => z 158 ((11 + (46 * sl)) + (6 + i))) i) then (tb_gx (fun i => z 158 ((11 + (46 * sl)) + (6 + i))) i) else ((z 158 ((11 + (46 * sl)) + (6 + i))))) → tb_H g s.heap z H locs → lv_has ls 5 [(0, .ref (tb_ad g (157))), (1, .int (nI (sl))), (2, .int (nI (q))), (3, .int (tb_gx (fun i => z 158 ((11 + (46 * sl)) + (6 + i))) i)), (4, .int (nI (i)))] → W p l e (tb_rm 1) s m ([.ref (tb_ad g 157), .int (nI sl), .int (nI q)] : List Value).toArray below meth c H locs 0 0 (MQ below (va_Qi (fun r9 u9 => r9 = tb_gx (fun i => z 158 ((11 + (46 * sl)) + (6 + i))) q ∧ u9 = z) (tb_B g) (tb_A g)) ([.ref (tb_ad g 157), .int (nI sl), .int (nI q)] : List Value).toArray s 0 0 (tb_A g)) (F0 m 39 ls [.int vq1]) := by
        intro H locs ls vq1 evq1 hH hl
        subst evq1
        refine lv_istore_n (lv' := [(3, .int (if ((z 158 ((11 + (46 * sl)) + (6 + i)))) ≤ (tb_gx (fun i => z 158 ((11 + (46 * sl)) + (6 + i))) i) then (tb_gx (fun i => z 158 ((11 + (46 * sl)) + (6 + i))) i) else ((z 158 ((11 + (46 * sl)) + (6 + i)))))), (0, .ref (tb_ad g (157))), (1, .int (nI (sl))), (2, .int (nI (q))), (4, .int (nI (i)))]) X.1 X.2.1 dX6_greatestWear_39 rfl hl (by decide) rfl (fun ls hl => ?_)
        refine lv_iinc (v := nI (i + 1)) (lv' := [(4, .int (nI (i + 1))), (3, .int (if ((z 158 ((11 + (46 * sl)) + (6 + i)))) ≤ (tb_gx (fun i => z 158 ((11 + (46 * sl)) + (6 + i))) i) then (tb_gx (fun i => z 158 ((11 + (46 * sl)) + (6 + i))) i) else ((z 158 ((11 + (46 * sl)) + (6 + i)))))), (0, .ref (tb_ad g (157))), (1, .int (nI (sl))), (2, .int (nI (q)))]) X.1 X.2.1 dX6_greatestWear_40 hl (k := 4) rfl (nI_add _ _) (by decide) rfl (fun ls hl => ?_)
        refine lv_goto (tgt := 5) X.1 X.2.1 dX6_greatestWear_43 (by decide) ?_
        exact ih_5 (i + 1) (by omega) _ _ _ hH (lv_sub hl [2, 3, 4, 1, 0] rfl)
      refine lv_icmp_le (tgt := 38) X.1 X.2.1 dX6_greatestWear_22 (by decide) (fun c_1 => ?_) (fun c_1 => ?_)
      · refine lv_iload_n X.1 X.2.1 dX6_greatestWear_38 rfl (lv_at hl 3 rfl) ?_
        exact J_1 _ _ _ _ (by simp only [if_pos c_1]) hH (lv_sub hl [0, 1, 2, 3, 4] rfl)
      · refine lv_aload_n X.1 X.2.1 dX6_greatestWear_25 rfl (lv_at hl 0 rfl) ?_
        refine lv_iload_n X.1 X.2.1 dX6_greatestWear_26 rfl (lv_at hl 1 rfl) ?_
        refine lv_bipush (v := nI (6)) X.1 X.2.1 dX6_greatestWear_27 (by decide +kernel) ?_
        refine lv_iload X.1 X.2.1 dX6_greatestWear_29 (lv_at hl 4 rfl) ?_
        refine tb_iaddN X dX6_greatestWear_31 ?_
        refine tb_cVi X hH hl.1 (c_X6_part l g z sl (6 + i) (by first | assumption | omega | decide)) ky_X6_part.1 ky_X6_part.2 wm_229 tb_oM rfl rfl (Nat.le_of_ble_eq_true rfl) ⟨by decide, by decide⟩ ⟨by decide, by decide⟩ dX6_greatestWear_32 (fun H locs hH => ?_)
        refine lv_goto (tgt := 39) X.1 X.2.1 dX6_greatestWear_35 (by decide) ?_
        exact J_1 _ _ _ _ (by simp only [if_neg c_1]) hH (lv_sub hl [0, 1, 2, 3, 4] rfl)
  exact L_5 q 0 (by omega) _ _ _ hH (lv_sub hl [2, 3, 4, 1, 0] rfl)
abbrev sp_X6_canBe (z : tb_M) (sl : Nat) (x : Int32) : Prop := ((((z 158 ((11 + (46 * sl)) + 0))) = x)) ∧ ((x = (nI (3))) ∨ (¬ (((z 158 ((11 + (46 * sl)) + 4))) ≤ 0)))
set_option maxHeartbeats 1000000 in
set_option maxRecDepth 100000 in
theorem c_X6_canBe (l : Launch) (g : tb_G) (z : tb_M) (sl : Nat) (x : Int32) (hsl : sl < 2) : tb_Mi (.boolean) l yX6_canBe cX6_canBe 3 2 g z [.ref (tb_ad g 157), .int (nI sl), .int x] (tb_b (sp_X6_canBe z sl x)) (z) := by
  refine tb_goi (own := RX6) (by decide +kernel) rfl (Nat.le_of_ble_eq_true rfl) ?_
  intro p e s m below meth c ls X hr hlk hH hl
  have hl : lv_has ls 3 [(0, .ref (tb_ad g (157))), (1, .int (nI (sl))), (2, .int (x))] := hl
  refine lv_aload_n X.1 X.2.1 dX6_canBe_0 rfl (lv_at hl 0 rfl) ?_
  refine lv_iload_n X.1 X.2.1 dX6_canBe_1 rfl (lv_at hl 1 rfl) ?_
  refine lv_iload_n X.1 X.2.1 dX6_canBe_2 rfl (lv_at hl 2 rfl) ?_
  refine tb_cVi X hH hl.1 (c_X6_isHow l g z sl x (by first | assumption | omega | decide)) ky_X6_isHow.1 ky_X6_isHow.2 wm_256 tb_oM rfl rfl (Nat.le_of_ble_eq_true rfl) ⟨by decide, by decide⟩ ⟨by decide, by decide⟩ dX6_canBe_3 (fun H locs hH => ?_)
  have J_1 : ∀ (H : Heap) (locs : List Loc) (ls : Array Slot) (vq1 : Int32), vq1 = (tb_b (((((z 158 ((11 + (46 * sl)) + 0))) = x)) ∧ ((x = (nI (3))) ∨ (¬ (((z 158 ((11 + (46 * sl)) + 4))) ≤ 0))))) → tb_H g s.heap z H locs → lv_has ls 3 [(0, .ref (tb_ad g (157))), (1, .int (nI (sl))), (2, .int (x))] → W p l e (tb_rm 2) s m ([.ref (tb_ad g 157), .int (nI sl), .int x] : List Value).toArray below meth c H locs 0 0 (MQ below (va_Qi (fun r9 u9 => r9 = tb_b (sp_X6_canBe z sl x) ∧ u9 = z) (tb_B g) (tb_A g)) ([.ref (tb_ad g 157), .int (nI sl), .int x] : List Value).toArray s 0 0 (tb_A g)) (F0 m 28 ls [.int vq1]) := by
    intro H locs ls vq1 evq1 hH hl
    subst evq1
    exact tb_rz X hr hlk hH ⟨(Iff.rfl).symm, rfl⟩ dX6_canBe_28
  refine tb_jbeq (tgt := 27) X dX6_canBe_6 (by decide) (fun c_1 => ?_) (fun c_1 => ?_)
  · refine lv_iconst (v := nI (0)) X.1 X.2.1 dX6_canBe_27 (by decide +kernel) ?_
    exact J_1 _ _ _ _ (tb_b_f (fun h => c_1 h.1)).symm hH (lv_sub hl [0, 1, 2] rfl)
  · refine lv_iload_n X.1 X.2.1 dX6_canBe_9 rfl (lv_at hl 2 rfl) ?_
    refine lv_iconst (v := nI (3)) X.1 X.2.1 dX6_canBe_10 (by decide +kernel) ?_
    refine lv_icmp_eq (tgt := 23) X.1 X.2.1 dX6_canBe_11 (by decide) (fun c_2 => ?_) (fun c_2 => ?_)
    · refine lv_iconst (v := nI (1)) X.1 X.2.1 dX6_canBe_23 (by decide +kernel) ?_
      refine lv_goto (tgt := 28) X.1 X.2.1 dX6_canBe_24 (by decide) ?_
      exact J_1 _ _ _ _ (tb_b_t ⟨c_1, (Or.inl c_2)⟩).symm hH (lv_sub hl [0, 1, 2] rfl)
    · refine lv_aload_n X.1 X.2.1 dX6_canBe_14 rfl (lv_at hl 0 rfl) ?_
      refine lv_iload_n X.1 X.2.1 dX6_canBe_15 rfl (lv_at hl 1 rfl) ?_
      refine lv_iconst (v := nI (4)) X.1 X.2.1 dX6_canBe_16 (by decide +kernel) ?_
      refine tb_cVi X hH hl.1 (c_X6_part l g z sl 4 (by first | assumption | omega | decide)) ky_X6_part.1 ky_X6_part.2 wm_229 tb_oM rfl rfl (Nat.le_of_ble_eq_true rfl) ⟨by decide, by decide⟩ ⟨by decide, by decide⟩ dX6_canBe_17 (fun H locs hH => ?_)
      refine lv_if_le (tgt := 27) X.1 X.2.1 dX6_canBe_20 (by decide) (fun c_3 => ?_) (fun c_3 => ?_)
      · refine lv_iconst (v := nI (0)) X.1 X.2.1 dX6_canBe_27 (by decide +kernel) ?_
        exact J_1 _ _ _ _ (tb_b_f (fun h => (fun h => h.elim c_2 (fun h => h c_3)) h.2)).symm hH (lv_sub hl [0, 1, 2] rfl)
      · refine lv_iconst (v := nI (1)) X.1 X.2.1 dX6_canBe_23 (by decide +kernel) ?_
        refine lv_goto (tgt := 28) X.1 X.2.1 dX6_canBe_24 (by decide) ?_
        exact J_1 _ _ _ _ (tb_b_t ⟨c_1, (Or.inr c_3)⟩).symm hH (lv_sub hl [0, 1, 2] rfl)
