def tb_gr (z : tb_M) (x : Int32) : Nat := if sp_X6_canBe z 0 x then (if sp_X6_canBe z 1 x then (if z 158 ((11 + (46 * 1)) + 1) ≤ z 158 ((11 + (46 * 0)) + 1) then 0 else 1) else 0) else (if sp_X6_canBe z 1 x then 1 else 2)
theorem tb_gr_le (z : tb_M) (x : Int32) : tb_gr z x ≤ 2 := by
  unfold tb_gr
  repeat' split
  all_goals decide
set_option maxHeartbeats 1000000 in
set_option maxRecDepth 100000 in
theorem c_X6_greatest (l : Launch) (g : tb_G) (z : tb_M) (x : Int32) : tb_Mi (.int) l yX6_greatest cX6_greatest 4 3 g z [.ref (tb_ad g 157), .int x] (tb_no (tb_gr z x)) (z) := by
  refine tb_goi (own := RX6) (by decide +kernel) rfl (Nat.le_of_ble_eq_true rfl) ?_
  intro p e s m below meth c ls X hr hlk hH hl
  have hl : lv_has ls 4 [(0, .ref (tb_ad g (157))), (1, .int (x))] := hl
  refine lv_aload_n X.1 X.2.1 dX6_greatest_0 rfl (lv_at hl 0 rfl) ?_
  refine lv_iconst (v := nI (0)) X.1 X.2.1 dX6_greatest_1 (by decide +kernel) ?_
  refine lv_iload_n X.1 X.2.1 dX6_greatest_2 rfl (lv_at hl 1 rfl) ?_
  refine tb_cVi X hH hl.1 (c_X6_canBe l g z 0 x (by first | assumption | omega | decide)) ky_X6_canBe.1 ky_X6_canBe.2 wm_413 tb_oM rfl rfl (Nat.le_of_ble_eq_true rfl) ⟨by decide, by decide⟩ ⟨by decide, by decide⟩ dX6_greatest_3 (fun H locs hH => ?_)
  refine lv_istore_n (lv' := [(2, .int (tb_b ((sp_X6_canBe z 0 x)))), (0, .ref (tb_ad g (157))), (1, .int (x))]) X.1 X.2.1 dX6_greatest_6 rfl hl (by decide) rfl (fun ls hl => ?_)
  refine lv_aload_n X.1 X.2.1 dX6_greatest_7 rfl (lv_at hl 1 rfl) ?_
  refine lv_iconst (v := nI (1)) X.1 X.2.1 dX6_greatest_8 (by decide +kernel) ?_
  refine lv_iload_n X.1 X.2.1 dX6_greatest_9 rfl (lv_at hl 2 rfl) ?_
  refine tb_cVi X hH hl.1 (c_X6_canBe l g z 1 x (by first | assumption | omega | decide)) ky_X6_canBe.1 ky_X6_canBe.2 wm_413 tb_oM rfl rfl (Nat.le_of_ble_eq_true rfl) ⟨by decide, by decide⟩ ⟨by decide, by decide⟩ dX6_greatest_10 (fun H locs hH => ?_)
  refine lv_istore_n (lv' := [(3, .int (tb_b ((sp_X6_canBe z 1 x)))), (2, .int (tb_b ((sp_X6_canBe z 0 x)))), (0, .ref (tb_ad g (157))), (1, .int (x))]) X.1 X.2.1 dX6_greatest_13 rfl hl (by decide) rfl (fun ls hl => ?_)
  refine lv_iload_n X.1 X.2.1 dX6_greatest_14 rfl (lv_at hl 1 rfl) ?_
  refine tb_jbeq (tgt := 43) X dX6_greatest_15 (by decide) (fun c_1 => ?_) (fun c_1 => ?_)
  · refine lv_iload_n X.1 X.2.1 dX6_greatest_43 rfl (lv_at hl 1 rfl) ?_
    refine tb_jbeq (tgt := 51) X dX6_greatest_44 (by decide) (fun c_2 => ?_) (fun c_2 => ?_)
    · refine lv_iload_n X.1 X.2.1 dX6_greatest_51 rfl (lv_at hl 0 rfl) ?_
      refine tb_jbeq (tgt := 59) X dX6_greatest_52 (by decide) (fun c_3 => ?_) (fun c_3 => ?_)
      · refine lv_bipush (v := (-6)) X.1 X.2.1 dX6_greatest_59 (by decide +kernel) ?_
        exact tb_ri X hr hlk hH ⟨(by unfold tb_gr; rw [if_neg c_1, if_neg c_3]; rfl), rfl⟩ dX6_greatest_61
      · refine lv_iconst (v := nI (1)) X.1 X.2.1 dX6_greatest_55 (by decide +kernel) ?_
        refine lv_goto (tgt := 61) X.1 X.2.1 dX6_greatest_56 (by decide) ?_
        exact tb_ri X hr hlk hH ⟨(by unfold tb_gr; rw [if_neg c_1, if_pos c_3]; rfl), rfl⟩ dX6_greatest_61
    · refine lv_iconst (v := nI (0)) X.1 X.2.1 dX6_greatest_47 (by decide +kernel) ?_
      refine lv_goto (tgt := 61) X.1 X.2.1 dX6_greatest_48 (by decide) ?_
      exact tb_ri X hr hlk hH ⟨(by exact absurd c_2 c_1), rfl⟩ dX6_greatest_61
  · refine lv_iload_n X.1 X.2.1 dX6_greatest_18 rfl (lv_at hl 0 rfl) ?_
    refine tb_jbeq (tgt := 43) X dX6_greatest_19 (by decide) (fun c_4 => ?_) (fun c_4 => ?_)
    · refine lv_iload_n X.1 X.2.1 dX6_greatest_43 rfl (lv_at hl 1 rfl) ?_
      refine tb_jbeq (tgt := 51) X dX6_greatest_44 (by decide) (fun c_5 => ?_) (fun c_5 => ?_)
      · refine lv_iload_n X.1 X.2.1 dX6_greatest_51 rfl (lv_at hl 0 rfl) ?_
        refine tb_jbeq (tgt := 59) X dX6_greatest_52 (by decide) (fun c_6 => ?_) (fun c_6 => ?_)
        · refine lv_bipush (v := (-6)) X.1 X.2.1 dX6_greatest_59 (by decide +kernel) ?_
          exact tb_ri X hr hlk hH ⟨(by exact absurd c_1 c_5), rfl⟩ dX6_greatest_61
        · refine lv_iconst (v := nI (1)) X.1 X.2.1 dX6_greatest_55 (by decide +kernel) ?_
          refine lv_goto (tgt := 61) X.1 X.2.1 dX6_greatest_56 (by decide) ?_
          exact tb_ri X hr hlk hH ⟨(by exact absurd c_1 c_5), rfl⟩ dX6_greatest_61
      · refine lv_iconst (v := nI (0)) X.1 X.2.1 dX6_greatest_47 (by decide +kernel) ?_
        refine lv_goto (tgt := 61) X.1 X.2.1 dX6_greatest_48 (by decide) ?_
        exact tb_ri X hr hlk hH ⟨(by unfold tb_gr; rw [if_pos c_1, if_neg c_4]; rfl), rfl⟩ dX6_greatest_61
    · refine lv_aload_n X.1 X.2.1 dX6_greatest_22 rfl (lv_at hl 2 rfl) ?_
      refine lv_iconst (v := nI (1)) X.1 X.2.1 dX6_greatest_23 (by decide +kernel) ?_
      refine lv_iconst (v := nI (1)) X.1 X.2.1 dX6_greatest_24 (by decide +kernel) ?_
      refine tb_cVi X hH hl.1 (c_X6_part l g z 1 1 (by first | assumption | omega | decide)) ky_X6_part.1 ky_X6_part.2 wm_229 tb_oM rfl rfl (Nat.le_of_ble_eq_true rfl) ⟨by decide, by decide⟩ ⟨by decide, by decide⟩ dX6_greatest_25 (fun H locs hH => ?_)
      refine lv_aload_n X.1 X.2.1 dX6_greatest_28 rfl (lv_at hl 2 rfl) ?_
      refine lv_iconst (v := nI (0)) X.1 X.2.1 dX6_greatest_29 (by decide +kernel) ?_
      refine lv_iconst (v := nI (1)) X.1 X.2.1 dX6_greatest_30 (by decide +kernel) ?_
      refine tb_cVi X hH hl.1 (c_X6_part l g z 0 1 (by first | assumption | omega | decide)) ky_X6_part.1 ky_X6_part.2 wm_229 tb_oM rfl rfl (Nat.le_of_ble_eq_true rfl) ⟨by decide, by decide⟩ ⟨by decide, by decide⟩ dX6_greatest_31 (fun H locs hH => ?_)
      refine lv_icmp_le (tgt := 41) X.1 X.2.1 dX6_greatest_34 (by decide) (fun c_7 => ?_) (fun c_7 => ?_)
      · refine lv_iconst (v := nI (0)) X.1 X.2.1 dX6_greatest_41 (by decide +kernel) ?_
        exact tb_ri X hr hlk hH ⟨(by unfold tb_gr; rw [if_pos c_1, if_pos c_4, if_pos c_7]; rfl), rfl⟩ dX6_greatest_42
      · refine lv_iconst (v := nI (1)) X.1 X.2.1 dX6_greatest_37 (by decide +kernel) ?_
        refine lv_goto (tgt := 42) X.1 X.2.1 dX6_greatest_38 (by decide) ?_
        exact tb_ri X hr hlk hH ⟨(by unfold tb_gr; rw [if_pos c_1, if_pos c_4, if_neg c_7]; rfl), rfl⟩ dX6_greatest_42
def tb_ch (z : tb_M) : Nat := if tb_gr z (nI 2) = 2 then tb_gr z (nI 3) else tb_gr z (nI 2)
theorem tb_ch_le (z : tb_M) : tb_ch z ≤ 2 := by
  unfold tb_ch
  split <;> exact tb_gr_le _ _
theorem tb_no_v {n : Nat} (h : n ≠ 2) : tb_no n = nI n := if_neg h
theorem tb_ch_1 {z : tb_M} (h1 : tb_no (tb_gr z (nI 2)) = (-6)) (h2 : tb_no (tb_gr z (nI 3)) = (-6)) : nI 2 = nI (tb_ch z) := by
  rw [tb_ch, if_pos ((tb_no_iff (tb_gr_le _ _)).mp h1), (tb_no_iff (tb_gr_le _ _)).mp h2]
theorem tb_ch_2 {z : tb_M} (h1 : tb_no (tb_gr z (nI 2)) = (-6)) (h2 : ¬ tb_no (tb_gr z (nI 3)) = (-6)) : tb_no (tb_gr z (nI 3)) = nI (tb_ch z) := by
  rw [tb_ch, if_pos ((tb_no_iff (tb_gr_le _ _)).mp h1), tb_no_v (fun e => h2 ((tb_no_iff (tb_gr_le _ _)).mpr e))]
theorem tb_ch_3 {z : tb_M} (h1 : ¬ tb_no (tb_gr z (nI 2)) = (-6)) : tb_no (tb_gr z (nI 2)) = nI (tb_ch z) := by
  rw [tb_ch, if_neg (fun e => h1 ((tb_no_iff (tb_gr_le _ _)).mpr e)), tb_no_v (fun e => h1 ((tb_no_iff (tb_gr_le _ _)).mpr e))]
set_option maxHeartbeats 1000000 in
set_option maxRecDepth 100000 in
theorem c_X6_chosen (l : Launch) (g : tb_G) (z : tb_M)  : tb_Mi (.int) l yX6_chosen cX6_chosen 2 4 g z [.ref (tb_ad g 157)] (nI (tb_ch z)) (z) := by
  refine tb_goi (own := RX6) (by decide +kernel) rfl (Nat.le_of_ble_eq_true rfl) ?_
  intro p e s m below meth c ls X hr hlk hH hl
  have hl : lv_has ls 2 [(0, .ref (tb_ad g (157)))] := hl
  refine lv_aload_n X.1 X.2.1 dX6_chosen_0 rfl (lv_at hl 0 rfl) ?_
  refine lv_iconst (v := nI (2)) X.1 X.2.1 dX6_chosen_1 (by decide +kernel) ?_
  refine tb_cVi X hH hl.1 (c_X6_greatest l g z (nI (2))) ky_X6_greatest.1 ky_X6_greatest.2 wm_409 tb_oM rfl rfl (Nat.le_of_ble_eq_true rfl) ⟨by decide, by decide⟩ ⟨by decide, by decide⟩ dX6_chosen_2 (fun H locs hH => ?_)
  have hb_1 := (tb_gr_le z (nI (2)))
  refine lv_istore_n (lv' := [(1, .int ((tb_no (tb_gr z (nI (2)))))), (0, .ref (tb_ad g (157)))]) X.1 X.2.1 dX6_chosen_5 rfl hl (by decide) rfl (fun ls hl => ?_)
  refine lv_iload_n X.1 X.2.1 dX6_chosen_6 rfl (lv_at hl 0 rfl) ?_
  refine lv_bipush (v := (-6)) X.1 X.2.1 dX6_chosen_7 (by decide +kernel) ?_
  refine lv_icmp_ne (tgt := 20) X.1 X.2.1 dX6_chosen_9 (by decide) (fun c_1 => ?_) (fun c_1 => ?_)
  · refine lv_iload_n X.1 X.2.1 dX6_chosen_20 rfl (lv_at hl 0 rfl) ?_
    refine lv_istore_n (lv' := [(1, .int ((tb_no (tb_gr z (nI (2)))))), (0, .ref (tb_ad g (157)))]) X.1 X.2.1 dX6_chosen_21 rfl hl (by decide) rfl (fun ls hl => ?_)
    refine lv_iload_n X.1 X.2.1 dX6_chosen_22 rfl (lv_at hl 0 rfl) ?_
    refine lv_bipush (v := (-6)) X.1 X.2.1 dX6_chosen_23 (by decide +kernel) ?_
    refine lv_icmp_ne (tgt := 32) X.1 X.2.1 dX6_chosen_25 (by decide) (fun c_2 => ?_) (fun c_2 => ?_)
    · refine lv_iload_n X.1 X.2.1 dX6_chosen_32 rfl (lv_at hl 0 rfl) ?_
      exact tb_ri X hr hlk hH ⟨(tb_ch_3 c_1), rfl⟩ dX6_chosen_33
    · refine lv_iconst (v := nI (2)) X.1 X.2.1 dX6_chosen_28 (by decide +kernel) ?_
      refine lv_goto (tgt := 33) X.1 X.2.1 dX6_chosen_29 (by decide) ?_
      exact tb_ri X hr hlk hH ⟨(absurd c_2 c_1), rfl⟩ dX6_chosen_33
  · refine lv_aload_n X.1 X.2.1 dX6_chosen_12 rfl (lv_at hl 1 rfl) ?_
    refine lv_iconst (v := nI (3)) X.1 X.2.1 dX6_chosen_13 (by decide +kernel) ?_
    refine tb_cVi X hH hl.1 (c_X6_greatest l g z (nI (3))) ky_X6_greatest.1 ky_X6_greatest.2 wm_409 tb_oM rfl rfl (Nat.le_of_ble_eq_true rfl) ⟨by decide, by decide⟩ ⟨by decide, by decide⟩ dX6_chosen_14 (fun H locs hH => ?_)
    have hb_2 := (tb_gr_le z (nI (3)))
    refine lv_goto (tgt := 21) X.1 X.2.1 dX6_chosen_17 (by decide) ?_
    refine lv_istore_n (lv' := [(1, .int ((tb_no (tb_gr z (nI (3)))))), (0, .ref (tb_ad g (157)))]) X.1 X.2.1 dX6_chosen_21 rfl hl (by decide) rfl (fun ls hl => ?_)
    refine lv_iload_n X.1 X.2.1 dX6_chosen_22 rfl (lv_at hl 0 rfl) ?_
    refine lv_bipush (v := (-6)) X.1 X.2.1 dX6_chosen_23 (by decide +kernel) ?_
    refine lv_icmp_ne (tgt := 32) X.1 X.2.1 dX6_chosen_25 (by decide) (fun c_3 => ?_) (fun c_3 => ?_)
    · refine lv_iload_n X.1 X.2.1 dX6_chosen_32 rfl (lv_at hl 0 rfl) ?_
      exact tb_ri X hr hlk hH ⟨(tb_ch_2 c_1 c_3), rfl⟩ dX6_chosen_33
    · refine lv_iconst (v := nI (2)) X.1 X.2.1 dX6_chosen_28 (by decide +kernel) ?_
      refine lv_goto (tgt := 33) X.1 X.2.1 dX6_chosen_29 (by decide) ?_
      exact tb_ri X hr hlk hH ⟨(tb_ch_1 c_1 c_3), rfl⟩ dX6_chosen_33
def sz_X6_remember_m1 (z : tb_M) (x : Int32) : tb_M := tb_up (tb_rm1 z 33) 158 103 ((tb_rm1 z 33) 158 3)
def sz_X6_remember_m2 (z : tb_M) (x : Int32) : tb_M := tb_up (tb_up (sz_X6_remember_m1 z x) 158 104 x) 158 105 ((tb_up (sz_X6_remember_m1 z x) 158 104 x) 158 9)
def sz_X6_remember (z : tb_M) (x : Int32) : tb_M := tb_up (sz_X6_remember_m2 z x) 158 10 (((sz_X6_remember_m2 z x) 158 10) + (tb_b (¬ ((nI (12)) ≤ ((sz_X6_remember_m2 z x) 158 10)))))
set_option maxHeartbeats 1000000 in
set_option maxRecDepth 100000 in
theorem c_X6_remember (l : Launch) (g : tb_G) (z : tb_M) (x : Int32) : tb_Mv l yX6_remember cX6_remember 3 0 g z [.ref (tb_ad g 157), .int x] (sz_X6_remember z x) := by
  refine tb_gov (own := RX6) (by decide +kernel) rfl (Nat.le_of_ble_eq_true rfl) ?_
  intro p e s m below meth c ls X hr hlk hH hl
  have hl : lv_has ls 3 [(0, .ref (tb_ad g (157))), (1, .int (x))] := hl
  refine lv_sipush (v := nI (138)) X.1 X.2.1 dX6_remember_0 (by decide +kernel) ?_
  refine lv_istore_n (lv' := [(2, .int (nI (138))), (0, .ref (tb_ad g (157))), (1, .int (x))]) X.1 X.2.1 dX6_remember_3 rfl hl (by decide) rfl (fun ls hl => ?_)
  have L_4 : ∀ (k : Nat) (j : Nat), j + k = 33 → ∀ (H : Heap) (locs : List Loc) (ls : Array Slot), tb_H g s.heap (tb_rm1 z j) H locs → lv_has ls 3 [(0, .ref (tb_ad g (157))), (1, .int (x)), (2, .int (nI (k + 105)))] → W p l e (tb_rm 0) s m ([.ref (tb_ad g 157), .int x] : List Value).toArray below meth c H locs 0 0 (MQ below (va_Qv (fun u9 => u9 = (sz_X6_remember z x)) (tb_B g) (tb_A g)) ([.ref (tb_ad g 157), .int x] : List Value).toArray s 0 0 (tb_A g)) (F0 m 4 ls []) := by
    intro k
    induction k with
    | zero =>
      intro j hjk H locs ls hH hl
      obtain rfl : j = 33 := by omega
      have hl : lv_has ls 3 [(0, .ref (tb_ad g (157))), (1, .int (x)), (2, .int (nI (105)))] := hl
      refine lv_iload_n X.1 X.2.1 dX6_remember_4 rfl (lv_at hl 2 rfl) ?_
      refine lv_bipush (v := nI (106)) X.1 X.2.1 dX6_remember_5 (by decide +kernel) ?_
      refine tb_nlt (tgt := 30) X (by omega) (by omega) dX6_remember_7 (by decide) (fun _ => ?_) (fun c => ((by omega) : False).elim)
      refine lv_aload_n X.1 X.2.1 dX6_remember_30 rfl (lv_at hl 0 rfl) ?_
      refine tb_get X hH tb_Mc.1 (tb_Mc.2 _ _) rfl inlX6 0 (by decide) wm_99 (v := .ref (tb_ad g (158))) rfl dX6_remember_31 ?_
      refine lv_bipush (v := nI (103)) X.1 X.2.1 dX6_remember_34 (by decide +kernel) ?_
      refine lv_aload_n X.1 X.2.1 dX6_remember_36 rfl (lv_at hl 0 rfl) ?_
      refine tb_get X hH tb_Mc.1 (tb_Mc.2 _ _) rfl inlX6 0 (by decide) wm_99 (v := .ref (tb_ad g (158))) rfl dX6_remember_37 ?_
      refine lv_iconst (v := nI (3)) X.1 X.2.1 dX6_remember_40 (by decide +kernel) ?_
      refine tb_ald X hH tb_i158 (3) rfl (by decide) (by first | decide | omega) dX6_remember_41 ?_
      refine tb_ast X hH tb_i158 (103) rfl (by decide) (by first | decide | omega) dX6_remember_42 (fun H locs hH => ?_)
      have hH : tb_H g s.heap (sz_X6_remember_m1 z x) H locs := hH
      refine lv_aload_n X.1 X.2.1 dX6_remember_43 rfl (lv_at hl 0 rfl) ?_
      refine tb_get X hH tb_Mc.1 (tb_Mc.2 _ _) rfl inlX6 0 (by decide) wm_99 (v := .ref (tb_ad g (158))) rfl dX6_remember_44 ?_
      refine lv_bipush (v := nI (104)) X.1 X.2.1 dX6_remember_47 (by decide +kernel) ?_
      refine lv_iload_n X.1 X.2.1 dX6_remember_49 rfl (lv_at hl 1 rfl) ?_
      refine tb_ast X hH tb_i158 (104) rfl (by decide) (by first | decide | omega) dX6_remember_50 (fun H locs hH => ?_)
      refine lv_aload_n X.1 X.2.1 dX6_remember_51 rfl (lv_at hl 0 rfl) ?_
      refine tb_get X hH tb_Mc.1 (tb_Mc.2 _ _) rfl inlX6 0 (by decide) wm_99 (v := .ref (tb_ad g (158))) rfl dX6_remember_52 ?_
      refine lv_bipush (v := nI (105)) X.1 X.2.1 dX6_remember_55 (by decide +kernel) ?_
      refine lv_aload_n X.1 X.2.1 dX6_remember_57 rfl (lv_at hl 0 rfl) ?_
      refine tb_get X hH tb_Mc.1 (tb_Mc.2 _ _) rfl inlX6 0 (by decide) wm_99 (v := .ref (tb_ad g (158))) rfl dX6_remember_58 ?_
      refine lv_bipush (v := nI (9)) X.1 X.2.1 dX6_remember_61 (by decide +kernel) ?_
      refine tb_ald X hH tb_i158 (9) rfl (by decide) (by first | decide | omega) dX6_remember_63 ?_
      refine tb_ast X hH tb_i158 (105) rfl (by decide) (by first | decide | omega) dX6_remember_64 (fun H locs hH => ?_)
      have hH : tb_H g s.heap (sz_X6_remember_m2 z x) H locs := hH
      refine lv_aload_n X.1 X.2.1 dX6_remember_65 rfl (lv_at hl 0 rfl) ?_
      refine tb_get X hH tb_Mc.1 (tb_Mc.2 _ _) rfl inlX6 0 (by decide) wm_99 (v := .ref (tb_ad g (158))) rfl dX6_remember_66 ?_
      refine lv_bipush (v := nI (10)) X.1 X.2.1 dX6_remember_69 (by decide +kernel) ?_
      refine lv_dup2_11 X.1 X.2.1 dX6_remember_71 rfl rfl ?_
      refine tb_ald X hH tb_i158 (10) rfl (by decide) (by first | decide | omega) dX6_remember_72 ?_
      refine lv_aload_n X.1 X.2.1 dX6_remember_73 rfl (lv_at hl 0 rfl) ?_
      refine tb_get X hH tb_Mc.1 (tb_Mc.2 _ _) rfl inlX6 0 (by decide) wm_99 (v := .ref (tb_ad g (158))) rfl dX6_remember_74 ?_
      refine lv_bipush (v := nI (10)) X.1 X.2.1 dX6_remember_77 (by decide +kernel) ?_
      refine tb_ald X hH tb_i158 (10) rfl (by decide) (by first | decide | omega) dX6_remember_79 ?_
      refine lv_bipush (v := nI (12)) X.1 X.2.1 dX6_remember_80 (by decide +kernel) ?_
      have J_1 : ∀ (H : Heap) (locs : List Loc) (ls : Array Slot) (vq1 : Int32), vq1 = (tb_b (¬ ((nI (12)) ≤ ((sz_X6_remember_m2 z x) 158 10)))) → tb_H g s.heap (sz_X6_remember_m2 z x) H locs → lv_has ls 3 [(0, .ref (tb_ad g (157))), (1, .int (x)), (2, .int (nI (105)))] → W p l e (tb_rm 0) s m ([.ref (tb_ad g 157), .int x] : List Value).toArray below meth c H locs 0 0 (MQ below (va_Qv (fun u9 => u9 = (sz_X6_remember z x)) (tb_B g) (tb_A g)) ([.ref (tb_ad g 157), .int x] : List Value).toArray s 0 0 (tb_A g)) (F0 m 90 ls [.int vq1, .int ((sz_X6_remember_m2 z x) 158 10), .int (nI (10)), .ref (tb_ad g (158))]) := by
        intro H locs ls vq1 evq1 hH hl
        subst evq1
        refine lv_iadd X.1 X.2.1 dX6_remember_90 ?_
        refine tb_ast X hH tb_i158 (10) rfl (by decide) (by first | decide | omega) dX6_remember_91 (fun H locs hH => ?_)
        exact tb_rv X hr hlk hH (by rw [sz_X6_remember]) dX6_remember_92
      refine lv_icmp_ge (tgt := 89) X.1 X.2.1 dX6_remember_82 (by decide) (fun c_1 => ?_) (fun c_1 => ?_)
      · refine lv_iconst (v := nI (0)) X.1 X.2.1 dX6_remember_89 (by decide +kernel) ?_
        exact J_1 _ _ _ _ (tb_b_f (fun h => h c_1)).symm hH (lv_sub hl [0, 1, 2] rfl)
      · refine lv_iconst (v := nI (1)) X.1 X.2.1 dX6_remember_85 (by decide +kernel) ?_
        refine lv_goto (tgt := 90) X.1 X.2.1 dX6_remember_86 (by decide) ?_
        exact J_1 _ _ _ _ (tb_b_t c_1).symm hH (lv_sub hl [0, 1, 2] rfl)
    | succ k ih_4 =>
      intro j hjk H locs ls hH hl
      have hl : lv_has ls 3 [(0, .ref (tb_ad g (157))), (1, .int (x)), (2, .int (nI ((k + 1) + 105)))] := hl
      refine lv_iload_n X.1 X.2.1 dX6_remember_4 rfl (lv_at hl 2 rfl) ?_
      refine lv_bipush (v := nI (106)) X.1 X.2.1 dX6_remember_5 (by decide +kernel) ?_
      refine tb_nlt (tgt := 30) X (by omega) (by omega) dX6_remember_7 (by decide) (fun c => ((by omega) : False).elim) (fun _ => ?_)
      refine lv_aload_n X.1 X.2.1 dX6_remember_10 rfl (lv_at hl 0 rfl) ?_
      refine tb_get X hH tb_Mc.1 (tb_Mc.2 _ _) rfl inlX6 0 (by decide) wm_99 (v := .ref (tb_ad g (158))) rfl dX6_remember_11 ?_
      refine lv_iload_n X.1 X.2.1 dX6_remember_14 rfl (lv_at hl 2 rfl) ?_
      refine lv_aload_n X.1 X.2.1 dX6_remember_15 rfl (lv_at hl 0 rfl) ?_
      refine tb_get X hH tb_Mc.1 (tb_Mc.2 _ _) rfl inlX6 0 (by decide) wm_99 (v := .ref (tb_ad g (158))) rfl dX6_remember_16 ?_
      refine lv_iload_n X.1 X.2.1 dX6_remember_19 rfl (lv_at hl 2 rfl) ?_
      refine lv_iconst (v := nI (3)) X.1 X.2.1 dX6_remember_20 (by decide +kernel) ?_
      refine tb_isubN X (by omega) dX6_remember_21 ?_
      refine tb_ald X hH tb_i158 (((k + 1) + 105) - 3) rfl (by omega) (by first | decide | omega) dX6_remember_22 ?_
      refine tb_ast X hH tb_i158 ((k + 1) + 105) rfl (by omega) (by first | decide | omega) dX6_remember_23 (fun H locs hH => ?_)
      refine lv_iinc (v := nI (k + 105)) (lv' := [(2, .int (nI (k + 105))), (0, .ref (tb_ad g (157))), (1, .int (x))]) X.1 X.2.1 dX6_remember_24 hl (k := 2) rfl ((by rw [show k + 1 + 105 = (k + 105) + 1 by omega]; exact pk_m1 _)) (by decide) rfl (fun ls hl => ?_)
      refine lv_goto (tgt := 4) X.1 X.2.1 dX6_remember_27 (by decide) ?_
      exact ih_4 (j + 1) (by omega) _ _ _ (by show tb_H g s.heap (tb_rm1 z (j + 1)) H locs; rw [tb_rm1, show 33 - j = k + 1 by omega]; exact hH) (lv_sub hl [1, 2, 0] rfl)
  exact L_4 33 0 rfl _ _ _ hH (lv_sub hl [1, 2, 0] rfl)
theorem tb_setM_2 (z : tb_M) (sl : Nat) (v : Int32) {r : Nat} (hr : r < 2) (hsl : sl < 2) : tb_up z 158 ((11 + (46 * sl)) + 0) v 158 (11 + 46 * r + 2) = z 158 (11 + 46 * r + 2) := tb_up_j _ _ _ (by omega)
theorem tb_setM_e (z : tb_M) (k : Nat) (v : Int32) {j : Nat} (h : j ≠ k) : tb_up z 158 k v 158 j = z 158 j := tb_up_j _ _ _ h
/-- behind a choice: how the chosen slot was; a slot that is bad isn't chosen -/
theorem tb_gr_how {z : tb_M} {x : Int32} {r : Nat} (h : tb_gr z x = r) (hr : ¬ r = 2) : z 158 ((11 + (46 * r)) + 0) = x := by
  unfold tb_gr at h
  split at h
  · rename_i a
    split at h
    · rename_i b
      split at h
      · subst h; exact a.1
      · subst h; exact b.1
    · subst h; exact a.1
  · split at h
    · rename_i b
      subst h; exact b.1
    · exact absurd h.symm hr
theorem tb_ch_how {z : tb_M} (h : ¬ tb_ch z = 2) : z 158 ((11 + (46 * tb_ch z)) + 0) ≠ nI 4 := by
  by_cases g : tb_gr z (nI 2) = 2
  · have e : tb_ch z = tb_gr z (nI 3) := by rw [tb_ch, if_pos g]
    rw [e] at h ⊢
    rw [tb_gr_how rfl h]
    decide +kernel
  · have e : tb_ch z = tb_gr z (nI 2) := by rw [tb_ch, if_neg g]
    rw [e] at h ⊢
    rw [tb_gr_how rfl h]
    decide +kernel
/-- two slots made bad one behind the other: none is left -/
theorem tb_ch_3rd {z : tb_M} (h1 : ¬ tb_ch z = 2) (h2 : ¬ tb_ch (tb_up z 158 ((11 + (46 * tb_ch z)) + 0) (nI 4)) = 2) : tb_ch (tb_up (tb_up z 158 ((11 + (46 * tb_ch z)) + 0) (nI 4)) 158 ((11 + (46 * tb_ch (tb_up z 158 ((11 + (46 * tb_ch z)) + 0) (nI 4)))) + 0) (nI 4)) = 2 := by
  apply Decidable.byContradiction
  intro h3
  have a1 := tb_ch_le z
  generalize ha : tb_ch z = a at *
  have b1 := tb_ch_le (tb_up z 158 ((11 + (46 * a)) + 0) (nI 4))
  have bh := tb_ch_how h2
  generalize hb : tb_ch (tb_up z 158 ((11 + (46 * a)) + 0) (nI 4)) = b at *
  have hab : b ≠ a := fun e => bh (by rw [e]; exact tb_up_s _ _ _ _)
  have c1 := tb_ch_le (tb_up (tb_up z 158 ((11 + (46 * a)) + 0) (nI 4)) 158 ((11 + (46 * b)) + 0) (nI 4))
  have ch := tb_ch_how h3
  generalize hc : tb_ch (tb_up (tb_up z 158 ((11 + (46 * a)) + 0) (nI 4)) 158 ((11 + (46 * b)) + 0) (nI 4)) = c at *
  have hcb : c ≠ b := fun e => ch (by rw [e]; exact tb_up_s _ _ _ _)
  have hca : c ≠ a := fun e => ch (by rw [tb_setM_e _ _ _ (by omega), e]; exact tb_up_s _ _ _ _)
  omega
