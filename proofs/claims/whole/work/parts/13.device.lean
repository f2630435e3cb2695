set_option maxHeartbeats 1000000 in
set_option maxRecDepth 100000 in
theorem c_X4_indexOf (l : Launch) (g : tb_G) (z : tb_M) (q : Nat) (hq : tb_isS q) (b : Nat) (al : Nat) (hal : z q 0 = nI al) (hal2 : al < 2 ^ 30) (hb : b + 1 ≤ al) : tb_Mi (.int) l yX4_indexOf cX4_indexOf 2 1 g z [.ref (tb_ad g q), .int (nI b)] (nI ((((al - 1) - b) % 12))) (z) := by
  refine tb_goi (own := RX4) (by decide +kernel) rfl (Nat.le_of_ble_eq_true rfl) ?_
  intro p e s m below meth c ls X hr hlk hH hl
  have hl : lv_has ls 2 [(0, .ref (tb_ad g (q))), (1, .int (nI (b)))] := hl
  refine lv_aload_n X.1 X.2.1 dX4_indexOf_0 rfl (lv_at hl 0 rfl) ?_
  refine tb_get X hH (tb_Sc hq).1 ((tb_Sc hq).2 _ _) rfl inlX4 0 (by decide) wm_151 (v := .int (z q 0)) rfl dX4_indexOf_1 ?_
  refine tb_top (x2 := nI (al)) (hal) ?_
  refine lv_iconst (v := nI (1)) X.1 X.2.1 dX4_indexOf_4 (by decide +kernel) ?_
  refine tb_isubN X (by omega) dX4_indexOf_5 ?_
  refine lv_iload_n X.1 X.2.1 dX4_indexOf_6 rfl (lv_at hl 1 rfl) ?_
  refine tb_isubN X (by omega) dX4_indexOf_7 ?_
  refine lv_bipush (v := nI (12)) X.1 X.2.1 dX4_indexOf_8 (by decide +kernel) ?_
  refine tb_cSi X hH hl.1 (c_J9_floorMod_7cf53 l g z ((al - 1) - b) 12 (by omega) (by decide) (by decide)) ky_J9_floorMod_7cf53.1 ky_J9_floorMod_7cf53.2 wm_396 rfl rfl (Nat.le_of_ble_eq_true rfl) ⟨by decide, by decide⟩ ⟨by decide, by decide⟩ dX4_indexOf_10 (fun H locs hH => ?_)
  exact tb_ri X hr hlk hH ⟨rfl, rfl⟩ dX4_indexOf_13
def sz_X4_copyFrom (z : tb_M) (q : Nat) (w : Nat) : tb_M := tb_cp (tb_cp (tb_cp (tb_up (tb_up (tb_up z q 0 (z w 0)) q 1 ((tb_up z q 0 (z w 0)) w 1)) q 2 ((tb_up (tb_up z q 0 (z w 0)) q 1 ((tb_up z q 0 (z w 0)) w 1)) w 2)) (w + 1) (q + 1) 12) (w + 2) (q + 2) 12) (w + 3) (q + 3) 12
set_option maxHeartbeats 1000000 in
set_option maxRecDepth 100000 in
theorem c_X4_copyFrom (l : Launch) (g : tb_G) (z : tb_M) (q : Nat) (hq : tb_isS q) (w : Nat) (hw : tb_isS w) : tb_Mv l yX4_copyFrom cX4_copyFrom 2 1 g z [.ref (tb_ad g q), .ref (tb_ad g w)] (sz_X4_copyFrom z q w) := by
  refine tb_gov (own := RX4) (by decide +kernel) rfl (Nat.le_of_ble_eq_true rfl) ?_
  intro p e s m below meth c ls X hr hlk hH hl
  have hl : lv_has ls 2 [(0, .ref (tb_ad g (q))), (1, .ref (tb_ad g (w)))] := hl
  refine lv_aload_n X.1 X.2.1 dX4_copyFrom_0 rfl (lv_at hl 0 rfl) ?_
  refine lv_aload_n X.1 X.2.1 dX4_copyFrom_1 rfl (lv_at hl 1 rfl) ?_
  refine tb_get X hH (tb_Sc hw).1 ((tb_Sc hw).2 _ _) rfl inlX4 0 (by decide) wm_151 (v := .int (z w 0)) rfl dX4_copyFrom_2 ?_
  refine tb_putS X hH hq 0 (by decide) wm_151 dX4_copyFrom_5 (fun H locs hH => ?_)
  refine lv_aload_n X.1 X.2.1 dX4_copyFrom_8 rfl (lv_at hl 0 rfl) ?_
  refine lv_aload_n X.1 X.2.1 dX4_copyFrom_9 rfl (lv_at hl 1 rfl) ?_
  refine tb_get X hH (tb_Sc hw).1 ((tb_Sc hw).2 _ _) rfl inlX4 1 (by decide) wm_152 (v := .int ((tb_up z q 0 (z w 0)) w 1)) rfl dX4_copyFrom_10 ?_
  refine tb_putS X hH hq 1 (by decide) wm_152 dX4_copyFrom_13 (fun H locs hH => ?_)
  refine lv_aload_n X.1 X.2.1 dX4_copyFrom_16 rfl (lv_at hl 0 rfl) ?_
  refine lv_aload_n X.1 X.2.1 dX4_copyFrom_17 rfl (lv_at hl 1 rfl) ?_
  refine tb_get X hH (tb_Sc hw).1 ((tb_Sc hw).2 _ _) rfl inlX4 2 (by decide) wm_153 (v := .int ((tb_up (tb_up z q 0 (z w 0)) q 1 ((tb_up z q 0 (z w 0)) w 1)) w 2)) rfl dX4_copyFrom_18 ?_
  refine tb_putS X hH hq 2 (by decide) wm_153 dX4_copyFrom_21 (fun H locs hH => ?_)
  refine lv_aload_n X.1 X.2.1 dX4_copyFrom_24 rfl (lv_at hl 1 rfl) ?_
  refine tb_get X hH (tb_Sc hw).1 ((tb_Sc hw).2 _ _) rfl inlX4 3 (by decide) wm_56 (v := .ref (tb_ad g (w + 1))) rfl dX4_copyFrom_25 ?_
  refine lv_iconst (v := nI (0)) X.1 X.2.1 dX4_copyFrom_28 (by decide +kernel) ?_
  refine lv_aload_n X.1 X.2.1 dX4_copyFrom_29 rfl (lv_at hl 0 rfl) ?_
  refine tb_get X hH (tb_Sc hq).1 ((tb_Sc hq).2 _ _) rfl inlX4 3 (by decide) wm_56 (v := .ref (tb_ad g (q + 1))) rfl dX4_copyFrom_30 ?_
  refine lv_iconst (v := nI (0)) X.1 X.2.1 dX4_copyFrom_33 (by decide +kernel) ?_
  refine lv_bipush (v := nI (12)) X.1 X.2.1 dX4_copyFrom_34 (by decide +kernel) ?_
  refine tb_acp X hH hl.1 (tb_s1 hw) (tb_s1 hq) 12 (by decide) (by decide) (by decide) wm_154 wm_135 wm_136 wm_137 (by decide) (Nat.le_of_ble_eq_true rfl) dX4_copyFrom_36 (fun H locs hH => ?_)
  refine lv_aload_n X.1 X.2.1 dX4_copyFrom_39 rfl (lv_at hl 1 rfl) ?_
  refine tb_get X hH (tb_Sc hw).1 ((tb_Sc hw).2 _ _) rfl inlX4 4 (by decide) wm_57 (v := .ref (tb_ad g (w + 2))) rfl dX4_copyFrom_40 ?_
  refine lv_iconst (v := nI (0)) X.1 X.2.1 dX4_copyFrom_43 (by decide +kernel) ?_
  refine lv_aload_n X.1 X.2.1 dX4_copyFrom_44 rfl (lv_at hl 0 rfl) ?_
  refine tb_get X hH (tb_Sc hq).1 ((tb_Sc hq).2 _ _) rfl inlX4 4 (by decide) wm_57 (v := .ref (tb_ad g (q + 2))) rfl dX4_copyFrom_45 ?_
  refine lv_iconst (v := nI (0)) X.1 X.2.1 dX4_copyFrom_48 (by decide +kernel) ?_
  refine lv_bipush (v := nI (12)) X.1 X.2.1 dX4_copyFrom_49 (by decide +kernel) ?_
  refine tb_acp X hH hl.1 (tb_s2 hw) (tb_s2 hq) 12 (by decide) (by decide) (by decide) wm_154 wm_135 wm_136 wm_137 (by decide) (Nat.le_of_ble_eq_true rfl) dX4_copyFrom_51 (fun H locs hH => ?_)
  refine lv_aload_n X.1 X.2.1 dX4_copyFrom_54 rfl (lv_at hl 1 rfl) ?_
  refine tb_get X hH (tb_Sc hw).1 ((tb_Sc hw).2 _ _) rfl inlX4 5 (by decide) wm_58 (v := .ref (tb_ad g (w + 3))) rfl dX4_copyFrom_55 ?_
  refine lv_iconst (v := nI (0)) X.1 X.2.1 dX4_copyFrom_58 (by decide +kernel) ?_
  refine lv_aload_n X.1 X.2.1 dX4_copyFrom_59 rfl (lv_at hl 0 rfl) ?_
  refine tb_get X hH (tb_Sc hq).1 ((tb_Sc hq).2 _ _) rfl inlX4 5 (by decide) wm_58 (v := .ref (tb_ad g (q + 3))) rfl dX4_copyFrom_60 ?_
  refine lv_iconst (v := nI (0)) X.1 X.2.1 dX4_copyFrom_63 (by decide +kernel) ?_
  refine lv_bipush (v := nI (12)) X.1 X.2.1 dX4_copyFrom_64 (by decide +kernel) ?_
  refine tb_acp X hH hl.1 (tb_s3 hw) (tb_s3 hq) 12 (by decide) (by decide) (by decide) wm_154 wm_135 wm_136 wm_137 (by decide) (Nat.le_of_ble_eq_true rfl) dX4_copyFrom_66 (fun H locs hH => ?_)
  exact tb_rv X hr hlk hH (by rw [sz_X4_copyFrom]) dX4_copyFrom_69
def sz_X4_add_m1 (z : tb_M) (q : Nat) (x : Nat) (w : Int32) (y : Int32) (al : Nat) : tb_M := if w = (nI (1)) then (tb_up (tb_up (tb_up (tb_up (tb_up (tb_up z q 0 (nI (al + 1))) q 2 (if nI (12) < ((tb_up z q 0 (nI (al + 1))) q 2) + (nI (1)) then nI (12) else ((tb_up z q 0 (nI (al + 1))) q 2) + (nI (1)))) (q + 1) (al % 12) (nI (x))) (q + 2) (al % 12) w) (q + 3) (al % 12) y) q 1 (((tb_up (tb_up (tb_up (tb_up (tb_up z q 0 (nI (al + 1))) q 2 (if nI (12) < ((tb_up z q 0 (nI (al + 1))) q 2) + (nI (1)) then nI (12) else ((tb_up z q 0 (nI (al + 1))) q 2) + (nI (1)))) (q + 1) (al % 12) (nI (x))) (q + 2) (al % 12) w) (q + 3) (al % 12) y) q 1) + (nI (1)))) else (tb_up (tb_up (tb_up (tb_up (tb_up z q 0 (nI (al + 1))) q 2 (if nI (12) < ((tb_up z q 0 (nI (al + 1))) q 2) + (nI (1)) then nI (12) else ((tb_up z q 0 (nI (al + 1))) q 2) + (nI (1)))) (q + 1) (al % 12) (nI (x))) (q + 2) (al % 12) w) (q + 3) (al % 12) y)
set_option maxHeartbeats 1000000 in
set_option maxRecDepth 100000 in
theorem c_X4_add (l : Launch) (g : tb_G) (z : tb_M) (q : Nat) (hq : tb_isS q) (x : Nat) (w : Int32) (y : Int32) (al : Nat) (hal : z q 0 = nI al) (hal2 : al + 1 < 2 ^ 30) : tb_Mv l yX4_add cX4_add 5 2 g z [.ref (tb_ad g q), .int (nI x), .int w, .int y] (sz_X4_add_m1 z q x w y al) := by
  refine tb_gov (own := RX4) (by decide +kernel) rfl (Nat.le_of_ble_eq_true rfl) ?_
  intro p e s m below meth c ls X hr hlk hH hl
  have hl : lv_has ls 5 [(0, .ref (tb_ad g (q))), (1, .int (nI (x))), (2, .int (w)), (3, .int (y))] := hl
  refine lv_aload_n X.1 X.2.1 dX4_add_0 rfl (lv_at hl 0 rfl) ?_
  refine lv_dup X.1 X.2.1 dX4_add_1 rfl ?_
  refine tb_get X hH (tb_Sc hq).1 ((tb_Sc hq).2 _ _) rfl inlX4 0 (by decide) wm_151 (v := .int (z q 0)) rfl dX4_add_2 ?_
  refine tb_top (x2 := nI (al)) (hal) ?_
  refine lv_iconst (v := nI (1)) X.1 X.2.1 dX4_add_5 (by decide +kernel) ?_
  refine tb_iaddN X dX4_add_6 ?_
  refine tb_putS X hH hq 0 (by decide) wm_151 dX4_add_7 (fun H locs hH => ?_)
  refine lv_aload_n X.1 X.2.1 dX4_add_10 rfl (lv_at hl 0 rfl) ?_
  refine lv_aload_n X.1 X.2.1 dX4_add_11 rfl (lv_at hl 0 rfl) ?_
  refine tb_get X hH (tb_Sc hq).1 ((tb_Sc hq).2 _ _) rfl inlX4 2 (by decide) wm_153 (v := .int ((tb_up z q 0 (nI (al + 1))) q 2)) rfl dX4_add_12 ?_
  refine lv_iconst (v := nI (1)) X.1 X.2.1 dX4_add_15 (by decide +kernel) ?_
  refine lv_iadd X.1 X.2.1 dX4_add_16 ?_
  refine lv_bipush (v := nI (12)) X.1 X.2.1 dX4_add_17 (by decide +kernel) ?_
  refine tb_cmin X hl.1 wm_391 wm_123 wm_124 wm_125 (by decide) (Nat.le_of_ble_eq_true rfl) ⟨by decide, by decide⟩ dX4_add_19 ?_
  refine tb_putS X hH hq 2 (by decide) wm_153 dX4_add_22 (fun H locs hH => ?_)
  refine lv_aload_n X.1 X.2.1 dX4_add_25 rfl (lv_at hl 0 rfl) ?_
  refine lv_iconst (v := nI (0)) X.1 X.2.1 dX4_add_26 (by decide +kernel) ?_
  refine tb_cVi X hH hl.1 (c_X4_indexOf l g (tb_up (tb_up z q 0 (nI (al + 1))) q 2 (if nI (12) < ((tb_up z q 0 (nI (al + 1))) q 2) + (nI (1)) then nI (12) else ((tb_up z q 0 (nI (al + 1))) q 2) + (nI (1)))) q hq 0 (al + 1) (by rw [tb_up_j _ _ _ (by decide), tb_up_s]) (by omega) (by omega)) ky_X4_indexOf.1 ky_X4_indexOf.2 wm_392 (tb_oS hq) rfl rfl (Nat.le_of_ble_eq_true rfl) ⟨by decide, by decide⟩ ⟨by decide, by decide⟩ dX4_add_27 (fun H locs hH => ?_)
  refine tb_top (x2 := nI (al % 12)) (rfl) ?_
  refine lv_istore (lv' := [(4, .int (nI (al % 12))), (0, .ref (tb_ad g (q))), (1, .int (nI (x))), (2, .int (w)), (3, .int (y))]) X.1 X.2.1 dX4_add_30 hl (by decide) rfl (fun ls hl => ?_)
  refine lv_aload_n X.1 X.2.1 dX4_add_32 rfl (lv_at hl 1 rfl) ?_
  refine tb_get X hH (tb_Sc hq).1 ((tb_Sc hq).2 _ _) rfl inlX4 3 (by decide) wm_56 (v := .ref (tb_ad g (q + 1))) rfl dX4_add_33 ?_
  refine lv_iload X.1 X.2.1 dX4_add_36 (lv_at hl 0 rfl) ?_
  refine lv_iload_n X.1 X.2.1 dX4_add_38 rfl (lv_at hl 2 rfl) ?_
  refine tb_ast X hH (tb_s1 hq) (al % 12) rfl (by omega) (by first | decide | omega) dX4_add_39 (fun H locs hH => ?_)
  refine lv_aload_n X.1 X.2.1 dX4_add_40 rfl (lv_at hl 1 rfl) ?_
  refine tb_get X hH (tb_Sc hq).1 ((tb_Sc hq).2 _ _) rfl inlX4 4 (by decide) wm_57 (v := .ref (tb_ad g (q + 2))) rfl dX4_add_41 ?_
  refine lv_iload X.1 X.2.1 dX4_add_44 (lv_at hl 0 rfl) ?_
  refine lv_iload_n X.1 X.2.1 dX4_add_46 rfl (lv_at hl 3 rfl) ?_
  refine tb_ast X hH (tb_s2 hq) (al % 12) rfl (by omega) (by first | decide | omega) dX4_add_47 (fun H locs hH => ?_)
  refine lv_aload_n X.1 X.2.1 dX4_add_48 rfl (lv_at hl 1 rfl) ?_
  refine tb_get X hH (tb_Sc hq).1 ((tb_Sc hq).2 _ _) rfl inlX4 5 (by decide) wm_58 (v := .ref (tb_ad g (q + 3))) rfl dX4_add_49 ?_
  refine lv_iload X.1 X.2.1 dX4_add_52 (lv_at hl 0 rfl) ?_
  refine lv_iload_n X.1 X.2.1 dX4_add_54 rfl (lv_at hl 4 rfl) ?_
  refine tb_ast X hH (tb_s3 hq) (al % 12) rfl (by omega) (by first | decide | omega) dX4_add_55 (fun H locs hH => ?_)
  refine lv_iload_n X.1 X.2.1 dX4_add_56 rfl (lv_at hl 3 rfl) ?_
  refine lv_iconst (v := nI (1)) X.1 X.2.1 dX4_add_57 (by decide +kernel) ?_
  have J_1 : ∀ (H : Heap) (locs : List Loc) (ls : Array Slot) (zq : tb_M), zq = (if w = (nI (1)) then (tb_up (tb_up (tb_up (tb_up (tb_up (tb_up z q 0 (nI (al + 1))) q 2 (if nI (12) < ((tb_up z q 0 (nI (al + 1))) q 2) + (nI (1)) then nI (12) else ((tb_up z q 0 (nI (al + 1))) q 2) + (nI (1)))) (q + 1) (al % 12) (nI (x))) (q + 2) (al % 12) w) (q + 3) (al % 12) y) q 1 (((tb_up (tb_up (tb_up (tb_up (tb_up z q 0 (nI (al + 1))) q 2 (if nI (12) < ((tb_up z q 0 (nI (al + 1))) q 2) + (nI (1)) then nI (12) else ((tb_up z q 0 (nI (al + 1))) q 2) + (nI (1)))) (q + 1) (al % 12) (nI (x))) (q + 2) (al % 12) w) (q + 3) (al % 12) y) q 1) + (nI (1)))) else (tb_up (tb_up (tb_up (tb_up (tb_up z q 0 (nI (al + 1))) q 2 (if nI (12) < ((tb_up z q 0 (nI (al + 1))) q 2) + (nI (1)) then nI (12) else ((tb_up z q 0 (nI (al + 1))) q 2) + (nI (1)))) (q + 1) (al % 12) (nI (x))) (q + 2) (al % 12) w) (q + 3) (al % 12) y)) → tb_H g s.heap zq H locs → lv_has ls 5 [(4, .int (nI (al % 12))), (0, .ref (tb_ad g (q))), (1, .int (nI (x))), (2, .int (w)), (3, .int (y))] → W p l e (tb_rm 2) s m ([.ref (tb_ad g q), .int (nI x), .int w, .int y] : List Value).toArray below meth c H locs 0 0 (MQ below (va_Qv (fun u9 => u9 = (sz_X4_add_m1 z q x w y al)) (tb_B g) (tb_A g)) ([.ref (tb_ad g q), .int (nI x), .int w, .int y] : List Value).toArray s 0 0 (tb_A g)) (F0 m 71 ls []) := by
    intro H locs ls zq  ezq  hH hl
    subst ezq
    have hH : tb_H g s.heap (sz_X4_add_m1 z q x w y al) H locs := hH
    exact tb_rv X hr hlk hH rfl dX4_add_71
  refine lv_icmp_ne (tgt := 71) X.1 X.2.1 dX4_add_58 (by decide) (fun c_1 => ?_) (fun c_1 => ?_)
  · exact J_1 _ _ _ _ (by simp only [if_neg c_1]) hH (lv_sub hl [0, 1, 2, 3, 4] rfl)
  · refine lv_aload_n X.1 X.2.1 dX4_add_61 rfl (lv_at hl 1 rfl) ?_
    refine lv_dup X.1 X.2.1 dX4_add_62 rfl ?_
    refine tb_get X hH (tb_Sc hq).1 ((tb_Sc hq).2 _ _) rfl inlX4 1 (by decide) wm_152 (v := .int ((tb_up (tb_up (tb_up (tb_up (tb_up z q 0 (nI (al + 1))) q 2 (if nI (12) < ((tb_up z q 0 (nI (al + 1))) q 2) + (nI (1)) then nI (12) else ((tb_up z q 0 (nI (al + 1))) q 2) + (nI (1)))) (q + 1) (al % 12) (nI (x))) (q + 2) (al % 12) w) (q + 3) (al % 12) y) q 1)) rfl dX4_add_63 ?_
    refine lv_iconst (v := nI (1)) X.1 X.2.1 dX4_add_66 (by decide +kernel) ?_
    refine lv_iadd X.1 X.2.1 dX4_add_67 ?_
    refine tb_putS X hH hq 1 (by decide) wm_152 dX4_add_68 (fun H locs hH => ?_)
    exact J_1 _ _ _ _ (by simp only [if_pos c_1]) hH (lv_sub hl [0, 1, 2, 3, 4] rfl)
set_option maxHeartbeats 1000000 in
set_option maxRecDepth 100000 in
theorem c_X1_areaAt (l : Launch) (g : tb_G) (z : tb_M) (d : Nat) (hd : tb_isD d) (r : Nat) (hr2 : r ≤ 2) : tb_Mr "TrialBoots$Area" l yX1_areaAt cX1_areaAt 2 0 g z [.ref (tb_ad g d), .int (nI r)] (tb_at d r) (z) := by
  refine tb_gor (own := RX1) (by decide +kernel) rfl (Nat.le_of_ble_eq_true rfl) ?_
  intro p e s m below meth c ls X hr hlk hH hl
  have hl : lv_has ls 2 [(0, .ref (tb_ad g (d))), (1, .int (nI (r)))] := hl
  refine lv_iload_n X.1 X.2.1 dX1_areaAt_0 rfl (lv_at hl 1 rfl) ?_
  refine tb_zne (tgt := 9) X (by omega) dX1_areaAt_1 (by decide) (fun c_1 => ?_) (fun c_1 => ?_)
  · refine lv_iload_n X.1 X.2.1 dX1_areaAt_9 rfl (lv_at hl 1 rfl) ?_
    refine lv_iconst (v := nI (1)) X.1 X.2.1 dX1_areaAt_10 (by decide +kernel) ?_
    refine tb_nne (tgt := 21) X (by omega) (by omega) dX1_areaAt_11 (by decide) (fun c_2 => ?_) (fun c_2 => ?_)
    · refine lv_aload_n X.1 X.2.1 dX1_areaAt_21 rfl (lv_at hl 0 rfl) ?_
      refine tb_get X hH (tb_Dc hd).1 ((tb_Dc hd).2 _ _) rfl inlX1 3 (by decide) wm_40 (v := .ref (tb_ad g (d + 8))) rfl dX1_areaAt_22 ?_
      exact tb_rr X hr hlk hH ⟨(by simp [tb_at, c_1, c_2]), rfl⟩ dX1_areaAt_25
    · refine lv_aload_n X.1 X.2.1 dX1_areaAt_14 rfl (lv_at hl 0 rfl) ?_
      refine tb_get X hH (tb_Dc hd).1 ((tb_Dc hd).2 _ _) rfl inlX1 2 (by decide) wm_39 (v := .ref (tb_ad g (d + 5))) rfl dX1_areaAt_15 ?_
      refine lv_goto (tgt := 25) X.1 X.2.1 dX1_areaAt_18 (by decide) ?_
      exact tb_rr X hr hlk hH ⟨(by simp [tb_at, c_1, c_2]), rfl⟩ dX1_areaAt_25
  · refine lv_aload_n X.1 X.2.1 dX1_areaAt_4 rfl (lv_at hl 0 rfl) ?_
    refine tb_get X hH (tb_Dc hd).1 ((tb_Dc hd).2 _ _) rfl inlX1 1 (by decide) wm_38 (v := .ref (tb_ad g (d + 2))) rfl dX1_areaAt_5 ?_
    exact tb_rr X hr hlk hH ⟨(by simp [tb_at, c_1]), rfl⟩ dX1_areaAt_8
def sr_X1_badSlots (z : tb_M) (d : Nat) : Int32 := (tb_b ((z (d + 2) 0) = (nI (4)))) + (tb_b ((z (d + 5) 0) = (nI (4))))
set_option maxHeartbeats 1000000 in
set_option maxRecDepth 100000 in
theorem c_X1_badSlots (l : Launch) (g : tb_G) (z : tb_M) (d : Nat) (hd : tb_isD d) : tb_Mi (.int) l yX1_badSlots cX1_badSlots 1 0 g z [.ref (tb_ad g d)] (sr_X1_badSlots z d) (z) := by
  refine tb_goi (own := RX1) (by decide +kernel) rfl (Nat.le_of_ble_eq_true rfl) ?_
  intro p e s m below meth c ls X hr hlk hH hl
  have hl : lv_has ls 1 [(0, .ref (tb_ad g (d)))] := hl
  refine lv_aload_n X.1 X.2.1 dX1_badSlots_0 rfl (lv_at hl 0 rfl) ?_
  refine tb_get X hH (tb_Dc hd).1 ((tb_Dc hd).2 _ _) rfl inlX1 1 (by decide) wm_38 (v := .ref (tb_ad g (d + 2))) rfl dX1_badSlots_1 ?_
  refine tb_get X hH (tb_Ac (tb_A1 hd)).1 ((tb_Ac (tb_A1 hd)).2 _ _) rfl inlX0 0 (by decide) wm_372 (v := .int (z (d + 2) 0)) rfl dX1_badSlots_4 ?_
  refine lv_iconst (v := nI (4)) X.1 X.2.1 dX1_badSlots_7 (by decide +kernel) ?_
  have J_1 : ∀ (H : Heap) (locs : List Loc) (ls : Array Slot) (vq1 : Int32), vq1 = (tb_b ((z (d + 2) 0) = (nI (4)))) → tb_H g s.heap z H locs → lv_has ls 1 [(0, .ref (tb_ad g (d)))] → W p l e (tb_rm 0) s m ([.ref (tb_ad g d)] : List Value).toArray below meth c H locs 0 0 (MQ below (va_Qi (fun r9 u9 => r9 = sr_X1_badSlots z d ∧ u9 = z) (tb_B g) (tb_A g)) ([.ref (tb_ad g d)] : List Value).toArray s 0 0 (tb_A g)) (F0 m 16 ls [.int vq1]) := by
    intro H locs ls vq1 evq1 hH hl
    subst evq1
    refine lv_aload_n X.1 X.2.1 dX1_badSlots_16 rfl (lv_at hl 0 rfl) ?_
    refine tb_get X hH (tb_Dc hd).1 ((tb_Dc hd).2 _ _) rfl inlX1 2 (by decide) wm_39 (v := .ref (tb_ad g (d + 5))) rfl dX1_badSlots_17 ?_
    refine tb_get X hH (tb_Ac (tb_A2 hd)).1 ((tb_Ac (tb_A2 hd)).2 _ _) rfl inlX0 0 (by decide) wm_372 (v := .int (z (d + 5) 0)) rfl dX1_badSlots_20 ?_
    refine lv_iconst (v := nI (4)) X.1 X.2.1 dX1_badSlots_23 (by decide +kernel) ?_
    have J_2 : ∀ (H : Heap) (locs : List Loc) (ls : Array Slot) (vq1 : Int32), vq1 = (tb_b ((z (d + 5) 0) = (nI (4)))) → tb_H g s.heap z H locs → lv_has ls 1 [(0, .ref (tb_ad g (d)))] → W p l e (tb_rm 0) s m ([.ref (tb_ad g d)] : List Value).toArray below meth c H locs 0 0 (MQ below (va_Qi (fun r9 u9 => r9 = sr_X1_badSlots z d ∧ u9 = z) (tb_B g) (tb_A g)) ([.ref (tb_ad g d)] : List Value).toArray s 0 0 (tb_A g)) (F0 m 32 ls [.int vq1, .int (tb_b ((z (d + 2) 0) = (nI (4))))]) := by
      intro H locs ls vq1 evq1 hH hl
      subst evq1
      refine lv_iadd X.1 X.2.1 dX1_badSlots_32 ?_
      exact tb_ri X hr hlk hH ⟨(by rw [sr_X1_badSlots]), rfl⟩ dX1_badSlots_33
    refine lv_icmp_ne (tgt := 31) X.1 X.2.1 dX1_badSlots_24 (by decide) (fun c_2 => ?_) (fun c_2 => ?_)
    · refine lv_iconst (v := nI (0)) X.1 X.2.1 dX1_badSlots_31 (by decide +kernel) ?_
      exact J_2 _ _ _ _ (tb_b_f c_2).symm hH (lv_sub hl [0] rfl)
    · refine lv_iconst (v := nI (1)) X.1 X.2.1 dX1_badSlots_27 (by decide +kernel) ?_
      refine lv_goto (tgt := 32) X.1 X.2.1 dX1_badSlots_28 (by decide) ?_
      exact J_2 _ _ _ _ (tb_b_t c_2).symm hH (lv_sub hl [0] rfl)
  refine lv_icmp_ne (tgt := 15) X.1 X.2.1 dX1_badSlots_8 (by decide) (fun c_1 => ?_) (fun c_1 => ?_)
  · refine lv_iconst (v := nI (0)) X.1 X.2.1 dX1_badSlots_15 (by decide +kernel) ?_
    exact J_1 _ _ _ _ (tb_b_f c_1).symm hH (lv_sub hl [0] rfl)
  · refine lv_iconst (v := nI (1)) X.1 X.2.1 dX1_badSlots_11 (by decide +kernel) ?_
    refine lv_goto (tgt := 16) X.1 X.2.1 dX1_badSlots_12 (by decide) ?_
    exact J_1 _ _ _ _ (tb_b_t c_1).symm hH (lv_sub hl [0] rfl)
def sr_X1_beginsLeft (z : tb_M) (d : Nat) (r : Nat) (q : Nat) : Int32 := if nI (0) < (z (d + 1) 2) - ((tb_gw (z (((tb_at d r)) + 2)) q)) then (z (d + 1) 2) - ((tb_gw (z (((tb_at d r)) + 2)) q)) else nI (0)
set_option maxHeartbeats 1000000 in
set_option maxRecDepth 100000 in
theorem c_X1_beginsLeft (l : Launch) (g : tb_G) (z : tb_M) (d : Nat) (hd : tb_isD d) (r : Nat) (q : Nat) (hr2 : r ≤ 2) (hq : q ≤ 8) : tb_Mi (.int) l yX1_beginsLeft cX1_beginsLeft 3 2 g z [.ref (tb_ad g d), .int (nI r), .int (nI q)] (sr_X1_beginsLeft z d r q) (z) := by
  refine tb_goi (own := RX1) (by decide +kernel) rfl (Nat.le_of_ble_eq_true rfl) ?_
  intro p e s m below meth c ls X hr hlk hH hl
  have hl : lv_has ls 3 [(0, .ref (tb_ad g (d))), (1, .int (nI (r))), (2, .int (nI (q)))] := hl
  refine lv_iconst (v := nI (0)) X.1 X.2.1 dX1_beginsLeft_0 (by decide +kernel) ?_
  refine lv_aload_n X.1 X.2.1 dX1_beginsLeft_1 rfl (lv_at hl 0 rfl) ?_
  refine tb_get X hH (tb_Dc hd).1 ((tb_Dc hd).2 _ _) rfl inlX1 0 (by decide) wm_34 (v := .ref (tb_ad g (d + 1))) rfl dX1_beginsLeft_2 ?_
  refine lv_iconst (v := nI (2)) X.1 X.2.1 dX1_beginsLeft_5 (by decide +kernel) ?_
  refine tb_ald X hH (tb_iset hd) (2) rfl (by decide) (by first | decide | omega) dX1_beginsLeft_6 ?_
  refine lv_aload_n X.1 X.2.1 dX1_beginsLeft_7 rfl (lv_at hl 0 rfl) ?_
  refine lv_iload_n X.1 X.2.1 dX1_beginsLeft_8 rfl (lv_at hl 1 rfl) ?_
  refine tb_cVr X hH hl.1 (c_X1_areaAt l g z d hd r (by first | assumption | omega | decide)) ky_X1_areaAt.1 ky_X1_areaAt.2 wm_195 (tb_oD hd) rfl rfl (Nat.le_of_ble_eq_true rfl) ⟨by decide, by decide⟩ ⟨by decide, by decide⟩ dX1_beginsLeft_9 (fun H locs hH => ?_)
  refine lv_iload_n X.1 X.2.1 dX1_beginsLeft_12 rfl (lv_at hl 2 rfl) ?_
  refine tb_cVi X hH hl.1 (c_X0_greatestWear l g z ((tb_at d r)) (tb_isat hd r) q (by first | assumption | omega | decide)) ky_X0_greatestWear.1 ky_X0_greatestWear.2 wm_199 (tb_oA (tb_isat hd r)) rfl rfl (Nat.le_of_ble_eq_true rfl) ⟨by decide, by decide⟩ ⟨by decide, by decide⟩ dX1_beginsLeft_13 (fun H locs hH => ?_)
  refine lv_isub X.1 X.2.1 dX1_beginsLeft_16 ?_
  refine tb_cmax X hl.1 wm_192 wm_193 wm_124 wm_194 (by decide) (Nat.le_of_ble_eq_true rfl) ⟨by decide, by decide⟩ dX1_beginsLeft_17 ?_
  exact tb_ri X hr hlk hH ⟨(by rw [sr_X1_beginsLeft]), rfl⟩ dX1_beginsLeft_20
def sr_X1_newestThatIs (z : tb_M) (d : Nat) (x : Int32) : Nat := if (z (d + 5) 0) = x then (if (z (d + 2) 0) = x then (if (z (d + 5) 1) ≤ (z (d + 2) 1) then (if (z (d + 2) 0) = x then 0 else 2) else 1) else 1) else (if (z (d + 2) 0) = x then 0 else 2)
set_option maxHeartbeats 1000000 in
set_option maxRecDepth 100000 in
theorem c_X1_newestThatIs (l : Launch) (g : tb_G) (z : tb_M) (d : Nat) (hd : tb_isD d) (x : Int32) : tb_Mi (.int) l yX1_newestThatIs cX1_newestThatIs 2 0 g z [.ref (tb_ad g d), .int x] (nI (sr_X1_newestThatIs z d x)) (z) := by
  refine tb_goi (own := RX1) (by decide +kernel) rfl (Nat.le_of_ble_eq_true rfl) ?_
  intro p e s m below meth c ls X hr hlk hH hl
  have hl : lv_has ls 2 [(0, .ref (tb_ad g (d))), (1, .int (x))] := hl
  refine lv_aload_n X.1 X.2.1 dX1_newestThatIs_0 rfl (lv_at hl 0 rfl) ?_
  refine tb_get X hH (tb_Dc hd).1 ((tb_Dc hd).2 _ _) rfl inlX1 2 (by decide) wm_39 (v := .ref (tb_ad g (d + 5))) rfl dX1_newestThatIs_1 ?_
  refine tb_get X hH (tb_Ac (tb_A2 hd)).1 ((tb_Ac (tb_A2 hd)).2 _ _) rfl inlX0 0 (by decide) wm_372 (v := .int (z (d + 5) 0)) rfl dX1_newestThatIs_4 ?_
  refine lv_iload_n X.1 X.2.1 dX1_newestThatIs_7 rfl (lv_at hl 1 rfl) ?_
  refine lv_icmp_ne (tgt := 41) X.1 X.2.1 dX1_newestThatIs_8 (by decide) (fun c_1 => ?_) (fun c_1 => ?_)
  · refine lv_aload_n X.1 X.2.1 dX1_newestThatIs_41 rfl (lv_at hl 0 rfl) ?_
    refine tb_get X hH (tb_Dc hd).1 ((tb_Dc hd).2 _ _) rfl inlX1 1 (by decide) wm_38 (v := .ref (tb_ad g (d + 2))) rfl dX1_newestThatIs_42 ?_
    refine tb_get X hH (tb_Ac (tb_A1 hd)).1 ((tb_Ac (tb_A1 hd)).2 _ _) rfl inlX0 0 (by decide) wm_372 (v := .int (z (d + 2) 0)) rfl dX1_newestThatIs_45 ?_
    refine lv_iload_n X.1 X.2.1 dX1_newestThatIs_48 rfl (lv_at hl 1 rfl) ?_
    have J_1 : ∀ (H : Heap) (locs : List Loc) (ls : Array Slot) (vq1 : Int32), vq1 = (nI (if (z (d + 2) 0) = x then 0 else 2)) → tb_H g s.heap z H locs → lv_has ls 2 [(0, .ref (tb_ad g (d))), (1, .int (x))] → W p l e (tb_rm 0) s m ([.ref (tb_ad g d), .int x] : List Value).toArray below meth c H locs 0 0 (MQ below (va_Qi (fun r9 u9 => r9 = nI (sr_X1_newestThatIs z d x) ∧ u9 = z) (tb_B g) (tb_A g)) ([.ref (tb_ad g d), .int x] : List Value).toArray s 0 0 (tb_A g)) (F0 m 57 ls [.int vq1]) := by
      intro H locs ls vq1 evq1 hH hl
      subst evq1
      exact tb_ri X hr hlk hH ⟨(by rw [sr_X1_newestThatIs]; simp only [if_neg c_1]), rfl⟩ dX1_newestThatIs_57
    refine lv_icmp_ne (tgt := 56) X.1 X.2.1 dX1_newestThatIs_49 (by decide) (fun c_2 => ?_) (fun c_2 => ?_)
    · refine lv_iconst (v := nI (2)) X.1 X.2.1 dX1_newestThatIs_56 (by decide +kernel) ?_
      exact J_1 _ _ _ _ (by simp only [if_neg c_2]) hH (lv_sub hl [0, 1] rfl)
    · refine lv_iconst (v := nI (0)) X.1 X.2.1 dX1_newestThatIs_52 (by decide +kernel) ?_
      refine lv_goto (tgt := 57) X.1 X.2.1 dX1_newestThatIs_53 (by decide) ?_
      exact J_1 _ _ _ _ (by simp only [if_pos c_2]) hH (lv_sub hl [0, 1] rfl)
  · refine lv_aload_n X.1 X.2.1 dX1_newestThatIs_11 rfl (lv_at hl 0 rfl) ?_
    refine tb_get X hH (tb_Dc hd).1 ((tb_Dc hd).2 _ _) rfl inlX1 1 (by decide) wm_38 (v := .ref (tb_ad g (d + 2))) rfl dX1_newestThatIs_12 ?_
    refine tb_get X hH (tb_Ac (tb_A1 hd)).1 ((tb_Ac (tb_A1 hd)).2 _ _) rfl inlX0 0 (by decide) wm_372 (v := .int (z (d + 2) 0)) rfl dX1_newestThatIs_15 ?_
    refine lv_iload_n X.1 X.2.1 dX1_newestThatIs_18 rfl (lv_at hl 1 rfl) ?_
    refine lv_icmp_ne (tgt := 39) X.1 X.2.1 dX1_newestThatIs_19 (by decide) (fun c_3 => ?_) (fun c_3 => ?_)
    · refine lv_iconst (v := nI (1)) X.1 X.2.1 dX1_newestThatIs_39 (by decide +kernel) ?_
      exact tb_ri X hr hlk hH ⟨(by rw [sr_X1_newestThatIs]; simp only [if_pos c_1, if_neg c_3]), rfl⟩ dX1_newestThatIs_40
    · refine lv_aload_n X.1 X.2.1 dX1_newestThatIs_22 rfl (lv_at hl 0 rfl) ?_
      refine tb_get X hH (tb_Dc hd).1 ((tb_Dc hd).2 _ _) rfl inlX1 2 (by decide) wm_39 (v := .ref (tb_ad g (d + 5))) rfl dX1_newestThatIs_23 ?_
      refine tb_get X hH (tb_Ac (tb_A2 hd)).1 ((tb_Ac (tb_A2 hd)).2 _ _) rfl inlX0 1 (by decide) wm_381 (v := .int (z (d + 5) 1)) rfl dX1_newestThatIs_26 ?_
      refine lv_aload_n X.1 X.2.1 dX1_newestThatIs_29 rfl (lv_at hl 0 rfl) ?_
      refine tb_get X hH (tb_Dc hd).1 ((tb_Dc hd).2 _ _) rfl inlX1 1 (by decide) wm_38 (v := .ref (tb_ad g (d + 2))) rfl dX1_newestThatIs_30 ?_
      refine tb_get X hH (tb_Ac (tb_A1 hd)).1 ((tb_Ac (tb_A1 hd)).2 _ _) rfl inlX0 1 (by decide) wm_381 (v := .int (z (d + 2) 1)) rfl dX1_newestThatIs_33 ?_
      refine lv_icmp_le (tgt := 41) X.1 X.2.1 dX1_newestThatIs_36 (by decide) (fun c_4 => ?_) (fun c_4 => ?_)
      · refine lv_aload_n X.1 X.2.1 dX1_newestThatIs_41 rfl (lv_at hl 0 rfl) ?_
        refine tb_get X hH (tb_Dc hd).1 ((tb_Dc hd).2 _ _) rfl inlX1 1 (by decide) wm_38 (v := .ref (tb_ad g (d + 2))) rfl dX1_newestThatIs_42 ?_
        refine tb_get X hH (tb_Ac (tb_A1 hd)).1 ((tb_Ac (tb_A1 hd)).2 _ _) rfl inlX0 0 (by decide) wm_372 (v := .int (z (d + 2) 0)) rfl dX1_newestThatIs_45 ?_
        refine lv_iload_n X.1 X.2.1 dX1_newestThatIs_48 rfl (lv_at hl 1 rfl) ?_
        have J_2 : ∀ (H : Heap) (locs : List Loc) (ls : Array Slot) (vq1 : Int32), vq1 = (nI (if (z (d + 2) 0) = x then 0 else 2)) → tb_H g s.heap z H locs → lv_has ls 2 [(0, .ref (tb_ad g (d))), (1, .int (x))] → W p l e (tb_rm 0) s m ([.ref (tb_ad g d), .int x] : List Value).toArray below meth c H locs 0 0 (MQ below (va_Qi (fun r9 u9 => r9 = nI (sr_X1_newestThatIs z d x) ∧ u9 = z) (tb_B g) (tb_A g)) ([.ref (tb_ad g d), .int x] : List Value).toArray s 0 0 (tb_A g)) (F0 m 57 ls [.int vq1]) := by
          intro H locs ls vq1 evq1 hH hl
          subst evq1
          exact tb_ri X hr hlk hH ⟨(by rw [sr_X1_newestThatIs]; simp only [if_pos c_1, if_pos c_3, if_pos c_4]), rfl⟩ dX1_newestThatIs_57
        refine lv_icmp_ne (tgt := 56) X.1 X.2.1 dX1_newestThatIs_49 (by decide) (fun c_5 => ?_) (fun c_5 => ?_)
        · refine lv_iconst (v := nI (2)) X.1 X.2.1 dX1_newestThatIs_56 (by decide +kernel) ?_
          exact J_2 _ _ _ _ (by simp only [if_neg c_5]) hH (lv_sub hl [0, 1] rfl)
        · refine lv_iconst (v := nI (0)) X.1 X.2.1 dX1_newestThatIs_52 (by decide +kernel) ?_
          refine lv_goto (tgt := 57) X.1 X.2.1 dX1_newestThatIs_53 (by decide) ?_
          exact J_2 _ _ _ _ (by simp only [if_pos c_5]) hH (lv_sub hl [0, 1] rfl)
      · refine lv_iconst (v := nI (1)) X.1 X.2.1 dX1_newestThatIs_39 (by decide +kernel) ?_
        exact tb_ri X hr hlk hH ⟨(by rw [sr_X1_newestThatIs]; simp only [if_pos c_1, if_pos c_3, if_neg c_4]), rfl⟩ dX1_newestThatIs_40
theorem tb_nw_le (z : tb_M) (d : Nat) (x : Int32) : sr_X1_newestThatIs z d x ≤ 2 := by
  unfold sr_X1_newestThatIs
  repeat' split
  all_goals decide
def sr_X1_bestArea (z : tb_M) (d : Nat) : Nat := if ((sr_X1_newestThatIs z d (nI (2)))) = 2 then ((sr_X1_newestThatIs z d (nI (3)))) else ((sr_X1_newestThatIs z d (nI (2))))
set_option maxHeartbeats 1000000 in
set_option maxRecDepth 100000 in
theorem c_X1_bestArea (l : Launch) (g : tb_G) (z : tb_M) (d : Nat) (hd : tb_isD d) : tb_Mi (.int) l yX1_bestArea cX1_bestArea 2 1 g z [.ref (tb_ad g d)] (nI (sr_X1_bestArea z d)) (z) := by
  refine tb_goi (own := RX1) (by decide +kernel) rfl (Nat.le_of_ble_eq_true rfl) ?_
  intro p e s m below meth c ls X hr hlk hH hl
  have hl : lv_has ls 2 [(0, .ref (tb_ad g (d)))] := hl
  refine lv_aload_n X.1 X.2.1 dX1_bestArea_0 rfl (lv_at hl 0 rfl) ?_
  refine lv_iconst (v := nI (2)) X.1 X.2.1 dX1_bestArea_1 (by decide +kernel) ?_
  refine tb_cVi X hH hl.1 (c_X1_newestThatIs l g z d hd (nI (2))) ky_X1_newestThatIs.1 ky_X1_newestThatIs.2 wm_377 (tb_oD hd) rfl rfl (Nat.le_of_ble_eq_true rfl) ⟨by decide, by decide⟩ ⟨by decide, by decide⟩ dX1_bestArea_2 (fun H locs hH => ?_)
  have hb_1 := (tb_nw_le z d (nI (2)))
  refine lv_istore_n (lv' := [(1, .int (nI ((sr_X1_newestThatIs z d (nI (2)))))), (0, .ref (tb_ad g (d)))]) X.1 X.2.1 dX1_bestArea_5 rfl hl (by decide) rfl (fun ls hl => ?_)
  refine lv_iload_n X.1 X.2.1 dX1_bestArea_6 rfl (lv_at hl 0 rfl) ?_
  refine lv_iconst (v := nI (2)) X.1 X.2.1 dX1_bestArea_7 (by decide +kernel) ?_
  have J_1 : ∀ (H : Heap) (locs : List Loc) (ls : Array Slot) (vq1 : Int32), vq1 = (nI (if ((sr_X1_newestThatIs z d (nI (2)))) = 2 then ((sr_X1_newestThatIs z d (nI (3)))) else ((sr_X1_newestThatIs z d (nI (2)))))) → tb_H g s.heap z H locs → lv_has ls 2 [(1, .int (nI ((sr_X1_newestThatIs z d (nI (2)))))), (0, .ref (tb_ad g (d)))] → W p l e (tb_rm 1) s m ([.ref (tb_ad g d)] : List Value).toArray below meth c H locs 0 0 (MQ below (va_Qi (fun r9 u9 => r9 = nI (sr_X1_bestArea z d) ∧ u9 = z) (tb_B g) (tb_A g)) ([.ref (tb_ad g d)] : List Value).toArray s 0 0 (tb_A g)) (F0 m 20 ls [.int vq1]) := by
    intro H locs ls vq1 evq1 hH hl
    subst evq1
    exact tb_ri X hr hlk hH ⟨(by rw [sr_X1_bestArea]), rfl⟩ dX1_bestArea_20
  refine tb_neq (tgt := 15) X (by omega) (by omega) dX1_bestArea_8 (by decide) (fun c_1 => ?_) (fun c_1 => ?_)
  · refine lv_aload_n X.1 X.2.1 dX1_bestArea_15 rfl (lv_at hl 1 rfl) ?_
    refine lv_iconst (v := nI (3)) X.1 X.2.1 dX1_bestArea_16 (by decide +kernel) ?_
    refine tb_cVi X hH hl.1 (c_X1_newestThatIs l g z d hd (nI (3))) ky_X1_newestThatIs.1 ky_X1_newestThatIs.2 wm_377 (tb_oD hd) rfl rfl (Nat.le_of_ble_eq_true rfl) ⟨by decide, by decide⟩ ⟨by decide, by decide⟩ dX1_bestArea_17 (fun H locs hH => ?_)
    have hb_2 := (tb_nw_le z d (nI (3)))
    exact J_1 _ _ _ _ (by simp only [if_pos c_1]) hH (lv_sub hl [0, 1] rfl)
  · refine lv_iload_n X.1 X.2.1 dX1_bestArea_11 rfl (lv_at hl 0 rfl) ?_
    refine lv_goto (tgt := 20) X.1 X.2.1 dX1_bestArea_12 (by decide) ?_
    exact J_1 _ _ _ _ (by simp only [if_neg c_1]) hH (lv_sub hl [0, 1] rfl)
theorem tb_ba_le (z : tb_M) (d : Nat) : sr_X1_bestArea z d ≤ 2 := by
  unfold sr_X1_bestArea
  repeat' split
  all_goals exact tb_nw_le _ _ _
def sz_X1_soundArea (z : tb_M) (d : Nat) : tb_M := if (((tb_sm (z (((tb_at d ((sr_X1_bestArea z d)))) + 1)) (tb_len z ((tb_at d ((sr_X1_bestArea z d))))))) = (z ((tb_at d ((sr_X1_bestArea z d)))) 3)) then z else (if (((tb_sm ((tb_up z ((tb_at d ((sr_X1_bestArea z d)))) 0 (nI (4))) (((tb_at d ((sr_X1_bestArea (tb_up z ((tb_at d ((sr_X1_bestArea z d)))) 0 (nI (4))) d)))) + 1)) (tb_len (tb_up z ((tb_at d ((sr_X1_bestArea z d)))) 0 (nI (4))) ((tb_at d ((sr_X1_bestArea (tb_up z ((tb_at d ((sr_X1_bestArea z d)))) 0 (nI (4))) d))))))) = ((tb_up z ((tb_at d ((sr_X1_bestArea z d)))) 0 (nI (4))) ((tb_at d ((sr_X1_bestArea (tb_up z ((tb_at d ((sr_X1_bestArea z d)))) 0 (nI (4))) d)))) 3)) then (tb_up z ((tb_at d ((sr_X1_bestArea z d)))) 0 (nI (4))) else (tb_up (tb_up z ((tb_at d ((sr_X1_bestArea z d)))) 0 (nI (4))) ((tb_at d ((sr_X1_bestArea (tb_up z ((tb_at d ((sr_X1_bestArea z d)))) 0 (nI (4))) d)))) 0 (nI (4))))
def sr_X1_soundArea (z : tb_M) (d : Nat) : Nat := if (((tb_sm (z (((tb_at d ((sr_X1_bestArea z d)))) + 1)) (tb_len z ((tb_at d ((sr_X1_bestArea z d))))))) = (z ((tb_at d ((sr_X1_bestArea z d)))) 3)) then ((sr_X1_bestArea z d)) else (if (((tb_sm ((tb_up z ((tb_at d ((sr_X1_bestArea z d)))) 0 (nI (4))) (((tb_at d ((sr_X1_bestArea (tb_up z ((tb_at d ((sr_X1_bestArea z d)))) 0 (nI (4))) d)))) + 1)) (tb_len (tb_up z ((tb_at d ((sr_X1_bestArea z d)))) 0 (nI (4))) ((tb_at d ((sr_X1_bestArea (tb_up z ((tb_at d ((sr_X1_bestArea z d)))) 0 (nI (4))) d))))))) = ((tb_up z ((tb_at d ((sr_X1_bestArea z d)))) 0 (nI (4))) ((tb_at d ((sr_X1_bestArea (tb_up z ((tb_at d ((sr_X1_bestArea z d)))) 0 (nI (4))) d)))) 3)) then ((sr_X1_bestArea (tb_up z ((tb_at d ((sr_X1_bestArea z d)))) 0 (nI (4))) d)) else 2)
set_option maxHeartbeats 1000000 in
set_option maxRecDepth 100000 in
theorem c_X1_soundArea (l : Launch) (g : tb_G) (z : tb_M) (d : Nat) (hd : tb_isD d) (hL : ∀ r, tb_okL z (tb_at d r)) : tb_Mi (.int) l yX1_soundArea cX1_soundArea 3 3 g z [.ref (tb_ad g d)] (nI (sr_X1_soundArea z d)) (sz_X1_soundArea z d) := by
  refine tb_goi (own := RX1) (by decide +kernel) rfl (Nat.le_of_ble_eq_true rfl) ?_
  intro p e s m below meth c ls X hr hlk hH hl
  have hl : lv_has ls 3 [(0, .ref (tb_ad g (d)))] := hl
  refine lv_iconst (v := nI (0)) X.1 X.2.1 dX1_soundArea_0 (by decide +kernel) ?_
  refine lv_istore_n (lv' := [(1, .int (nI (0))), (0, .ref (tb_ad g (d)))]) X.1 X.2.1 dX1_soundArea_1 rfl hl (by decide) rfl (fun ls hl => ?_)
  refine lv_iload_n X.1 X.2.1 dX1_soundArea_2 rfl (lv_at hl 0 rfl) ?_
  refine lv_iconst (v := nI (2)) X.1 X.2.1 dX1_soundArea_3 (by decide +kernel) ?_
  refine tb_nge (tgt := 40) X (by omega) (by omega) dX1_soundArea_4 (by decide) (fun c => ((by omega) : False).elim) (fun _ => ?_)
  refine lv_aload_n X.1 X.2.1 dX1_soundArea_7 rfl (lv_at hl 1 rfl) ?_
  refine tb_cVi X hH hl.1 (c_X1_bestArea l g z d hd) ky_X1_bestArea.1 ky_X1_bestArea.2 wm_373 (tb_oD hd) rfl rfl (Nat.le_of_ble_eq_true rfl) ⟨by decide, by decide⟩ ⟨by decide, by decide⟩ dX1_soundArea_8 (fun H locs hH => ?_)
  have hb_1 := (tb_ba_le z d)
  refine lv_istore_n (lv' := [(2, .int (nI ((sr_X1_bestArea z d)))), (1, .int (nI (0))), (0, .ref (tb_ad g (d)))]) X.1 X.2.1 dX1_soundArea_11 rfl hl (by decide) rfl (fun ls hl => ?_)
  refine lv_aload_n X.1 X.2.1 dX1_soundArea_12 rfl (lv_at hl 2 rfl) ?_
  refine lv_iload_n X.1 X.2.1 dX1_soundArea_13 rfl (lv_at hl 0 rfl) ?_
  refine tb_cVr X hH hl.1 (c_X1_areaAt l g z d hd ((sr_X1_bestArea z d)) (by first | assumption | omega | decide)) ky_X1_areaAt.1 ky_X1_areaAt.2 wm_195 (tb_oD hd) rfl rfl (Nat.le_of_ble_eq_true rfl) ⟨by decide, by decide⟩ ⟨by decide, by decide⟩ dX1_soundArea_14 (fun H locs hH => ?_)
  refine tb_cVi X hH hl.1 (c_X0_isSound l g z ((tb_at d ((sr_X1_bestArea z d)))) (tb_isat hd ((sr_X1_bestArea z d))) (hL _)) ky_X0_isSound.1 ky_X0_isSound.2 wm_382 (tb_oA (tb_isat hd ((sr_X1_bestArea z d)))) rfl rfl (Nat.le_of_ble_eq_true rfl) ⟨by decide, by decide⟩ ⟨by decide, by decide⟩ dX1_soundArea_17 (fun H locs hH => ?_)
  refine tb_jbeq (tgt := 25) X dX1_soundArea_20 (by decide) (fun c_1 => ?_) (fun c_1 => ?_)
  · refine lv_aload_n X.1 X.2.1 dX1_soundArea_25 rfl (lv_at hl 2 rfl) ?_
    refine lv_iload_n X.1 X.2.1 dX1_soundArea_26 rfl (lv_at hl 0 rfl) ?_
    refine tb_cVr X hH hl.1 (c_X1_areaAt l g z d hd ((sr_X1_bestArea z d)) (by first | assumption | omega | decide)) ky_X1_areaAt.1 ky_X1_areaAt.2 wm_195 (tb_oD hd) rfl rfl (Nat.le_of_ble_eq_true rfl) ⟨by decide, by decide⟩ ⟨by decide, by decide⟩ dX1_soundArea_27 (fun H locs hH => ?_)
    refine lv_iconst (v := nI (4)) X.1 X.2.1 dX1_soundArea_30 (by decide +kernel) ?_
    refine tb_putA X hH (tb_isat hd ((sr_X1_bestArea z d))) 0 (by decide) wm_372 dX1_soundArea_31 (fun H locs hH => ?_)
    refine lv_iinc (v := nI (1)) (lv' := [(1, .int (nI (1))), (2, .int (nI ((sr_X1_bestArea z d)))), (0, .ref (tb_ad g (d)))]) X.1 X.2.1 dX1_soundArea_34 hl (k := 1) rfl (by decide +kernel) (by decide) rfl (fun ls hl => ?_)
    refine lv_goto (tgt := 2) X.1 X.2.1 dX1_soundArea_37 (by decide) ?_
    refine lv_iload_n X.1 X.2.1 dX1_soundArea_2 rfl (lv_at hl 0 rfl) ?_
    refine lv_iconst (v := nI (2)) X.1 X.2.1 dX1_soundArea_3 (by decide +kernel) ?_
    refine tb_nge (tgt := 40) X (by omega) (by omega) dX1_soundArea_4 (by decide) (fun c => ((by omega) : False).elim) (fun _ => ?_)
    refine lv_aload_n X.1 X.2.1 dX1_soundArea_7 rfl (lv_at hl 2 rfl) ?_
    refine tb_cVi X hH hl.1 (c_X1_bestArea l g (tb_up z ((tb_at d ((sr_X1_bestArea z d)))) 0 (nI (4))) d hd) ky_X1_bestArea.1 ky_X1_bestArea.2 wm_373 (tb_oD hd) rfl rfl (Nat.le_of_ble_eq_true rfl) ⟨by decide, by decide⟩ ⟨by decide, by decide⟩ dX1_soundArea_8 (fun H locs hH => ?_)
    have hb_2 := (tb_ba_le (tb_up z ((tb_at d ((sr_X1_bestArea z d)))) 0 (nI (4))) d)
    refine lv_istore_n (lv' := [(2, .int (nI ((sr_X1_bestArea (tb_up z ((tb_at d ((sr_X1_bestArea z d)))) 0 (nI (4))) d)))), (1, .int (nI (1))), (0, .ref (tb_ad g (d)))]) X.1 X.2.1 dX1_soundArea_11 rfl hl (by decide) rfl (fun ls hl => ?_)
    refine lv_aload_n X.1 X.2.1 dX1_soundArea_12 rfl (lv_at hl 2 rfl) ?_
    refine lv_iload_n X.1 X.2.1 dX1_soundArea_13 rfl (lv_at hl 0 rfl) ?_
    refine tb_cVr X hH hl.1 (c_X1_areaAt l g (tb_up z ((tb_at d ((sr_X1_bestArea z d)))) 0 (nI (4))) d hd ((sr_X1_bestArea (tb_up z ((tb_at d ((sr_X1_bestArea z d)))) 0 (nI (4))) d)) (by first | assumption | omega | decide)) ky_X1_areaAt.1 ky_X1_areaAt.2 wm_195 (tb_oD hd) rfl rfl (Nat.le_of_ble_eq_true rfl) ⟨by decide, by decide⟩ ⟨by decide, by decide⟩ dX1_soundArea_14 (fun H locs hH => ?_)
    refine tb_cVi X hH hl.1 (c_X0_isSound l g (tb_up z ((tb_at d ((sr_X1_bestArea z d)))) 0 (nI (4))) ((tb_at d ((sr_X1_bestArea (tb_up z ((tb_at d ((sr_X1_bestArea z d)))) 0 (nI (4))) d)))) (tb_isat hd ((sr_X1_bestArea (tb_up z ((tb_at d ((sr_X1_bestArea z d)))) 0 (nI (4))) d))) (tb_okL_c (hL _) (by simp [tb_up]))) ky_X0_isSound.1 ky_X0_isSound.2 wm_382 (tb_oA (tb_isat hd ((sr_X1_bestArea (tb_up z ((tb_at d ((sr_X1_bestArea z d)))) 0 (nI (4))) d)))) rfl rfl (Nat.le_of_ble_eq_true rfl) ⟨by decide, by decide⟩ ⟨by decide, by decide⟩ dX1_soundArea_17 (fun H locs hH => ?_)
    refine tb_jbeq (tgt := 25) X dX1_soundArea_20 (by decide) (fun c_2 => ?_) (fun c_2 => ?_)
    · refine lv_aload_n X.1 X.2.1 dX1_soundArea_25 rfl (lv_at hl 2 rfl) ?_
      refine lv_iload_n X.1 X.2.1 dX1_soundArea_26 rfl (lv_at hl 0 rfl) ?_
      refine tb_cVr X hH hl.1 (c_X1_areaAt l g (tb_up z ((tb_at d ((sr_X1_bestArea z d)))) 0 (nI (4))) d hd ((sr_X1_bestArea (tb_up z ((tb_at d ((sr_X1_bestArea z d)))) 0 (nI (4))) d)) (by first | assumption | omega | decide)) ky_X1_areaAt.1 ky_X1_areaAt.2 wm_195 (tb_oD hd) rfl rfl (Nat.le_of_ble_eq_true rfl) ⟨by decide, by decide⟩ ⟨by decide, by decide⟩ dX1_soundArea_27 (fun H locs hH => ?_)
      refine lv_iconst (v := nI (4)) X.1 X.2.1 dX1_soundArea_30 (by decide +kernel) ?_
      refine tb_putA X hH (tb_isat hd ((sr_X1_bestArea (tb_up z ((tb_at d ((sr_X1_bestArea z d)))) 0 (nI (4))) d))) 0 (by decide) wm_372 dX1_soundArea_31 (fun H locs hH => ?_)
      refine lv_iinc (v := nI (2)) (lv' := [(1, .int (nI (2))), (2, .int (nI ((sr_X1_bestArea (tb_up z ((tb_at d ((sr_X1_bestArea z d)))) 0 (nI (4))) d)))), (0, .ref (tb_ad g (d)))]) X.1 X.2.1 dX1_soundArea_34 hl (k := 1) rfl (by decide +kernel) (by decide) rfl (fun ls hl => ?_)
      refine lv_goto (tgt := 2) X.1 X.2.1 dX1_soundArea_37 (by decide) ?_
      refine lv_iload_n X.1 X.2.1 dX1_soundArea_2 rfl (lv_at hl 0 rfl) ?_
      refine lv_iconst (v := nI (2)) X.1 X.2.1 dX1_soundArea_3 (by decide +kernel) ?_
      refine tb_nge (tgt := 40) X (by omega) (by omega) dX1_soundArea_4 (by decide) (fun _ => ?_) (fun c => ((by omega) : False).elim)
      refine lv_iconst (v := nI (2)) X.1 X.2.1 dX1_soundArea_40 (by decide +kernel) ?_
      exact tb_ri X hr hlk hH ⟨(by rw [sr_X1_soundArea]; simp only [if_neg c_1, if_neg c_2]), (by rw [sz_X1_soundArea]; simp only [if_neg c_1, if_neg c_2])⟩ dX1_soundArea_41
    · refine lv_iload_n X.1 X.2.1 dX1_soundArea_23 rfl (lv_at hl 0 rfl) ?_
      exact tb_ri X hr hlk hH ⟨(by rw [sr_X1_soundArea]; simp only [if_neg c_1, if_pos c_2]), (by rw [sz_X1_soundArea]; simp only [if_neg c_1, if_pos c_2])⟩ dX1_soundArea_24
  · refine lv_iload_n X.1 X.2.1 dX1_soundArea_23 rfl (lv_at hl 0 rfl) ?_
    exact tb_ri X hr hlk hH ⟨(by rw [sr_X1_soundArea]; simp only [if_pos c_1]), (by rw [sz_X1_soundArea]; simp only [if_pos c_1])⟩ dX1_soundArea_24
theorem tb_sa_le (z : tb_M) (d : Nat) : sr_X1_soundArea z d ≤ 2 := by
  unfold sr_X1_soundArea
  repeat' split
  all_goals first | exact tb_ba_le _ _ | decide
