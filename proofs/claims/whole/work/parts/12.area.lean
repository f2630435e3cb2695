set_option maxHeartbeats 4000000 in
set_option maxRecDepth 100000 in
theorem c_X5_isWithin (l : Launch) (g : tb_G) (z : tb_M) (x : Int32) (lo : Int32) (hi : Int32) : tb_Mi (.boolean) l yX5_isWithin cX5_isWithin 3 0 g z [.int x, .int lo, .int hi] (tb_b (¬ (x < lo) ∧ (¬ (hi < x)))) (z) := by
  refine tb_goi (own := RX5) (by decide +kernel) rfl (Nat.le_of_ble_eq_true rfl) ?_
  intro p e s m below meth c ls X hr hlk hH hl
  have hl : lv_has ls 3 [(0, .int (x)), (1, .int (lo)), (2, .int (hi))] := hl
  refine lv_iload_n X.1 X.2.1 dX5_isWithin_0 rfl (lv_at hl 0 rfl) ?_
  refine lv_iload_n X.1 X.2.1 dX5_isWithin_1 rfl (lv_at hl 1 rfl) ?_
  have J_1 : ∀ (H : Heap) (locs : List Loc) (ls : Array Slot) (vq1 : Int32), vq1 = tb_b (¬ (x < lo) ∧ (¬ (hi < x))) → tb_H g s.heap z H locs → lv_has ls 3 [(0, .int (x)), (1, .int (lo)), (2, .int (hi))] → W p l e (tb_rm 0) s m ([.int x, .int lo, .int hi] : List Value).toArray below meth c H locs 0 0 (MQ below (va_Qi (fun r9 u9 => r9 = tb_b (¬ (x < lo) ∧ (¬ (hi < x))) ∧ u9 = z) (tb_B g) (tb_A g)) ([.int x, .int lo, .int hi] : List Value).toArray s 0 0 (tb_A g)) (F0 m 15 ls [.int vq1]) := by
    intro H locs ls vq1 evq1 hH hl
    subst evq1
    exact tb_rz X hr hlk hH ⟨(Iff.rfl).symm, rfl⟩ dX5_isWithin_15
  refine lv_icmp_lt (tgt := 14) X.1 X.2.1 dX5_isWithin_2 (by decide) (fun c_1 => ?_) (fun c_1 => ?_)
  · refine lv_iconst (v := nI (0)) X.1 X.2.1 dX5_isWithin_14 (by decide +kernel) ?_
    exact J_1 _ _ _ _ (tb_b_f (fun h => h.1 c_1)).symm hH (lv_sub hl [0, 1, 2] rfl)
  · refine lv_iload_n X.1 X.2.1 dX5_isWithin_5 rfl (lv_at hl 0 rfl) ?_
    refine lv_iload_n X.1 X.2.1 dX5_isWithin_6 rfl (lv_at hl 2 rfl) ?_
    refine lv_icmp_gt (tgt := 14) X.1 X.2.1 dX5_isWithin_7 (by decide) (fun c_2 => ?_) (fun c_2 => ?_)
    · refine lv_iconst (v := nI (0)) X.1 X.2.1 dX5_isWithin_14 (by decide +kernel) ?_
      exact J_1 _ _ _ _ (tb_b_f (fun h => (fun h => h c_2) h.2)).symm hH (lv_sub hl [0, 1, 2] rfl)
    · refine lv_iconst (v := nI (1)) X.1 X.2.1 dX5_isWithin_10 (by decide +kernel) ?_
      refine lv_goto (tgt := 15) X.1 X.2.1 dX5_isWithin_11 (by decide) ?_
      exact J_1 _ _ _ _ (tb_b_t ⟨c_1, c_2⟩).symm hH (lv_sub hl [0, 1, 2] rfl)
def sr_X5_sumWith (x : Int32) (y : Int32) : Int32 := (((nI (3)) * x) + y) - (((nI (3)) * x) + y) / (nI (251)) * (nI (251))
set_option maxHeartbeats 4000000 in
set_option maxRecDepth 100000 in
theorem c_X5_sumWith (l : Launch) (g : tb_G) (z : tb_M) (x : Int32) (y : Int32) : tb_Mi (.int) l yX5_sumWith cX5_sumWith 2 0 g z [.int x, .int y] (sr_X5_sumWith x y) (z) := by
  refine tb_goi (own := RX5) (by decide +kernel) rfl (Nat.le_of_ble_eq_true rfl) ?_
  intro p e s m below meth c ls X hr hlk hH hl
  have hl : lv_has ls 2 [(0, .int (x)), (1, .int (y))] := hl
  refine lv_iconst (v := nI (3)) X.1 X.2.1 dX5_sumWith_0 (by decide +kernel) ?_
  refine lv_iload_n X.1 X.2.1 dX5_sumWith_1 rfl (lv_at hl 0 rfl) ?_
  refine lv_imul X.1 X.2.1 dX5_sumWith_2 ?_
  refine lv_iload_n X.1 X.2.1 dX5_sumWith_3 rfl (lv_at hl 1 rfl) ?_
  refine lv_iadd X.1 X.2.1 dX5_sumWith_4 ?_
  refine lv_sipush (v := nI (251)) X.1 X.2.1 dX5_sumWith_5 (by decide +kernel) ?_
  refine lv_irem X.1 X.2.1 dX5_sumWith_8 (by decide +kernel) ?_
  exact tb_ri X hr hlk hH ⟨(by rw [sr_X5_sumWith]), rfl⟩ dX5_sumWith_9
def sz_X0_expectImage (z : tb_M) (a : Nat) (x : Int32) (y : Int32) (w : Int32) : tb_M := tb_up (tb_up (tb_up (tb_up (tb_up (tb_up z a 0 (nI (1))) a 1 x) a 2 y) a 3 w) a 4 (nI (0))) a 5 (nI (0))
set_option maxHeartbeats 4000000 in
set_option maxRecDepth 100000 in
theorem c_X0_expectImage (l : Launch) (g : tb_G) (z : tb_M) (a : Nat) (ha : tb_isA a) (x : Int32) (y : Int32) (w : Int32) : tb_Mv l yX0_expectImage cX0_expectImage 4 0 g z [.ref (tb_ad g a), .int x, .int y, .int w] (sz_X0_expectImage z a x y w) := by
  refine tb_gov (own := RX0) (by decide +kernel) rfl (Nat.le_of_ble_eq_true rfl) ?_
  intro p e s m below meth c ls X hr hlk hH hl
  have hl : lv_has ls 4 [(0, .ref (tb_ad g (a))), (1, .int (x)), (2, .int (y)), (3, .int (w))] := hl
  refine lv_aload_n X.1 X.2.1 dX0_expectImage_0 rfl (lv_at hl 0 rfl) ?_
  refine lv_iconst (v := nI (1)) X.1 X.2.1 dX0_expectImage_1 (by decide +kernel) ?_
  refine tb_putA X hH ha 0 (by decide) wm_50 dX0_expectImage_2 (fun H locs hH => ?_)
  refine lv_aload_n X.1 X.2.1 dX0_expectImage_5 rfl (lv_at hl 0 rfl) ?_
  refine lv_iload_n X.1 X.2.1 dX0_expectImage_6 rfl (lv_at hl 1 rfl) ?_
  refine tb_putA X hH ha 1 (by decide) wm_68 dX0_expectImage_7 (fun H locs hH => ?_)
  refine lv_aload_n X.1 X.2.1 dX0_expectImage_10 rfl (lv_at hl 0 rfl) ?_
  refine lv_iload_n X.1 X.2.1 dX0_expectImage_11 rfl (lv_at hl 2 rfl) ?_
  refine tb_putA X hH ha 2 (by decide) wm_69 dX0_expectImage_12 (fun H locs hH => ?_)
  refine lv_aload_n X.1 X.2.1 dX0_expectImage_15 rfl (lv_at hl 0 rfl) ?_
  refine lv_iload_n X.1 X.2.1 dX0_expectImage_16 rfl (lv_at hl 3 rfl) ?_
  refine tb_putA X hH ha 3 (by decide) wm_63 dX0_expectImage_17 (fun H locs hH => ?_)
  refine lv_aload_n X.1 X.2.1 dX0_expectImage_20 rfl (lv_at hl 0 rfl) ?_
  refine lv_iconst (v := nI (0)) X.1 X.2.1 dX0_expectImage_21 (by decide +kernel) ?_
  refine tb_putA X hH ha 4 (by decide) wm_70 dX0_expectImage_22 (fun H locs hH => ?_)
  refine lv_aload_n X.1 X.2.1 dX0_expectImage_25 rfl (lv_at hl 0 rfl) ?_
  refine lv_iconst (v := nI (0)) X.1 X.2.1 dX0_expectImage_26 (by decide +kernel) ?_
  refine tb_putA X hH ha 5 (by decide) wm_71 dX0_expectImage_27 (fun H locs hH => ?_)
  exact tb_rv X hr hlk hH (by rw [sz_X0_expectImage]) dX0_expectImage_30
set_option maxHeartbeats 4000000 in
set_option maxRecDepth 100000 in
theorem c_X0_lacking (l : Launch) (g : tb_G) (z : tb_M) (a : Nat) (ha : tb_isA a) : tb_Mi (.int) l yX0_lacking cX0_lacking 1 0 g z [.ref (tb_ad g a)] ((z a 2) - (z a 5)) (z) := by
  refine tb_goi (own := RX0) (by decide +kernel) rfl (Nat.le_of_ble_eq_true rfl) ?_
  intro p e s m below meth c ls X hr hlk hH hl
  have hl : lv_has ls 1 [(0, .ref (tb_ad g (a)))] := hl
  refine lv_aload_n X.1 X.2.1 dX0_lacking_0 rfl (lv_at hl 0 rfl) ?_
  refine tb_get X hH (tb_Ac ha).1 ((tb_Ac ha).2 _ _) rfl inlX0 2 (by decide) wm_69 (v := .int (z a 2)) rfl dX0_lacking_1 ?_
  refine lv_aload_n X.1 X.2.1 dX0_lacking_4 rfl (lv_at hl 0 rfl) ?_
  refine tb_get X hH (tb_Ac ha).1 ((tb_Ac ha).2 _ _) rfl inlX0 5 (by decide) wm_71 (v := .int (z a 5)) rfl dX0_lacking_5 ?_
  refine lv_isub X.1 X.2.1 dX0_lacking_8 ?_
  exact tb_ri X hr hlk hH ⟨rfl, rfl⟩ dX0_lacking_9
def sz_X0_loseFilling (z : tb_M) (a : Nat) : tb_M := if (z a 0) = (nI (1)) then (tb_up z a 0 (nI (0))) else z
set_option maxHeartbeats 4000000 in
set_option maxRecDepth 100000 in
theorem c_X0_loseFilling (l : Launch) (g : tb_G) (z : tb_M) (a : Nat) (ha : tb_isA a) : tb_Mv l yX0_loseFilling cX0_loseFilling 1 0 g z [.ref (tb_ad g a)] (sz_X0_loseFilling z a) := by
  refine tb_gov (own := RX0) (by decide +kernel) rfl (Nat.le_of_ble_eq_true rfl) ?_
  intro p e s m below meth c ls X hr hlk hH hl
  have hl : lv_has ls 1 [(0, .ref (tb_ad g (a)))] := hl
  refine lv_aload_n X.1 X.2.1 dX0_loseFilling_0 rfl (lv_at hl 0 rfl) ?_
  refine tb_get X hH (tb_Ac ha).1 ((tb_Ac ha).2 _ _) rfl inlX0 0 (by decide) wm_50 (v := .int (z a 0)) rfl dX0_loseFilling_1 ?_
  refine lv_iconst (v := nI (1)) X.1 X.2.1 dX0_loseFilling_4 (by decide +kernel) ?_
  have J_1 : ∀ (H : Heap) (locs : List Loc) (ls : Array Slot) (zq : tb_M), zq = (if (z a 0) = (nI (1)) then (tb_up z a 0 (nI (0))) else z) → tb_H g s.heap zq H locs → lv_has ls 1 [(0, .ref (tb_ad g (a)))] → W p l e (tb_rm 0) s m ([.ref (tb_ad g a)] : List Value).toArray below meth c H locs 0 0 (MQ below (va_Qv (fun u9 => u9 = (sz_X0_loseFilling z a)) (tb_B g) (tb_A g)) ([.ref (tb_ad g a)] : List Value).toArray s 0 0 (tb_A g)) (F0 m 13 ls []) := by
    intro H locs ls zq  ezq  hH hl
    subst ezq
    exact tb_rv X hr hlk hH (by rw [sz_X0_loseFilling]) dX0_loseFilling_13
  refine lv_icmp_ne (tgt := 13) X.1 X.2.1 dX0_loseFilling_5 (by decide) (fun c_1 => ?_) (fun c_1 => ?_)
  · exact J_1 _ _ _ _ (by rw [if_neg c_1]) hH (lv_sub hl [0] rfl)
  · refine lv_aload_n X.1 X.2.1 dX0_loseFilling_8 rfl (lv_at hl 0 rfl) ?_
    refine lv_iconst (v := nI (0)) X.1 X.2.1 dX0_loseFilling_9 (by decide +kernel) ?_
    refine tb_putA X hH ha 0 (by decide) wm_50 dX0_loseFilling_10 (fun H locs hH => ?_)
    exact J_1 _ _ _ _ (by rw [if_pos c_1]) hH (lv_sub hl [0] rfl)
def sz_X0_giveUpTrial (z : tb_M) (a : Nat) : tb_M := if (z a 0) = (nI (2)) then (if (z a 4) = 0 then (tb_up z a 0 (nI (4))) else z) else z
set_option maxHeartbeats 4000000 in
set_option maxRecDepth 100000 in
theorem c_X0_giveUpTrial (l : Launch) (g : tb_G) (z : tb_M) (a : Nat) (ha : tb_isA a) : tb_Mv l yX0_giveUpTrial cX0_giveUpTrial 1 0 g z [.ref (tb_ad g a)] (sz_X0_giveUpTrial z a) := by
  refine tb_gov (own := RX0) (by decide +kernel) rfl (Nat.le_of_ble_eq_true rfl) ?_
  intro p e s m below meth c ls X hr hlk hH hl
  have hl : lv_has ls 1 [(0, .ref (tb_ad g (a)))] := hl
  refine lv_aload_n X.1 X.2.1 dX0_giveUpTrial_0 rfl (lv_at hl 0 rfl) ?_
  refine tb_get X hH (tb_Ac ha).1 ((tb_Ac ha).2 _ _) rfl inlX0 0 (by decide) wm_50 (v := .int (z a 0)) rfl dX0_giveUpTrial_1 ?_
  refine lv_iconst (v := nI (2)) X.1 X.2.1 dX0_giveUpTrial_4 (by decide +kernel) ?_
  have J_1 : ∀ (H : Heap) (locs : List Loc) (ls : Array Slot) (zq : tb_M), zq = (if (z a 0) = (nI (2)) then (if (z a 4) = 0 then (tb_up z a 0 (nI (4))) else z) else z) → tb_H g s.heap zq H locs → lv_has ls 1 [(0, .ref (tb_ad g (a)))] → W p l e (tb_rm 0) s m ([.ref (tb_ad g a)] : List Value).toArray below meth c H locs 0 0 (MQ below (va_Qv (fun u9 => u9 = (sz_X0_giveUpTrial z a)) (tb_B g) (tb_A g)) ([.ref (tb_ad g a)] : List Value).toArray s 0 0 (tb_A g)) (F0 m 20 ls []) := by
    intro H locs ls zq  ezq  hH hl
    subst ezq
    exact tb_rv X hr hlk hH (by rw [sz_X0_giveUpTrial]) dX0_giveUpTrial_20
  refine lv_icmp_ne (tgt := 20) X.1 X.2.1 dX0_giveUpTrial_5 (by decide) (fun c_1 => ?_) (fun c_1 => ?_)
  · exact J_1 _ _ _ _ (by rw [if_neg c_1]) hH (lv_sub hl [0] rfl)
  · refine lv_aload_n X.1 X.2.1 dX0_giveUpTrial_8 rfl (lv_at hl 0 rfl) ?_
    refine tb_get X hH (tb_Ac ha).1 ((tb_Ac ha).2 _ _) rfl inlX0 4 (by decide) wm_70 (v := .int (z a 4)) rfl dX0_giveUpTrial_9 ?_
    refine lv_if_ne (tgt := 20) X.1 X.2.1 dX0_giveUpTrial_12 (by decide) (fun c_2 => ?_) (fun c_2 => ?_)
    · exact J_1 _ _ _ _ (by rw [if_pos c_1, if_neg c_2]) hH (lv_sub hl [0] rfl)
    · refine lv_aload_n X.1 X.2.1 dX0_giveUpTrial_15 rfl (lv_at hl 0 rfl) ?_
      refine lv_iconst (v := nI (4)) X.1 X.2.1 dX0_giveUpTrial_16 (by decide +kernel) ?_
      refine tb_putA X hH ha 0 (by decide) wm_50 dX0_giveUpTrial_17 (fun H locs hH => ?_)
      exact J_1 _ _ _ _ (by rw [if_pos c_1, if_pos c_2]) hH (lv_sub hl [0] rfl)
def sz_X0_useTry (z : tb_M) (a : Nat) : tb_M := if (z a 0) = (nI (2)) then (tb_up z a 4 ((z a 4) - (nI (1)))) else z
set_option maxHeartbeats 4000000 in
set_option maxRecDepth 100000 in
theorem c_X0_useTry (l : Launch) (g : tb_G) (z : tb_M) (a : Nat) (ha : tb_isA a) : tb_Mv l yX0_useTry cX0_useTry 1 0 g z [.ref (tb_ad g a)] (sz_X0_useTry z a) := by
  refine tb_gov (own := RX0) (by decide +kernel) rfl (Nat.le_of_ble_eq_true rfl) ?_
  intro p e s m below meth c ls X hr hlk hH hl
  have hl : lv_has ls 1 [(0, .ref (tb_ad g (a)))] := hl
  refine lv_aload_n X.1 X.2.1 dX0_useTry_0 rfl (lv_at hl 0 rfl) ?_
  refine tb_get X hH (tb_Ac ha).1 ((tb_Ac ha).2 _ _) rfl inlX0 0 (by decide) wm_50 (v := .int (z a 0)) rfl dX0_useTry_1 ?_
  refine lv_iconst (v := nI (2)) X.1 X.2.1 dX0_useTry_4 (by decide +kernel) ?_
  have J_1 : ∀ (H : Heap) (locs : List Loc) (ls : Array Slot) (zq : tb_M), zq = (if (z a 0) = (nI (2)) then (tb_up z a 4 ((z a 4) - (nI (1)))) else z) → tb_H g s.heap zq H locs → lv_has ls 1 [(0, .ref (tb_ad g (a)))] → W p l e (tb_rm 0) s m ([.ref (tb_ad g a)] : List Value).toArray below meth c H locs 0 0 (MQ below (va_Qv (fun u9 => u9 = (sz_X0_useTry z a)) (tb_B g) (tb_A g)) ([.ref (tb_ad g a)] : List Value).toArray s 0 0 (tb_A g)) (F0 m 18 ls []) := by
    intro H locs ls zq  ezq  hH hl
    subst ezq
    exact tb_rv X hr hlk hH (by rw [sz_X0_useTry]) dX0_useTry_18
  refine lv_icmp_ne (tgt := 18) X.1 X.2.1 dX0_useTry_5 (by decide) (fun c_1 => ?_) (fun c_1 => ?_)
  · exact J_1 _ _ _ _ (by rw [if_neg c_1]) hH (lv_sub hl [0] rfl)
  · refine lv_aload_n X.1 X.2.1 dX0_useTry_8 rfl (lv_at hl 0 rfl) ?_
    refine lv_dup X.1 X.2.1 dX0_useTry_9 rfl ?_
    refine tb_get X hH (tb_Ac ha).1 ((tb_Ac ha).2 _ _) rfl inlX0 4 (by decide) wm_70 (v := .int (z a 4)) rfl dX0_useTry_10 ?_
    refine lv_iconst (v := nI (1)) X.1 X.2.1 dX0_useTry_13 (by decide +kernel) ?_
    refine lv_isub X.1 X.2.1 dX0_useTry_14 ?_
    refine tb_putA X hH ha 4 (by decide) wm_70 dX0_useTry_15 (fun H locs hH => ?_)
    exact J_1 _ _ _ _ (by rw [if_pos c_1]) hH (lv_sub hl [0] rfl)
