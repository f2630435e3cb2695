set_option maxHeartbeats 1000000 in
set_option maxRecDepth 100000 in
theorem c_X5_isWithin (l : Launch) (g : tb_G) (z : tb_M) (x : Int32) (lo : Int32) (hi : Int32) : tb_Mi (.boolean) l yX5_isWithin cX5_isWithin 3 0 g z [.int x, .int lo, .int hi] (tb_b (¬ (x < lo) ∧ (¬ (hi < x)))) (z) := by
  refine tb_goi (own := RX5) (by decide +kernel) rfl (Nat.le_of_ble_eq_true rfl) ?_
  intro p e s m below meth c ls X hr hlk hH hl
  have hl : lv_has ls 3 [(0, .int (x)), (1, .int (lo)), (2, .int (hi))] := hl
  refine lv_iload_n X.1 X.2.1 dX5_isWithin_0 rfl (lv_at hl 0 rfl) ?_
  refine lv_iload_n X.1 X.2.1 dX5_isWithin_1 rfl (lv_at hl 1 rfl) ?_
  have J_1 : ∀ (H : Heap) (locs : List Loc) (ls : Array Slot) (vq1 : Int32), vq1 = (tb_b (¬ (x < lo) ∧ (¬ (hi < x)))) → tb_H g s.heap z H locs → lv_has ls 3 [(0, .int (x)), (1, .int (lo)), (2, .int (hi))] → W p l e (tb_rm 0) s m ([.int x, .int lo, .int hi] : List Value).toArray below meth c H locs 0 0 (MQ below (va_Qi (fun r9 u9 => r9 = tb_b (¬ (x < lo) ∧ (¬ (hi < x))) ∧ u9 = z) (tb_B g) (tb_A g)) ([.int x, .int lo, .int hi] : List Value).toArray s 0 0 (tb_A g)) (F0 m 15 ls [.int vq1]) := by
    intro H locs ls vq1 evq1 hH hl
    subst evq1
    exact tb_rz X hr hlk hH ⟨(Iff.rfl).symm, rfl⟩ dX5_isWithin_15
  refine lv_icmp_lt (tgt := 14) X.1 X.2.1 dX5_isWithin_2 (by decide) (fun c_1 => ?_) (fun c_1 => ?_)
  · refine lv_iconst (v := nI (0)) X.1 X.2.1 dX5_isWithin_14 (by decide +kernel) ?_
    exact J_1 _ _ _ _ (tb_b_f (fun h => h.1 c_1)).symm hH (lv_sub hl [0, 1, 2] rfl)
  · refine lv_iload_n X.1 X.2.1 dX5_isWithin_5 rfl (lv_at hl 0 rfl) ?_
    refine lv_iload_n X.1 X.2.1 dX5_isWithin_6 rfl (lv_at hl 2 rfl) ?_
    refine lv_icmp_gt (tgt := 14) X.1 X.2.1 dX5_isWithin_7 (by decide) (fun c_2 => ?_) (fun c_2 => ?_)
    · refine lv_iconst (v := nI (0)) X.1 X.2.1 dX5_isWithin_14 (by decide +kernel) ?_
      exact J_1 _ _ _ _ (tb_b_f (fun h => (fun h => h c_2) h.2)).symm hH (lv_sub hl [0, 1, 2] rfl)
    · refine lv_iconst (v := nI (1)) X.1 X.2.1 dX5_isWithin_10 (by decide +kernel) ?_
      refine lv_goto (tgt := 15) X.1 X.2.1 dX5_isWithin_11 (by decide) ?_
      exact J_1 _ _ _ _ (tb_b_t ⟨c_1, c_2⟩).symm hH (lv_sub hl [0, 1, 2] rfl)
set_option maxHeartbeats 1000000 in
set_option maxRecDepth 100000 in
theorem c_X5_sumWith (l : Launch) (g : tb_G) (z : tb_M) (x : Int32) (y : Int32) : tb_Mi (.int) l yX5_sumWith cX5_sumWith 2 0 g z [.int x, .int y] (tb_sw x y) (z) := by
  refine tb_goi (own := RX5) (by decide +kernel) rfl (Nat.le_of_ble_eq_true rfl) ?_
  intro p e s m below meth c ls X hr hlk hH hl
  have hl : lv_has ls 2 [(0, .int (x)), (1, .int (y))] := hl
  refine lv_iconst (v := nI (3)) X.1 X.2.1 dX5_sumWith_0 (by decide +kernel) ?_
  refine lv_iload_n X.1 X.2.1 dX5_sumWith_1 rfl (lv_at hl 0 rfl) ?_
  refine lv_imul X.1 X.2.1 dX5_sumWith_2 ?_
  refine lv_iload_n X.1 X.2.1 dX5_sumWith_3 rfl (lv_at hl 1 rfl) ?_
  refine lv_iadd X.1 X.2.1 dX5_sumWith_4 ?_
  refine lv_sipush (v := nI (251)) X.1 X.2.1 dX5_sumWith_5 (by decide +kernel) ?_
  refine lv_irem X.1 X.2.1 dX5_sumWith_8 (by decide +kernel) ?_
  exact tb_ri X hr hlk hH ⟨rfl, rfl⟩ dX5_sumWith_9
set_option maxHeartbeats 1000000 in
set_option maxRecDepth 100000 in
theorem c_J9_floorMod_7cf53 (l : Launch) (g : tb_G) (z : tb_M) (x : Nat) (y : Nat) (hx : x < 2 ^ 31) (hy : y < 2 ^ 31) (hy0 : 0 < y) : tb_Mi (.int) l yJ9_floorMod_7cf53 cJ9_floorMod_7cf53 3 0 g z [.int (nI x), .int (nI y)] (nI (x % y)) (z) := by
  refine tb_goiF (own := RJ9) (by decide +kernel) rfl (Nat.le_of_ble_eq_true rfl) ?_
  intro p e s m below meth c ls X hr hlk hH hl
  have hl : lv_has ls 3 [(0, .int (nI (x))), (1, .int (nI (y)))] := hl
  refine lv_iload_n X.1 X.2.1 dJ9_floorMod_7cf53_0 rfl (lv_at hl 0 rfl) ?_
  refine lv_iload_n X.1 X.2.1 dJ9_floorMod_7cf53_1 rfl (lv_at hl 1 rfl) ?_
  refine lv_irem X.1 X.2.1 dJ9_floorMod_7cf53_2 (nI_ne0 hy0 hy) ?_
  refine tb_top (x2 := nI (x % y)) (pk_rem hx hy0 hy) ?_
  refine lv_istore_n (lv' := [(2, .int (nI (x % y))), (0, .int (nI (x))), (1, .int (nI (y)))]) X.1 X.2.1 dJ9_floorMod_7cf53_3 rfl hl (by decide) rfl (fun ls hl => ?_)
  refine lv_iload_n X.1 X.2.1 dJ9_floorMod_7cf53_4 rfl (lv_at hl 1 rfl) ?_
  refine lv_iload_n X.1 X.2.1 dJ9_floorMod_7cf53_5 rfl (lv_at hl 2 rfl) ?_
  refine lv_ixor X.1 X.2.1 dJ9_floorMod_7cf53_6 ?_
  refine lv_if_ge (tgt := 18) X.1 X.2.1 dJ9_floorMod_7cf53_7 (by decide) (fun _ => ?_) (fun c => (c (tb_xor0 hx hy) : False).elim)
  refine lv_iload_n X.1 X.2.1 dJ9_floorMod_7cf53_18 rfl (lv_at hl 0 rfl) ?_
  exact tb_ri X hr hlk hH ⟨rfl, rfl⟩ dJ9_floorMod_7cf53_19
def sz_X0_expectImage (z : tb_M) (a : Nat) (x : Int32) (y : Int32) (w : Int32) : tb_M := tb_up (tb_up (tb_up (tb_up (tb_up (tb_up z a 0 (nI (1))) a 1 x) a 2 y) a 3 w) a 4 (nI (0))) a 5 (nI (0))
set_option maxHeartbeats 1000000 in
set_option maxRecDepth 100000 in
theorem c_X0_expectImage (l : Launch) (g : tb_G) (z : tb_M) (a : Nat) (ha : tb_isA a) (x : Int32) (y : Int32) (w : Int32) : tb_Mv l yX0_expectImage cX0_expectImage 4 0 g z [.ref (tb_ad g a), .int x, .int y, .int w] (sz_X0_expectImage z a x y w) := by
  refine tb_gov (own := RX0) (by decide +kernel) rfl (Nat.le_of_ble_eq_true rfl) ?_
  intro p e s m below meth c ls X hr hlk hH hl
  have hl : lv_has ls 4 [(0, .ref (tb_ad g (a))), (1, .int (x)), (2, .int (y)), (3, .int (w))] := hl
  refine lv_aload_n X.1 X.2.1 dX0_expectImage_0 rfl (lv_at hl 0 rfl) ?_
  refine lv_iconst (v := nI (1)) X.1 X.2.1 dX0_expectImage_1 (by decide +kernel) ?_
  refine tb_putA X hH ha 0 (by decide) wm_50 dX0_expectImage_2 (fun H locs hH => ?_)
  refine lv_aload_n X.1 X.2.1 dX0_expectImage_5 rfl (lv_at hl 0 rfl) ?_
  refine lv_iload_n X.1 X.2.1 dX0_expectImage_6 rfl (lv_at hl 1 rfl) ?_
  refine tb_putA X hH ha 1 (by decide) wm_68 dX0_expectImage_7 (fun H locs hH => ?_)
  refine lv_aload_n X.1 X.2.1 dX0_expectImage_10 rfl (lv_at hl 0 rfl) ?_
  refine lv_iload_n X.1 X.2.1 dX0_expectImage_11 rfl (lv_at hl 2 rfl) ?_
  refine tb_putA X hH ha 2 (by decide) wm_69 dX0_expectImage_12 (fun H locs hH => ?_)
  refine lv_aload_n X.1 X.2.1 dX0_expectImage_15 rfl (lv_at hl 0 rfl) ?_
  refine lv_iload_n X.1 X.2.1 dX0_expectImage_16 rfl (lv_at hl 3 rfl) ?_
  refine tb_putA X hH ha 3 (by decide) wm_63 dX0_expectImage_17 (fun H locs hH => ?_)
  refine lv_aload_n X.1 X.2.1 dX0_expectImage_20 rfl (lv_at hl 0 rfl) ?_
  refine lv_iconst (v := nI (0)) X.1 X.2.1 dX0_expectImage_21 (by decide +kernel) ?_
  refine tb_putA X hH ha 4 (by decide) wm_70 dX0_expectImage_22 (fun H locs hH => ?_)
  refine lv_aload_n X.1 X.2.1 dX0_expectImage_25 rfl (lv_at hl 0 rfl) ?_
  refine lv_iconst (v := nI (0)) X.1 X.2.1 dX0_expectImage_26 (by decide +kernel) ?_
  refine tb_putA X hH ha 5 (by decide) wm_71 dX0_expectImage_27 (fun H locs hH => ?_)
  exact tb_rv X hr hlk hH (by rw [sz_X0_expectImage]) dX0_expectImage_30
set_option maxHeartbeats 1000000 in
set_option maxRecDepth 100000 in
theorem c_X0_lacking (l : Launch) (g : tb_G) (z : tb_M) (a : Nat) (ha : tb_isA a) : tb_Mi (.int) l yX0_lacking cX0_lacking 1 0 g z [.ref (tb_ad g a)] ((z a 2) - (z a 5)) (z) := by
  refine tb_goi (own := RX0) (by decide +kernel) rfl (Nat.le_of_ble_eq_true rfl) ?_
  intro p e s m below meth c ls X hr hlk hH hl
  have hl : lv_has ls 1 [(0, .ref (tb_ad g (a)))] := hl
  refine lv_aload_n X.1 X.2.1 dX0_lacking_0 rfl (lv_at hl 0 rfl) ?_
  refine tb_get X hH (tb_Ac ha).1 ((tb_Ac ha).2 _ _) rfl inlX0 2 (by decide) wm_69 (v := .int (z a 2)) rfl dX0_lacking_1 ?_
  refine lv_aload_n X.1 X.2.1 dX0_lacking_4 rfl (lv_at hl 0 rfl) ?_
  refine tb_get X hH (tb_Ac ha).1 ((tb_Ac ha).2 _ _) rfl inlX0 5 (by decide) wm_71 (v := .int (z a 5)) rfl dX0_lacking_5 ?_
  refine lv_isub X.1 X.2.1 dX0_lacking_8 ?_
  exact tb_ri X hr hlk hH ⟨rfl, rfl⟩ dX0_lacking_9
def sz_X0_loseFilling_m1 (z : tb_M) (a : Nat) : tb_M := if (z a 0) = (nI (1)) then (tb_up z a 0 (nI (0))) else z
set_option maxHeartbeats 1000000 in
set_option maxRecDepth 100000 in
theorem c_X0_loseFilling (l : Launch) (g : tb_G) (z : tb_M) (a : Nat) (ha : tb_isA a) : tb_Mv l yX0_loseFilling cX0_loseFilling 1 0 g z [.ref (tb_ad g a)] (sz_X0_loseFilling_m1 z a) := by
  refine tb_gov (own := RX0) (by decide +kernel) rfl (Nat.le_of_ble_eq_true rfl) ?_
  intro p e s m below meth c ls X hr hlk hH hl
  have hl : lv_has ls 1 [(0, .ref (tb_ad g (a)))] := hl
  refine lv_aload_n X.1 X.2.1 dX0_loseFilling_0 rfl (lv_at hl 0 rfl) ?_
  refine tb_get X hH (tb_Ac ha).1 ((tb_Ac ha).2 _ _) rfl inlX0 0 (by decide) wm_50 (v := .int (z a 0)) rfl dX0_loseFilling_1 ?_
  refine lv_iconst (v := nI (1)) X.1 X.2.1 dX0_loseFilling_4 (by decide +kernel) ?_
  have J_1 : ∀ (H : Heap) (locs : List Loc) (ls : Array Slot) (zq : tb_M), zq = (if (z a 0) = (nI (1)) then (tb_up z a 0 (nI (0))) else z) → tb_H g s.heap zq H locs → lv_has ls 1 [(0, .ref (tb_ad g (a)))] → W p l e (tb_rm 0) s m ([.ref (tb_ad g a)] : List Value).toArray below meth c H locs 0 0 (MQ below (va_Qv (fun u9 => u9 = (sz_X0_loseFilling_m1 z a)) (tb_B g) (tb_A g)) ([.ref (tb_ad g a)] : List Value).toArray s 0 0 (tb_A g)) (F0 m 13 ls []) := by
    intro H locs ls zq  ezq  hH hl
    subst ezq
    have hH : tb_H g s.heap (sz_X0_loseFilling_m1 z a) H locs := hH
    exact tb_rv X hr hlk hH rfl dX0_loseFilling_13
  refine lv_icmp_ne (tgt := 13) X.1 X.2.1 dX0_loseFilling_5 (by decide) (fun c_1 => ?_) (fun c_1 => ?_)
  · exact J_1 _ _ _ _ (by simp only [if_neg c_1]) hH (lv_sub hl [0] rfl)
  · refine lv_aload_n X.1 X.2.1 dX0_loseFilling_8 rfl (lv_at hl 0 rfl) ?_
    refine lv_iconst (v := nI (0)) X.1 X.2.1 dX0_loseFilling_9 (by decide +kernel) ?_
    refine tb_putA X hH ha 0 (by decide) wm_50 dX0_loseFilling_10 (fun H locs hH => ?_)
    exact J_1 _ _ _ _ (by simp only [if_pos c_1]) hH (lv_sub hl [0] rfl)
def sz_X0_giveUpTrial_m1 (z : tb_M) (a : Nat) : tb_M := if (z a 0) = (nI (2)) then (if (z a 4) = 0 then (tb_up z a 0 (nI (4))) else z) else z
set_option maxHeartbeats 1000000 in
set_option maxRecDepth 100000 in
theorem c_X0_giveUpTrial (l : Launch) (g : tb_G) (z : tb_M) (a : Nat) (ha : tb_isA a) : tb_Mv l yX0_giveUpTrial cX0_giveUpTrial 1 0 g z [.ref (tb_ad g a)] (sz_X0_giveUpTrial_m1 z a) := by
  refine tb_gov (own := RX0) (by decide +kernel) rfl (Nat.le_of_ble_eq_true rfl) ?_
  intro p e s m below meth c ls X hr hlk hH hl
  have hl : lv_has ls 1 [(0, .ref (tb_ad g (a)))] := hl
  refine lv_aload_n X.1 X.2.1 dX0_giveUpTrial_0 rfl (lv_at hl 0 rfl) ?_
  refine tb_get X hH (tb_Ac ha).1 ((tb_Ac ha).2 _ _) rfl inlX0 0 (by decide) wm_50 (v := .int (z a 0)) rfl dX0_giveUpTrial_1 ?_
  refine lv_iconst (v := nI (2)) X.1 X.2.1 dX0_giveUpTrial_4 (by decide +kernel) ?_
  have J_1 : ∀ (H : Heap) (locs : List Loc) (ls : Array Slot) (zq : tb_M), zq = (if (z a 0) = (nI (2)) then (if (z a 4) = 0 then (tb_up z a 0 (nI (4))) else z) else z) → tb_H g s.heap zq H locs → lv_has ls 1 [(0, .ref (tb_ad g (a)))] → W p l e (tb_rm 0) s m ([.ref (tb_ad g a)] : List Value).toArray below meth c H locs 0 0 (MQ below (va_Qv (fun u9 => u9 = (sz_X0_giveUpTrial_m1 z a)) (tb_B g) (tb_A g)) ([.ref (tb_ad g a)] : List Value).toArray s 0 0 (tb_A g)) (F0 m 20 ls []) := by
    intro H locs ls zq  ezq  hH hl
    subst ezq
    have hH : tb_H g s.heap (sz_X0_giveUpTrial_m1 z a) H locs := hH
    exact tb_rv X hr hlk hH rfl dX0_giveUpTrial_20
  refine lv_icmp_ne (tgt := 20) X.1 X.2.1 dX0_giveUpTrial_5 (by decide) (fun c_1 => ?_) (fun c_1 => ?_)
  · exact J_1 _ _ _ _ (by simp only [if_neg c_1]) hH (lv_sub hl [0] rfl)
  · refine lv_aload_n X.1 X.2.1 dX0_giveUpTrial_8 rfl (lv_at hl 0 rfl) ?_
    refine tb_get X hH (tb_Ac ha).1 ((tb_Ac ha).2 _ _) rfl inlX0 4 (by decide) wm_70 (v := .int (z a 4)) rfl dX0_giveUpTrial_9 ?_
    refine lv_if_ne (tgt := 20) X.1 X.2.1 dX0_giveUpTrial_12 (by decide) (fun c_2 => ?_) (fun c_2 => ?_)
    · exact J_1 _ _ _ _ (by simp only [if_pos c_1, if_neg c_2]) hH (lv_sub hl [0] rfl)
    · refine lv_aload_n X.1 X.2.1 dX0_giveUpTrial_15 rfl (lv_at hl 0 rfl) ?_
      refine lv_iconst (v := nI (4)) X.1 X.2.1 dX0_giveUpTrial_16 (by decide +kernel) ?_
      refine tb_putA X hH ha 0 (by decide) wm_50 dX0_giveUpTrial_17 (fun H locs hH => ?_)
      exact J_1 _ _ _ _ (by simp only [if_pos c_1, if_pos c_2]) hH (lv_sub hl [0] rfl)
def sz_X0_useTry_m1 (z : tb_M) (a : Nat) : tb_M := if (z a 0) = (nI (2)) then (tb_up z a 4 ((z a 4) - (nI (1)))) else z
set_option maxHeartbeats 1000000 in
set_option maxRecDepth 100000 in
theorem c_X0_useTry (l : Launch) (g : tb_G) (z : tb_M) (a : Nat) (ha : tb_isA a) : tb_Mv l yX0_useTry cX0_useTry 1 0 g z [.ref (tb_ad g a)] (sz_X0_useTry_m1 z a) := by
  refine tb_gov (own := RX0) (by decide +kernel) rfl (Nat.le_of_ble_eq_true rfl) ?_
  intro p e s m below meth c ls X hr hlk hH hl
  have hl : lv_has ls 1 [(0, .ref (tb_ad g (a)))] := hl
  refine lv_aload_n X.1 X.2.1 dX0_useTry_0 rfl (lv_at hl 0 rfl) ?_
  refine tb_get X hH (tb_Ac ha).1 ((tb_Ac ha).2 _ _) rfl inlX0 0 (by decide) wm_50 (v := .int (z a 0)) rfl dX0_useTry_1 ?_
  refine lv_iconst (v := nI (2)) X.1 X.2.1 dX0_useTry_4 (by decide +kernel) ?_
  have J_1 : ∀ (H : Heap) (locs : List Loc) (ls : Array Slot) (zq : tb_M), zq = (if (z a 0) = (nI (2)) then (tb_up z a 4 ((z a 4) - (nI (1)))) else z) → tb_H g s.heap zq H locs → lv_has ls 1 [(0, .ref (tb_ad g (a)))] → W p l e (tb_rm 0) s m ([.ref (tb_ad g a)] : List Value).toArray below meth c H locs 0 0 (MQ below (va_Qv (fun u9 => u9 = (sz_X0_useTry_m1 z a)) (tb_B g) (tb_A g)) ([.ref (tb_ad g a)] : List Value).toArray s 0 0 (tb_A g)) (F0 m 18 ls []) := by
    intro H locs ls zq  ezq  hH hl
    subst ezq
    have hH : tb_H g s.heap (sz_X0_useTry_m1 z a) H locs := hH
    exact tb_rv X hr hlk hH rfl dX0_useTry_18
  refine lv_icmp_ne (tgt := 18) X.1 X.2.1 dX0_useTry_5 (by decide) (fun c_1 => ?_) (fun c_1 => ?_)
  · exact J_1 _ _ _ _ (by simp only [if_neg c_1]) hH (lv_sub hl [0] rfl)
  · refine lv_aload_n X.1 X.2.1 dX0_useTry_8 rfl (lv_at hl 0 rfl) ?_
    refine lv_dup X.1 X.2.1 dX0_useTry_9 rfl ?_
    refine tb_get X hH (tb_Ac ha).1 ((tb_Ac ha).2 _ _) rfl inlX0 4 (by decide) wm_70 (v := .int (z a 4)) rfl dX0_useTry_10 ?_
    refine lv_iconst (v := nI (1)) X.1 X.2.1 dX0_useTry_13 (by decide +kernel) ?_
    refine lv_isub X.1 X.2.1 dX0_useTry_14 ?_
    refine tb_putA X hH ha 4 (by decide) wm_70 dX0_useTry_15 (fun H locs hH => ?_)
    exact J_1 _ _ _ _ (by simp only [if_pos c_1]) hH (lv_sub hl [0] rfl)
set_option maxHeartbeats 1000000 in
set_option maxRecDepth 100000 in
theorem c_X0_addWord (l : Launch) (g : tb_G) (z : tb_M) (a : Nat) (ha : tb_isA a) (w : Int32) (n : Nat) (hn : z a 5 = nI n) (hn2 : n < 32) : tb_Mv l yX0_addWord cX0_addWord 2 1 g z [.ref (tb_ad g a), .int w] (tb_up (tb_up z (a + 1) n w) a 5 (nI (n + 1))) := by
  refine tb_gov (own := RX0) (by decide +kernel) rfl (Nat.le_of_ble_eq_true rfl) ?_
  intro p e s m below meth c ls X hr hlk hH hl
  have hl : lv_has ls 2 [(0, .ref (tb_ad g (a))), (1, .int (w))] := hl
  refine lv_aload_n X.1 X.2.1 dX0_addWord_0 rfl (lv_at hl 0 rfl) ?_
  refine tb_get X hH (tb_Ac ha).1 ((tb_Ac ha).2 _ _) rfl inlX0 5 (by decide) wm_71 (v := .int (z a 5)) rfl dX0_addWord_1 ?_
  refine lv_iconst (v := nI (0)) X.1 X.2.1 dX0_addWord_4 (by decide +kernel) ?_
  refine lv_bipush (v := nI (31)) X.1 X.2.1 dX0_addWord_5 (by decide +kernel) ?_
  refine tb_cNi X hH hl.1 (c_X5_isWithin l g z (z a 5) (nI (0)) (nI (31))) ky_X5_isWithin.1 ky_X5_isWithin.2 X.2.2.2.2.1.2.2.1.1 rfl rfl (Nat.le_of_ble_eq_true rfl) ⟨by decide, by decide⟩ ⟨by decide, by decide⟩ dX0_addWord_7 (fun H locs hH => ?_)
  refine tb_jbeq (tgt := 33) X dX0_addWord_10 (by decide) (fun c => (c ⟨by rw [hn]; exact nI_nlt (by omega) (by omega), by rw [hn]; exact nI_nlt (by omega) (by omega)⟩ : False).elim) (fun _ => ?_)
  refine lv_aload_n X.1 X.2.1 dX0_addWord_13 rfl (lv_at hl 0 rfl) ?_
  refine tb_get X hH (tb_Ac ha).1 ((tb_Ac ha).2 _ _) rfl inlX0 6 (by decide) wm_51 (v := .ref (tb_ad g (a + 1))) rfl dX0_addWord_14 ?_
  refine lv_aload_n X.1 X.2.1 dX0_addWord_17 rfl (lv_at hl 0 rfl) ?_
  refine tb_get X hH (tb_Ac ha).1 ((tb_Ac ha).2 _ _) rfl inlX0 5 (by decide) wm_71 (v := .int (z a 5)) rfl dX0_addWord_18 ?_
  refine lv_iload_n X.1 X.2.1 dX0_addWord_21 rfl (lv_at hl 1 rfl) ?_
  refine tb_ast X hH (tb_iw ha) (n) hn hn2 (by first | decide | omega) dX0_addWord_22 (fun H locs hH => ?_)
  refine lv_aload_n X.1 X.2.1 dX0_addWord_23 rfl (lv_at hl 0 rfl) ?_
  refine lv_dup X.1 X.2.1 dX0_addWord_24 rfl ?_
  refine tb_get X hH (tb_Ac ha).1 ((tb_Ac ha).2 _ _) rfl inlX0 5 (by decide) wm_71 (v := .int ((tb_up z (a + 1) n w) a 5)) rfl dX0_addWord_25 ?_
  refine tb_top (x2 := nI (n)) (by rw [tb_up_k _ _ _ (by omega)]; exact hn) ?_
  refine lv_iconst (v := nI (1)) X.1 X.2.1 dX0_addWord_28 (by decide +kernel) ?_
  refine tb_iaddN X dX0_addWord_29 ?_
  refine tb_putA X hH ha 5 (by decide) wm_71 dX0_addWord_30 (fun H locs hH => ?_)
  exact tb_rv X hr hlk hH rfl dX0_addWord_33
set_option maxHeartbeats 1000000 in
set_option maxRecDepth 100000 in
theorem c_X0_sumOfImage (l : Launch) (g : tb_G) (z : tb_M) (a : Nat) (ha : tb_isA a) (hL : tb_okL z a) : tb_Mi (.int) l yX0_sumOfImage cX0_sumOfImage 3 1 g z [.ref (tb_ad g a)] (tb_sm (z (a + 1)) (tb_len z a)) (z) := by
  refine tb_goi (own := RX0) (by decide +kernel) rfl (Nat.le_of_ble_eq_true rfl) ?_
  intro p e s m below meth c ls X hr hlk hH hl
  have hl : lv_has ls 3 [(0, .ref (tb_ad g (a)))] := hl
  have hL2 := hL.2
  refine lv_iconst (v := nI (1)) X.1 X.2.1 dX0_sumOfImage_0 (by decide +kernel) ?_
  refine lv_istore_n (lv' := [(1, .int (nI (1))), (0, .ref (tb_ad g (a)))]) X.1 X.2.1 dX0_sumOfImage_1 rfl hl (by decide) rfl (fun ls hl => ?_)
  refine lv_iconst (v := nI (0)) X.1 X.2.1 dX0_sumOfImage_2 (by decide +kernel) ?_
  refine lv_istore_n (lv' := [(2, .int (nI (0))), (1, .int (nI (1))), (0, .ref (tb_ad g (a)))]) X.1 X.2.1 dX0_sumOfImage_3 rfl hl (by decide) rfl (fun ls hl => ?_)
  have L_4 : ∀ (k : Nat) (i : Nat), i + k = tb_len z a → ∀ (H : Heap) (locs : List Loc) (ls : Array Slot), tb_H g s.heap (z) H locs → lv_has ls 3 [(0, .ref (tb_ad g (a))), (1, .int (tb_sm (z (a + 1)) i)), (2, .int (nI (i)))] → W p l e (tb_rm 1) s m ([.ref (tb_ad g a)] : List Value).toArray below meth c H locs 0 0 (MQ below (va_Qi (fun r9 u9 => r9 = tb_sm (z (a + 1)) (tb_len z a) ∧ u9 = z) (tb_B g) (tb_A g)) ([.ref (tb_ad g a)] : List Value).toArray s 0 0 (tb_A g)) (F0 m 4 ls []) := by
    intro k
    induction k with
    | zero =>
      intro i hik H locs ls hH hl
      refine lv_iload_n X.1 X.2.1 dX0_sumOfImage_4 rfl (lv_at hl 2 rfl) ?_
      refine lv_aload_n X.1 X.2.1 dX0_sumOfImage_5 rfl (lv_at hl 0 rfl) ?_
      refine tb_get X hH (tb_Ac ha).1 ((tb_Ac ha).2 _ _) rfl inlX0 2 (by decide) wm_69 (v := .int (z a 2)) rfl dX0_sumOfImage_6 ?_
      refine tb_top (x2 := nI (tb_len z a)) (hL.1) ?_
      refine tb_nge (tgt := 35) X (by omega) (by omega) dX0_sumOfImage_9 (by decide) (fun _ => ?_) (fun c => ((by omega) : False).elim)
      refine lv_iload_n X.1 X.2.1 dX0_sumOfImage_35 rfl (lv_at hl 1 rfl) ?_
      exact tb_ri X hr hlk hH ⟨(by rw [show i = tb_len z a by omega]), rfl⟩ dX0_sumOfImage_36
    | succ k ih_4 =>
      intro i hik H locs ls hH hl
      refine lv_iload_n X.1 X.2.1 dX0_sumOfImage_4 rfl (lv_at hl 2 rfl) ?_
      refine lv_aload_n X.1 X.2.1 dX0_sumOfImage_5 rfl (lv_at hl 0 rfl) ?_
      refine tb_get X hH (tb_Ac ha).1 ((tb_Ac ha).2 _ _) rfl inlX0 2 (by decide) wm_69 (v := .int (z a 2)) rfl dX0_sumOfImage_6 ?_
      refine tb_top (x2 := nI (tb_len z a)) (hL.1) ?_
      refine tb_nge (tgt := 35) X (by omega) (by omega) dX0_sumOfImage_9 (by decide) (fun c => ((by omega) : False).elim) (fun _ => ?_)
      refine lv_iload_n X.1 X.2.1 dX0_sumOfImage_12 rfl (lv_at hl 2 rfl) ?_
      refine lv_bipush (v := nI (32)) X.1 X.2.1 dX0_sumOfImage_13 (by decide +kernel) ?_
      refine tb_nge (tgt := 35) X (by omega) (by omega) dX0_sumOfImage_15 (by decide) (fun c => ((by omega) : False).elim) (fun _ => ?_)
      refine lv_iload_n X.1 X.2.1 dX0_sumOfImage_18 rfl (lv_at hl 1 rfl) ?_
      refine lv_aload_n X.1 X.2.1 dX0_sumOfImage_19 rfl (lv_at hl 0 rfl) ?_
      refine tb_get X hH (tb_Ac ha).1 ((tb_Ac ha).2 _ _) rfl inlX0 6 (by decide) wm_51 (v := .ref (tb_ad g (a + 1))) rfl dX0_sumOfImage_20 ?_
      refine lv_iload_n X.1 X.2.1 dX0_sumOfImage_23 rfl (lv_at hl 2 rfl) ?_
      refine tb_ald X hH (tb_iw ha) (i) rfl (by omega) (by first | decide | omega) dX0_sumOfImage_24 ?_
      refine tb_cNi X hH hl.1 (c_X5_sumWith l g z (tb_sm (z (a + 1)) i) (z (a + 1) i)) ky_X5_sumWith.1 ky_X5_sumWith.2 X.2.2.2.2.1.2.2.1.2.1 rfl rfl (Nat.le_of_ble_eq_true rfl) ⟨by decide, by decide⟩ ⟨by decide, by decide⟩ dX0_sumOfImage_25 (fun H locs hH => ?_)
      refine lv_istore_n (lv' := [(1, .int ((tb_sw (tb_sm (z (a + 1)) i) (z (a + 1) i)))), (0, .ref (tb_ad g (a))), (2, .int (nI (i)))]) X.1 X.2.1 dX0_sumOfImage_28 rfl hl (by decide) rfl (fun ls hl => ?_)
      refine lv_iinc (v := nI (i + 1)) (lv' := [(2, .int (nI (i + 1))), (1, .int ((tb_sw (tb_sm (z (a + 1)) i) (z (a + 1) i)))), (0, .ref (tb_ad g (a)))]) X.1 X.2.1 dX0_sumOfImage_29 hl (k := 2) rfl (nI_add _ _) (by decide) rfl (fun ls hl => ?_)
      refine lv_goto (tgt := 4) X.1 X.2.1 dX0_sumOfImage_32 (by decide) ?_
      exact ih_4 (i + 1) (by omega) _ _ _ hH (lv_sub hl [2, 1, 0] rfl)
  exact L_4 (tb_len z a) 0 (by omega) _ _ _ hH (lv_sub hl [2, 1, 0] rfl)
set_option maxHeartbeats 1000000 in
set_option maxRecDepth 100000 in
theorem c_X0_isSound (l : Launch) (g : tb_G) (z : tb_M) (a : Nat) (ha : tb_isA a) (hL : tb_okL z a) : tb_Mi (.boolean) l yX0_isSound cX0_isSound 1 2 g z [.ref (tb_ad g a)] (tb_b (((tb_sm (z (a + 1)) (tb_len z a))) = (z a 3))) (z) := by
  refine tb_goi (own := RX0) (by decide +kernel) rfl (Nat.le_of_ble_eq_true rfl) ?_
  intro p e s m below meth c ls X hr hlk hH hl
  have hl : lv_has ls 1 [(0, .ref (tb_ad g (a)))] := hl
  refine lv_aload_n X.1 X.2.1 dX0_isSound_0 rfl (lv_at hl 0 rfl) ?_
  refine tb_cVi X hH hl.1 (c_X0_sumOfImage l g z a ha (by first | assumption | omega | decide)) ky_X0_sumOfImage.1 ky_X0_sumOfImage.2 wm_78 (tb_oA ha) rfl rfl (Nat.le_of_ble_eq_true rfl) ⟨by decide, by decide⟩ ⟨by decide, by decide⟩ dX0_isSound_1 (fun H locs hH => ?_)
  refine lv_aload_n X.1 X.2.1 dX0_isSound_4 rfl (lv_at hl 0 rfl) ?_
  refine tb_get X hH (tb_Ac ha).1 ((tb_Ac ha).2 _ _) rfl inlX0 3 (by decide) wm_63 (v := .int (z a 3)) rfl dX0_isSound_5 ?_
  have J_1 : ∀ (H : Heap) (locs : List Loc) (ls : Array Slot) (vq1 : Int32), vq1 = (tb_b (((tb_sm (z (a + 1)) (tb_len z a))) = (z a 3))) → tb_H g s.heap z H locs → lv_has ls 1 [(0, .ref (tb_ad g (a)))] → W p l e (tb_rm 2) s m ([.ref (tb_ad g a)] : List Value).toArray below meth c H locs 0 0 (MQ below (va_Qi (fun r9 u9 => r9 = tb_b (((tb_sm (z (a + 1)) (tb_len z a))) = (z a 3)) ∧ u9 = z) (tb_B g) (tb_A g)) ([.ref (tb_ad g a)] : List Value).toArray s 0 0 (tb_A g)) (F0 m 16 ls [.int vq1]) := by
    intro H locs ls vq1 evq1 hH hl
    subst evq1
    exact tb_rz X hr hlk hH ⟨(Iff.rfl).symm, rfl⟩ dX0_isSound_16
  refine lv_icmp_ne (tgt := 15) X.1 X.2.1 dX0_isSound_8 (by decide) (fun c_1 => ?_) (fun c_1 => ?_)
  · refine lv_iconst (v := nI (0)) X.1 X.2.1 dX0_isSound_15 (by decide +kernel) ?_
    exact J_1 _ _ _ _ (tb_b_f c_1).symm hH (lv_sub hl [0] rfl)
  · refine lv_iconst (v := nI (1)) X.1 X.2.1 dX0_isSound_11 (by decide +kernel) ?_
    refine lv_goto (tgt := 16) X.1 X.2.1 dX0_isSound_12 (by decide) ?_
    exact J_1 _ _ _ _ (tb_b_t c_1).symm hH (lv_sub hl [0] rfl)
def sz_X0_takeGoldenImage (z : tb_M) (a : Nat) : tb_M := tb_up (tb_up (tb_up (tb_up (tb_up (tb_up (sz_X0_expectImage z a (nI (0)) (nI (2)) (nI (0))) (a + 1) 0 (nI (0))) a 5 (nI (0 + 1))) (a + 1) 1 (nI (0))) a 5 (nI (1 + 1))) a 3 ((tb_sm ((tb_up (tb_up (tb_up (tb_up (sz_X0_expectImage z a (nI (0)) (nI (2)) (nI (0))) (a + 1) 0 (nI (0))) a 5 (nI (0 + 1))) (a + 1) 1 (nI (0))) a 5 (nI (1 + 1))) (a + 1)) (tb_len (tb_up (tb_up (tb_up (tb_up (sz_X0_expectImage z a (nI (0)) (nI (2)) (nI (0))) (a + 1) 0 (nI (0))) a 5 (nI (0 + 1))) (a + 1) 1 (nI (0))) a 5 (nI (1 + 1))) a)))) a 0 (nI (3))
set_option maxHeartbeats 1000000 in
set_option maxRecDepth 100000 in
theorem c_X0_takeGoldenImage (l : Launch) (g : tb_G) (z : tb_M) (a : Nat) (ha : tb_isA a) : tb_Mv l yX0_takeGoldenImage cX0_takeGoldenImage 1 2 g z [.ref (tb_ad g a)] (sz_X0_takeGoldenImage z a) := by
  refine tb_gov (own := RX0) (by decide +kernel) rfl (Nat.le_of_ble_eq_true rfl) ?_
  intro p e s m below meth c ls X hr hlk hH hl
  have hl : lv_has ls 1 [(0, .ref (tb_ad g (a)))] := hl
  refine lv_aload_n X.1 X.2.1 dX0_takeGoldenImage_0 rfl (lv_at hl 0 rfl) ?_
  refine lv_iconst (v := nI (0)) X.1 X.2.1 dX0_takeGoldenImage_1 (by decide +kernel) ?_
  refine lv_iconst (v := nI (2)) X.1 X.2.1 dX0_takeGoldenImage_2 (by decide +kernel) ?_
  refine lv_iconst (v := nI (0)) X.1 X.2.1 dX0_takeGoldenImage_3 (by decide +kernel) ?_
  refine tb_cVv X hH hl.1 (c_X0_expectImage l g z a ha (nI (0)) (nI (2)) (nI (0))) ky_X0_expectImage.1 ky_X0_expectImage.2 wm_64 (tb_oA ha) rfl rfl (Nat.le_of_ble_eq_true rfl) ⟨by decide, by decide⟩ ⟨by decide, by decide⟩ dX0_takeGoldenImage_4 (fun H locs hH => ?_)
  refine lv_aload_n X.1 X.2.1 dX0_takeGoldenImage_7 rfl (lv_at hl 0 rfl) ?_
  refine lv_iconst (v := nI (0)) X.1 X.2.1 dX0_takeGoldenImage_8 (by decide +kernel) ?_
  refine tb_cVv X hH hl.1 (c_X0_addWord l g (sz_X0_expectImage z a (nI (0)) (nI (2)) (nI (0))) a ha (nI (0)) 0 (by simp [sz_X0_expectImage, tb_up]) (by decide)) ky_X0_addWord.1 ky_X0_addWord.2 wm_72 (tb_oA ha) rfl rfl (Nat.le_of_ble_eq_true rfl) ⟨by decide, by decide⟩ ⟨by decide, by decide⟩ dX0_takeGoldenImage_9 (fun H locs hH => ?_)
  refine lv_aload_n X.1 X.2.1 dX0_takeGoldenImage_12 rfl (lv_at hl 0 rfl) ?_
  refine lv_iconst (v := nI (0)) X.1 X.2.1 dX0_takeGoldenImage_13 (by decide +kernel) ?_
  refine tb_cVv X hH hl.1 (c_X0_addWord l g (tb_up (tb_up (sz_X0_expectImage z a (nI (0)) (nI (2)) (nI (0))) (a + 1) 0 (nI (0))) a 5 (nI (0 + 1))) a ha (nI (0)) 1 (by simp [tb_up]) (by decide)) ky_X0_addWord.1 ky_X0_addWord.2 wm_72 (tb_oA ha) rfl rfl (Nat.le_of_ble_eq_true rfl) ⟨by decide, by decide⟩ ⟨by decide, by decide⟩ dX0_takeGoldenImage_14 (fun H locs hH => ?_)
  refine lv_aload_n X.1 X.2.1 dX0_takeGoldenImage_17 rfl (lv_at hl 0 rfl) ?_
  refine lv_aload_n X.1 X.2.1 dX0_takeGoldenImage_18 rfl (lv_at hl 0 rfl) ?_
  refine tb_cVi X hH hl.1 (c_X0_sumOfImage l g (tb_up (tb_up (tb_up (tb_up (sz_X0_expectImage z a (nI (0)) (nI (2)) (nI (0))) (a + 1) 0 (nI (0))) a 5 (nI (0 + 1))) (a + 1) 1 (nI (0))) a 5 (nI (1 + 1))) a ha (tb_okL_of (n := 2) (by simp [sz_X0_expectImage, tb_up]) (by decide)).1) ky_X0_sumOfImage.1 ky_X0_sumOfImage.2 wm_78 (tb_oA ha) rfl rfl (Nat.le_of_ble_eq_true rfl) ⟨by decide, by decide⟩ ⟨by decide, by decide⟩ dX0_takeGoldenImage_19 (fun H locs hH => ?_)
  refine tb_putA X hH ha 3 (by decide) wm_63 dX0_takeGoldenImage_22 (fun H locs hH => ?_)
  refine lv_aload_n X.1 X.2.1 dX0_takeGoldenImage_25 rfl (lv_at hl 0 rfl) ?_
  refine lv_iconst (v := nI (3)) X.1 X.2.1 dX0_takeGoldenImage_26 (by decide +kernel) ?_
  refine tb_putA X hH ha 0 (by decide) wm_50 dX0_takeGoldenImage_27 (fun H locs hH => ?_)
  exact tb_rv X hr hlk hH (by rw [sz_X0_takeGoldenImage]) dX0_takeGoldenImage_30
set_option maxHeartbeats 1000000 in
set_option maxRecDepth 100000 in
theorem c_X0_greatestWear (l : Launch) (g : tb_G) (z : tb_M) (a : Nat) (ha : tb_isA a) (q : Nat) (hq : q ≤ 8) : tb_Mi (.int) l yX0_greatestWear cX0_greatestWear 4 1 g z [.ref (tb_ad g a), .int (nI q)] (tb_gw (z (a + 2)) q) (z) := by
  refine tb_goi (own := RX0) (by decide +kernel) rfl (Nat.le_of_ble_eq_true rfl) ?_
  intro p e s m below meth c ls X hr hlk hH hl
  have hl : lv_has ls 4 [(0, .ref (tb_ad g (a))), (1, .int (nI (q)))] := hl
  refine lv_iconst (v := nI (0)) X.1 X.2.1 dX0_greatestWear_0 (by decide +kernel) ?_
  refine lv_istore_n (lv' := [(2, .int (nI (0))), (0, .ref (tb_ad g (a))), (1, .int (nI (q)))]) X.1 X.2.1 dX0_greatestWear_1 rfl hl (by decide) rfl (fun ls hl => ?_)
  refine lv_iconst (v := nI (0)) X.1 X.2.1 dX0_greatestWear_2 (by decide +kernel) ?_
  refine lv_istore_n (lv' := [(3, .int (nI (0))), (2, .int (nI (0))), (0, .ref (tb_ad g (a))), (1, .int (nI (q)))]) X.1 X.2.1 dX0_greatestWear_3 rfl hl (by decide) rfl (fun ls hl => ?_)
  have L_4 : ∀ (k : Nat) (i : Nat), i + k = q → ∀ (H : Heap) (locs : List Loc) (ls : Array Slot), tb_H g s.heap (z) H locs → lv_has ls 4 [(0, .ref (tb_ad g (a))), (1, .int (nI (q))), (2, .int (tb_gw (z (a + 2)) i)), (3, .int (nI (i)))] → W p l e (tb_rm 1) s m ([.ref (tb_ad g a), .int (nI q)] : List Value).toArray below meth c H locs 0 0 (MQ below (va_Qi (fun r9 u9 => r9 = tb_gw (z (a + 2)) q ∧ u9 = z) (tb_B g) (tb_A g)) ([.ref (tb_ad g a), .int (nI q)] : List Value).toArray s 0 0 (tb_A g)) (F0 m 4 ls []) := by
    intro k
    induction k with
    | zero =>
      intro i hik H locs ls hH hl
      refine lv_iload_n X.1 X.2.1 dX0_greatestWear_4 rfl (lv_at hl 3 rfl) ?_
      refine lv_iload_n X.1 X.2.1 dX0_greatestWear_5 rfl (lv_at hl 1 rfl) ?_
      refine tb_nge (tgt := 32) X (by omega) (by omega) dX0_greatestWear_6 (by decide) (fun _ => ?_) (fun c => ((by omega) : False).elim)
      refine lv_iload_n X.1 X.2.1 dX0_greatestWear_32 rfl (lv_at hl 2 rfl) ?_
      exact tb_ri X hr hlk hH ⟨(by rw [show i = q by omega]), rfl⟩ dX0_greatestWear_33
    | succ k ih_4 =>
      intro i hik H locs ls hH hl
      refine lv_iload_n X.1 X.2.1 dX0_greatestWear_4 rfl (lv_at hl 3 rfl) ?_
      refine lv_iload_n X.1 X.2.1 dX0_greatestWear_5 rfl (lv_at hl 1 rfl) ?_
      refine tb_nge (tgt := 32) X (by omega) (by omega) dX0_greatestWear_6 (by decide) (fun c => ((by omega) : False).elim) (fun _ => ?_)
      refine lv_iload_n X.1 X.2.1 dX0_greatestWear_9 rfl (lv_at hl 3 rfl) ?_
      refine lv_bipush (v := nI (8)) X.1 X.2.1 dX0_greatestWear_10 (by decide +kernel) ?_
      refine tb_nge (tgt := 32) X (by omega) (by omega) dX0_greatestWear_12 (by decide) (fun c => ((by omega) : False).elim) (fun _ => ?_)
      refine lv_iload_n X.1 X.2.1 dX0_greatestWear_15 rfl (lv_at hl 2 rfl) ?_
      refine lv_aload_n X.1 X.2.1 dX0_greatestWear_16 rfl (lv_at hl 0 rfl) ?_
      refine tb_get X hH (tb_Ac ha).1 ((tb_Ac ha).2 _ _) rfl inlX0 7 (by decide) wm_52 (v := .ref (tb_ad g (a + 2))) rfl dX0_greatestWear_17 ?_
      refine lv_iload_n X.1 X.2.1 dX0_greatestWear_20 rfl (lv_at hl 3 rfl) ?_
      refine tb_ald X hH (tb_iv ha) (i) rfl (by omega) (by first | decide | omega) dX0_greatestWear_21 ?_
      refine tb_cmax X hl.1 wm_203 wm_193 wm_124 wm_194 (by decide) (Nat.le_of_ble_eq_true rfl) ⟨by decide, by decide⟩ dX0_greatestWear_22 ?_
      refine lv_istore_n (lv' := [(2, .int (if tb_gw (z (a + 2)) i < z (a + 2) i then z (a + 2) i else tb_gw (z (a + 2)) i)), (0, .ref (tb_ad g (a))), (1, .int (nI (q))), (3, .int (nI (i)))]) X.1 X.2.1 dX0_greatestWear_25 rfl hl (by decide) rfl (fun ls hl => ?_)
      refine lv_iinc (v := nI (i + 1)) (lv' := [(3, .int (nI (i + 1))), (2, .int (if tb_gw (z (a + 2)) i < z (a + 2) i then z (a + 2) i else tb_gw (z (a + 2)) i)), (0, .ref (tb_ad g (a))), (1, .int (nI (q)))]) X.1 X.2.1 dX0_greatestWear_26 hl (k := 3) rfl (nI_add _ _) (by decide) rfl (fun ls hl => ?_)
      refine lv_goto (tgt := 4) X.1 X.2.1 dX0_greatestWear_29 (by decide) ?_
      exact ih_4 (i + 1) (by omega) _ _ _ hH (lv_sub hl [2, 3, 1, 0] rfl)
  exact L_4 q 0 (by omega) _ _ _ hH (lv_sub hl [2, 3, 1, 0] rfl)
set_option maxHeartbeats 1000000 in
set_option maxRecDepth 100000 in
theorem c_X0_wornOutPages (l : Launch) (g : tb_G) (z : tb_M) (a : Nat) (ha : tb_isA a) (x : Int32) : tb_Mi (.int) l yX0_wornOutPages cX0_wornOutPages 4 0 g z [.ref (tb_ad g a), .int x] (tb_wo (z (a + 2)) x 8) (z) := by
  refine tb_goi (own := RX0) (by decide +kernel) rfl (Nat.le_of_ble_eq_true rfl) ?_
  intro p e s m below meth c ls X hr hlk hH hl
  have hl : lv_has ls 4 [(0, .ref (tb_ad g (a))), (1, .int (x))] := hl
  refine lv_iconst (v := nI (0)) X.1 X.2.1 dX0_wornOutPages_0 (by decide +kernel) ?_
  refine lv_istore_n (lv' := [(2, .int (nI (0))), (0, .ref (tb_ad g (a))), (1, .int (x))]) X.1 X.2.1 dX0_wornOutPages_1 rfl hl (by decide) rfl (fun ls hl => ?_)
  refine lv_iconst (v := nI (0)) X.1 X.2.1 dX0_wornOutPages_2 (by decide +kernel) ?_
  refine lv_istore_n (lv' := [(3, .int (nI (0))), (2, .int (nI (0))), (0, .ref (tb_ad g (a))), (1, .int (x))]) X.1 X.2.1 dX0_wornOutPages_3 rfl hl (by decide) rfl (fun ls hl => ?_)
  have L_4 : ∀ (k : Nat) (i : Nat), i + k = 8 → ∀ (H : Heap) (locs : List Loc) (ls : Array Slot), tb_H g s.heap (z) H locs → lv_has ls 4 [(0, .ref (tb_ad g (a))), (1, .int (x)), (2, .int (tb_wo (z (a + 2)) x i)), (3, .int (nI (i)))] → W p l e (tb_rm 0) s m ([.ref (tb_ad g a), .int x] : List Value).toArray below meth c H locs 0 0 (MQ below (va_Qi (fun r9 u9 => r9 = tb_wo (z (a + 2)) x 8 ∧ u9 = z) (tb_B g) (tb_A g)) ([.ref (tb_ad g a), .int x] : List Value).toArray s 0 0 (tb_A g)) (F0 m 4 ls []) := by
    intro k
    induction k with
    | zero =>
      intro i hik H locs ls hH hl
      refine lv_iload_n X.1 X.2.1 dX0_wornOutPages_4 rfl (lv_at hl 3 rfl) ?_
      refine lv_bipush (v := nI (8)) X.1 X.2.1 dX0_wornOutPages_5 (by decide +kernel) ?_
      refine tb_nge (tgt := 29) X (by omega) (by omega) dX0_wornOutPages_7 (by decide) (fun _ => ?_) (fun c => ((by omega) : False).elim)
      refine lv_iload_n X.1 X.2.1 dX0_wornOutPages_29 rfl (lv_at hl 2 rfl) ?_
      exact tb_ri X hr hlk hH ⟨(by rw [show i = 8 by omega]), rfl⟩ dX0_wornOutPages_30
    | succ k ih_4 =>
      intro i hik H locs ls hH hl
      refine lv_iload_n X.1 X.2.1 dX0_wornOutPages_4 rfl (lv_at hl 3 rfl) ?_
      refine lv_bipush (v := nI (8)) X.1 X.2.1 dX0_wornOutPages_5 (by decide +kernel) ?_
      refine tb_nge (tgt := 29) X (by omega) (by omega) dX0_wornOutPages_7 (by decide) (fun c => ((by omega) : False).elim) (fun _ => ?_)
      refine lv_aload_n X.1 X.2.1 dX0_wornOutPages_10 rfl (lv_at hl 0 rfl) ?_
      refine tb_get X hH (tb_Ac ha).1 ((tb_Ac ha).2 _ _) rfl inlX0 7 (by decide) wm_52 (v := .ref (tb_ad g (a + 2))) rfl dX0_wornOutPages_11 ?_
      refine lv_iload_n X.1 X.2.1 dX0_wornOutPages_14 rfl (lv_at hl 3 rfl) ?_
      refine tb_ald X hH (tb_iv ha) (i) rfl (by omega) (by first | decide | omega) dX0_wornOutPages_15 ?_
      refine lv_iload_n X.1 X.2.1 dX0_wornOutPages_16 rfl (lv_at hl 1 rfl) ?_
      have J_1 : ∀ (H : Heap) (locs : List Loc) (ls : Array Slot) (vq1 : Int32), vq1 = (if (z (a + 2) i) < x then (tb_wo (z (a + 2)) x i) else ((tb_wo (z (a + 2)) x i) + nI 1)) → tb_H g s.heap z H locs → lv_has ls 4 [(0, .ref (tb_ad g (a))), (1, .int (x)), (2, .int vq1), (3, .int (nI (i)))] → W p l e (tb_rm 0) s m ([.ref (tb_ad g a), .int x] : List Value).toArray below meth c H locs 0 0 (MQ below (va_Qi (fun r9 u9 => r9 = tb_wo (z (a + 2)) x 8 ∧ u9 = z) (tb_B g) (tb_A g)) ([.ref (tb_ad g a), .int x] : List Value).toArray s 0 0 (tb_A g)) (F0 m 23 ls []) := by
        intro H locs ls vq1 evq1 hH hl
        subst evq1
        refine lv_iinc (v := nI (i + 1)) (lv' := [(3, .int (nI (i + 1))), (0, .ref (tb_ad g (a))), (1, .int (x)), (2, .int (if (z (a + 2) i) < x then (tb_wo (z (a + 2)) x i) else ((tb_wo (z (a + 2)) x i) + nI 1)))]) X.1 X.2.1 dX0_wornOutPages_23 hl (k := 3) rfl (nI_add _ _) (by decide) rfl (fun ls hl => ?_)
        refine lv_goto (tgt := 4) X.1 X.2.1 dX0_wornOutPages_26 (by decide) ?_
        exact ih_4 (i + 1) (by omega) _ _ _ hH (lv_sub hl [1, 2, 3, 0] rfl)
      refine lv_icmp_lt (tgt := 23) X.1 X.2.1 dX0_wornOutPages_17 (by decide) (fun c_1 => ?_) (fun c_1 => ?_)
      · exact J_1 _ _ _ _ (by simp only [if_pos c_1]) hH (lv_sub hl [0, 1, 2, 3] rfl)
      · refine lv_iinc (v := (tb_wo (z (a + 2)) x i) + nI 1) (lv' := [(2, .int ((tb_wo (z (a + 2)) x i) + nI 1)), (0, .ref (tb_ad g (a))), (1, .int (x)), (3, .int (nI (i)))]) X.1 X.2.1 dX0_wornOutPages_20 hl (k := 2) rfl rfl (by decide) rfl (fun ls hl => ?_)
        exact J_1 _ _ _ _ (by simp only [if_neg c_1]) hH (lv_sub hl [1, 2, 0, 3] rfl)
  exact L_4 8 0 (by omega) _ _ _ hH (lv_sub hl [2, 3, 1, 0] rfl)
set_option maxHeartbeats 1000000 in
set_option maxRecDepth 100000 in
theorem c_X0_emptyPages (l : Launch) (g : tb_G) (z : tb_M) (a : Nat) (ha : tb_isA a) (q : Nat) (hq : q ≤ 8) : tb_Mv l yX0_emptyPages cX0_emptyPages 3 0 g z [.ref (tb_ad g a), .int (nI q)] (tb_ec (tb_ew z a q) a (q * 4)) := by
  refine tb_gov (own := RX0) (by decide +kernel) rfl (Nat.le_of_ble_eq_true rfl) ?_
  intro p e s m below meth c ls X hr hlk hH hl
  have hl : lv_has ls 3 [(0, .ref (tb_ad g (a))), (1, .int (nI (q)))] := hl
  refine lv_iconst (v := nI (0)) X.1 X.2.1 dX0_emptyPages_0 (by decide +kernel) ?_
  refine lv_istore_n (lv' := [(2, .int (nI (0))), (0, .ref (tb_ad g (a))), (1, .int (nI (q)))]) X.1 X.2.1 dX0_emptyPages_1 rfl hl (by decide) rfl (fun ls hl => ?_)
  have L_2 : ∀ (k : Nat) (i : Nat), i + k = q → ∀ (H : Heap) (locs : List Loc) (ls : Array Slot), tb_H g s.heap (tb_ew z a i) H locs → lv_has ls 3 [(0, .ref (tb_ad g (a))), (1, .int (nI (q))), (2, .int (nI (i)))] → W p l e (tb_rm 0) s m ([.ref (tb_ad g a), .int (nI q)] : List Value).toArray below meth c H locs 0 0 (MQ below (va_Qv (fun u9 => u9 = (tb_ec (tb_ew z a q) a (q * 4))) (tb_B g) (tb_A g)) ([.ref (tb_ad g a), .int (nI q)] : List Value).toArray s 0 0 (tb_A g)) (F0 m 2 ls []) := by
    intro k
    induction k with
    | zero =>
      intro i hik H locs ls hH hl
      refine lv_iload_n X.1 X.2.1 dX0_emptyPages_2 rfl (lv_at hl 2 rfl) ?_
      refine lv_iload_n X.1 X.2.1 dX0_emptyPages_3 rfl (lv_at hl 1 rfl) ?_
      refine tb_nge (tgt := 29) X (by omega) (by omega) dX0_emptyPages_4 (by decide) (fun _ => ?_) (fun c => ((by omega) : False).elim)
      refine lv_iconst (v := nI (0)) X.1 X.2.1 dX0_emptyPages_29 (by decide +kernel) ?_
      refine lv_istore_n (lv' := [(2, .int (nI (0))), (0, .ref (tb_ad g (a))), (1, .int (nI (q)))]) X.1 X.2.1 dX0_emptyPages_30 rfl hl (by decide) rfl (fun ls hl => ?_)
      have L_31 : ∀ (k : Nat) (i2 : Nat), i2 + k = q * 4 → ∀ (H : Heap) (locs : List Loc) (ls : Array Slot), tb_H g s.heap (tb_ec (tb_ew z a q) a i2) H locs → lv_has ls 3 [(0, .ref (tb_ad g (a))), (1, .int (nI (q))), (2, .int (nI (i2)))] → W p l e (tb_rm 0) s m ([.ref (tb_ad g a), .int (nI q)] : List Value).toArray below meth c H locs 0 0 (MQ below (va_Qv (fun u9 => u9 = (tb_ec (tb_ew z a q) a (q * 4))) (tb_B g) (tb_A g)) ([.ref (tb_ad g a), .int (nI q)] : List Value).toArray s 0 0 (tb_A g)) (F0 m 31 ls []) := by
        intro k
        induction k with
        | zero =>
          intro i2 hik2 H locs ls hH hl
          refine lv_iload_n X.1 X.2.1 dX0_emptyPages_31 rfl (lv_at hl 2 rfl) ?_
          refine lv_iload_n X.1 X.2.1 dX0_emptyPages_32 rfl (lv_at hl 1 rfl) ?_
          refine lv_iconst (v := nI (4)) X.1 X.2.1 dX0_emptyPages_33 (by decide +kernel) ?_
          refine tb_imulN X dX0_emptyPages_34 ?_
          refine tb_nge (tgt := 59) X (by omega) (by omega) dX0_emptyPages_35 (by decide) (fun _ => ?_) (fun c => ((by omega) : False).elim)
          exact tb_rv X hr hlk hH (by rw [show i2 = q * 4 by omega]) dX0_emptyPages_59
        | succ k ih_31 =>
          intro i2 hik2 H locs ls hH hl
          refine lv_iload_n X.1 X.2.1 dX0_emptyPages_31 rfl (lv_at hl 2 rfl) ?_
          refine lv_iload_n X.1 X.2.1 dX0_emptyPages_32 rfl (lv_at hl 1 rfl) ?_
          refine lv_iconst (v := nI (4)) X.1 X.2.1 dX0_emptyPages_33 (by decide +kernel) ?_
          refine tb_imulN X dX0_emptyPages_34 ?_
          refine tb_nge (tgt := 59) X (by omega) (by omega) dX0_emptyPages_35 (by decide) (fun c => ((by omega) : False).elim) (fun _ => ?_)
          refine lv_iload_n X.1 X.2.1 dX0_emptyPages_38 rfl (lv_at hl 2 rfl) ?_
          refine lv_bipush (v := nI (32)) X.1 X.2.1 dX0_emptyPages_39 (by decide +kernel) ?_
          refine tb_nge (tgt := 59) X (by omega) (by omega) dX0_emptyPages_41 (by decide) (fun c => ((by omega) : False).elim) (fun _ => ?_)
          refine lv_aload_n X.1 X.2.1 dX0_emptyPages_44 rfl (lv_at hl 0 rfl) ?_
          refine tb_get X hH (tb_Ac ha).1 ((tb_Ac ha).2 _ _) rfl inlX0 6 (by decide) wm_51 (v := .ref (tb_ad g (a + 1))) rfl dX0_emptyPages_45 ?_
          refine lv_iload_n X.1 X.2.1 dX0_emptyPages_48 rfl (lv_at hl 2 rfl) ?_
          refine lv_sipush (v := nI (255)) X.1 X.2.1 dX0_emptyPages_49 (by decide +kernel) ?_
          refine tb_ast X hH (tb_iw ha) (i2) rfl (by omega) (by first | decide | omega) dX0_emptyPages_52 (fun H locs hH => ?_)
          refine lv_iinc (v := nI (i2 + 1)) (lv' := [(2, .int (nI (i2 + 1))), (0, .ref (tb_ad g (a))), (1, .int (nI (q)))]) X.1 X.2.1 dX0_emptyPages_53 hl (k := 2) rfl (nI_add _ _) (by decide) rfl (fun ls hl => ?_)
          refine lv_goto (tgt := 31) X.1 X.2.1 dX0_emptyPages_56 (by decide) ?_
          exact ih_31 (i2 + 1) (by omega) _ _ _ hH (lv_sub hl [1, 2, 0] rfl)
      exact L_31 (q * 4) 0 (by omega) _ _ _ (by rw [show i = q by omega] at hH; exact hH) (lv_sub hl [1, 2, 0] rfl)
    | succ k ih_2 =>
      intro i hik H locs ls hH hl
      refine lv_iload_n X.1 X.2.1 dX0_emptyPages_2 rfl (lv_at hl 2 rfl) ?_
      refine lv_iload_n X.1 X.2.1 dX0_emptyPages_3 rfl (lv_at hl 1 rfl) ?_
      refine tb_nge (tgt := 29) X (by omega) (by omega) dX0_emptyPages_4 (by decide) (fun c => ((by omega) : False).elim) (fun _ => ?_)
      refine lv_iload_n X.1 X.2.1 dX0_emptyPages_7 rfl (lv_at hl 2 rfl) ?_
      refine lv_bipush (v := nI (8)) X.1 X.2.1 dX0_emptyPages_8 (by decide +kernel) ?_
      refine tb_nge (tgt := 29) X (by omega) (by omega) dX0_emptyPages_10 (by decide) (fun c => ((by omega) : False).elim) (fun _ => ?_)
      refine lv_aload_n X.1 X.2.1 dX0_emptyPages_13 rfl (lv_at hl 0 rfl) ?_
      refine tb_get X hH (tb_Ac ha).1 ((tb_Ac ha).2 _ _) rfl inlX0 7 (by decide) wm_52 (v := .ref (tb_ad g (a + 2))) rfl dX0_emptyPages_14 ?_
      refine lv_iload_n X.1 X.2.1 dX0_emptyPages_17 rfl (lv_at hl 2 rfl) ?_
      refine lv_dup2_11 X.1 X.2.1 dX0_emptyPages_18 rfl rfl ?_
      refine tb_ald X hH (tb_iv ha) (i) rfl (by omega) (by first | decide | omega) dX0_emptyPages_19 ?_
      refine lv_iconst (v := nI (1)) X.1 X.2.1 dX0_emptyPages_20 (by decide +kernel) ?_
      refine lv_iadd X.1 X.2.1 dX0_emptyPages_21 ?_
      refine tb_ast X hH (tb_iv ha) (i) rfl (by omega) (by first | decide | omega) dX0_emptyPages_22 (fun H locs hH => ?_)
      refine lv_iinc (v := nI (i + 1)) (lv' := [(2, .int (nI (i + 1))), (0, .ref (tb_ad g (a))), (1, .int (nI (q)))]) X.1 X.2.1 dX0_emptyPages_23 hl (k := 2) rfl (nI_add _ _) (by decide) rfl (fun ls hl => ?_)
      refine lv_goto (tgt := 2) X.1 X.2.1 dX0_emptyPages_26 (by decide) ?_
      exact ih_2 (i + 1) (by omega) _ _ _ hH (lv_sub hl [1, 2, 0] rfl)
  exact L_2 q 0 (by omega) _ _ _ hH (lv_sub hl [1, 2, 0] rfl)
def sz_X0_copyFrom (z : tb_M) (a : Nat) (b : Nat) : tb_M := tb_cp (tb_cp (tb_up (tb_up (tb_up (tb_up (tb_up (tb_up z a 0 (z b 0)) a 1 ((tb_up z a 0 (z b 0)) b 1)) a 2 ((tb_up (tb_up z a 0 (z b 0)) a 1 ((tb_up z a 0 (z b 0)) b 1)) b 2)) a 3 ((tb_up (tb_up (tb_up z a 0 (z b 0)) a 1 ((tb_up z a 0 (z b 0)) b 1)) a 2 ((tb_up (tb_up z a 0 (z b 0)) a 1 ((tb_up z a 0 (z b 0)) b 1)) b 2)) b 3)) a 4 ((tb_up (tb_up (tb_up (tb_up z a 0 (z b 0)) a 1 ((tb_up z a 0 (z b 0)) b 1)) a 2 ((tb_up (tb_up z a 0 (z b 0)) a 1 ((tb_up z a 0 (z b 0)) b 1)) b 2)) a 3 ((tb_up (tb_up (tb_up z a 0 (z b 0)) a 1 ((tb_up z a 0 (z b 0)) b 1)) a 2 ((tb_up (tb_up z a 0 (z b 0)) a 1 ((tb_up z a 0 (z b 0)) b 1)) b 2)) b 3)) b 4)) a 5 ((tb_up (tb_up (tb_up (tb_up (tb_up z a 0 (z b 0)) a 1 ((tb_up z a 0 (z b 0)) b 1)) a 2 ((tb_up (tb_up z a 0 (z b 0)) a 1 ((tb_up z a 0 (z b 0)) b 1)) b 2)) a 3 ((tb_up (tb_up (tb_up z a 0 (z b 0)) a 1 ((tb_up z a 0 (z b 0)) b 1)) a 2 ((tb_up (tb_up z a 0 (z b 0)) a 1 ((tb_up z a 0 (z b 0)) b 1)) b 2)) b 3)) a 4 ((tb_up (tb_up (tb_up (tb_up z a 0 (z b 0)) a 1 ((tb_up z a 0 (z b 0)) b 1)) a 2 ((tb_up (tb_up z a 0 (z b 0)) a 1 ((tb_up z a 0 (z b 0)) b 1)) b 2)) a 3 ((tb_up (tb_up (tb_up z a 0 (z b 0)) a 1 ((tb_up z a 0 (z b 0)) b 1)) a 2 ((tb_up (tb_up z a 0 (z b 0)) a 1 ((tb_up z a 0 (z b 0)) b 1)) b 2)) b 3)) b 4)) b 5)) (b + 1) (a + 1) 32) (b + 2) (a + 2) 8
set_option maxHeartbeats 1000000 in
set_option maxRecDepth 100000 in
theorem c_X0_copyFrom (l : Launch) (g : tb_G) (z : tb_M) (a : Nat) (ha : tb_isA a) (b : Nat) (hb : tb_isA b) : tb_Mv l yX0_copyFrom cX0_copyFrom 2 1 g z [.ref (tb_ad g a), .ref (tb_ad g b)] (sz_X0_copyFrom z a b) := by
  refine tb_gov (own := RX0) (by decide +kernel) rfl (Nat.le_of_ble_eq_true rfl) ?_
  intro p e s m below meth c ls X hr hlk hH hl
  have hl : lv_has ls 2 [(0, .ref (tb_ad g (a))), (1, .ref (tb_ad g (b)))] := hl
  refine lv_aload_n X.1 X.2.1 dX0_copyFrom_0 rfl (lv_at hl 0 rfl) ?_
  refine lv_aload_n X.1 X.2.1 dX0_copyFrom_1 rfl (lv_at hl 1 rfl) ?_
  refine tb_get X hH (tb_Ac hb).1 ((tb_Ac hb).2 _ _) rfl inlX0 0 (by decide) wm_50 (v := .int (z b 0)) rfl dX0_copyFrom_2 ?_
  refine tb_putA X hH ha 0 (by decide) wm_50 dX0_copyFrom_5 (fun H locs hH => ?_)
  refine lv_aload_n X.1 X.2.1 dX0_copyFrom_8 rfl (lv_at hl 0 rfl) ?_
  refine lv_aload_n X.1 X.2.1 dX0_copyFrom_9 rfl (lv_at hl 1 rfl) ?_
  refine tb_get X hH (tb_Ac hb).1 ((tb_Ac hb).2 _ _) rfl inlX0 1 (by decide) wm_68 (v := .int ((tb_up z a 0 (z b 0)) b 1)) rfl dX0_copyFrom_10 ?_
  refine tb_putA X hH ha 1 (by decide) wm_68 dX0_copyFrom_13 (fun H locs hH => ?_)
  refine lv_aload_n X.1 X.2.1 dX0_copyFrom_16 rfl (lv_at hl 0 rfl) ?_
  refine lv_aload_n X.1 X.2.1 dX0_copyFrom_17 rfl (lv_at hl 1 rfl) ?_
  refine tb_get X hH (tb_Ac hb).1 ((tb_Ac hb).2 _ _) rfl inlX0 2 (by decide) wm_69 (v := .int ((tb_up (tb_up z a 0 (z b 0)) a 1 ((tb_up z a 0 (z b 0)) b 1)) b 2)) rfl dX0_copyFrom_18 ?_
  refine tb_putA X hH ha 2 (by decide) wm_69 dX0_copyFrom_21 (fun H locs hH => ?_)
  refine lv_aload_n X.1 X.2.1 dX0_copyFrom_24 rfl (lv_at hl 0 rfl) ?_
  refine lv_aload_n X.1 X.2.1 dX0_copyFrom_25 rfl (lv_at hl 1 rfl) ?_
  refine tb_get X hH (tb_Ac hb).1 ((tb_Ac hb).2 _ _) rfl inlX0 3 (by decide) wm_63 (v := .int ((tb_up (tb_up (tb_up z a 0 (z b 0)) a 1 ((tb_up z a 0 (z b 0)) b 1)) a 2 ((tb_up (tb_up z a 0 (z b 0)) a 1 ((tb_up z a 0 (z b 0)) b 1)) b 2)) b 3)) rfl dX0_copyFrom_26 ?_
  refine tb_putA X hH ha 3 (by decide) wm_63 dX0_copyFrom_29 (fun H locs hH => ?_)
  refine lv_aload_n X.1 X.2.1 dX0_copyFrom_32 rfl (lv_at hl 0 rfl) ?_
  refine lv_aload_n X.1 X.2.1 dX0_copyFrom_33 rfl (lv_at hl 1 rfl) ?_
  refine tb_get X hH (tb_Ac hb).1 ((tb_Ac hb).2 _ _) rfl inlX0 4 (by decide) wm_70 (v := .int ((tb_up (tb_up (tb_up (tb_up z a 0 (z b 0)) a 1 ((tb_up z a 0 (z b 0)) b 1)) a 2 ((tb_up (tb_up z a 0 (z b 0)) a 1 ((tb_up z a 0 (z b 0)) b 1)) b 2)) a 3 ((tb_up (tb_up (tb_up z a 0 (z b 0)) a 1 ((tb_up z a 0 (z b 0)) b 1)) a 2 ((tb_up (tb_up z a 0 (z b 0)) a 1 ((tb_up z a 0 (z b 0)) b 1)) b 2)) b 3)) b 4)) rfl dX0_copyFrom_34 ?_
  refine tb_putA X hH ha 4 (by decide) wm_70 dX0_copyFrom_37 (fun H locs hH => ?_)
  refine lv_aload_n X.1 X.2.1 dX0_copyFrom_40 rfl (lv_at hl 0 rfl) ?_
  refine lv_aload_n X.1 X.2.1 dX0_copyFrom_41 rfl (lv_at hl 1 rfl) ?_
  refine tb_get X hH (tb_Ac hb).1 ((tb_Ac hb).2 _ _) rfl inlX0 5 (by decide) wm_71 (v := .int ((tb_up (tb_up (tb_up (tb_up (tb_up z a 0 (z b 0)) a 1 ((tb_up z a 0 (z b 0)) b 1)) a 2 ((tb_up (tb_up z a 0 (z b 0)) a 1 ((tb_up z a 0 (z b 0)) b 1)) b 2)) a 3 ((tb_up (tb_up (tb_up z a 0 (z b 0)) a 1 ((tb_up z a 0 (z b 0)) b 1)) a 2 ((tb_up (tb_up z a 0 (z b 0)) a 1 ((tb_up z a 0 (z b 0)) b 1)) b 2)) b 3)) a 4 ((tb_up (tb_up (tb_up (tb_up z a 0 (z b 0)) a 1 ((tb_up z a 0 (z b 0)) b 1)) a 2 ((tb_up (tb_up z a 0 (z b 0)) a 1 ((tb_up z a 0 (z b 0)) b 1)) b 2)) a 3 ((tb_up (tb_up (tb_up z a 0 (z b 0)) a 1 ((tb_up z a 0 (z b 0)) b 1)) a 2 ((tb_up (tb_up z a 0 (z b 0)) a 1 ((tb_up z a 0 (z b 0)) b 1)) b 2)) b 3)) b 4)) b 5)) rfl dX0_copyFrom_42 ?_
  refine tb_putA X hH ha 5 (by decide) wm_71 dX0_copyFrom_45 (fun H locs hH => ?_)
  refine lv_aload_n X.1 X.2.1 dX0_copyFrom_48 rfl (lv_at hl 1 rfl) ?_
  refine tb_get X hH (tb_Ac hb).1 ((tb_Ac hb).2 _ _) rfl inlX0 6 (by decide) wm_51 (v := .ref (tb_ad g (b + 1))) rfl dX0_copyFrom_49 ?_
  refine lv_iconst (v := nI (0)) X.1 X.2.1 dX0_copyFrom_52 (by decide +kernel) ?_
  refine lv_aload_n X.1 X.2.1 dX0_copyFrom_53 rfl (lv_at hl 0 rfl) ?_
  refine tb_get X hH (tb_Ac ha).1 ((tb_Ac ha).2 _ _) rfl inlX0 6 (by decide) wm_51 (v := .ref (tb_ad g (a + 1))) rfl dX0_copyFrom_54 ?_
  refine lv_iconst (v := nI (0)) X.1 X.2.1 dX0_copyFrom_57 (by decide +kernel) ?_
  refine lv_bipush (v := nI (32)) X.1 X.2.1 dX0_copyFrom_58 (by decide +kernel) ?_
  refine tb_acp X hH hl.1 (tb_iw hb) (tb_iw ha) 32 (by decide) (by decide) (by decide) wm_146 wm_135 wm_136 wm_137 (by decide) (Nat.le_of_ble_eq_true rfl) dX0_copyFrom_60 (fun H locs hH => ?_)
  refine lv_aload_n X.1 X.2.1 dX0_copyFrom_63 rfl (lv_at hl 1 rfl) ?_
  refine tb_get X hH (tb_Ac hb).1 ((tb_Ac hb).2 _ _) rfl inlX0 7 (by decide) wm_52 (v := .ref (tb_ad g (b + 2))) rfl dX0_copyFrom_64 ?_
  refine lv_iconst (v := nI (0)) X.1 X.2.1 dX0_copyFrom_67 (by decide +kernel) ?_
  refine lv_aload_n X.1 X.2.1 dX0_copyFrom_68 rfl (lv_at hl 0 rfl) ?_
  refine tb_get X hH (tb_Ac ha).1 ((tb_Ac ha).2 _ _) rfl inlX0 7 (by decide) wm_52 (v := .ref (tb_ad g (a + 2))) rfl dX0_copyFrom_69 ?_
  refine lv_iconst (v := nI (0)) X.1 X.2.1 dX0_copyFrom_72 (by decide +kernel) ?_
  refine lv_bipush (v := nI (8)) X.1 X.2.1 dX0_copyFrom_73 (by decide +kernel) ?_
  refine tb_acp X hH hl.1 (tb_iv hb) (tb_iv ha) 8 (by decide) (by decide) (by decide) wm_146 wm_135 wm_136 wm_137 (by decide) (Nat.le_of_ble_eq_true rfl) dX0_copyFrom_75 (fun H locs hH => ?_)
  exact tb_rv X hr hlk hH (by rw [sz_X0_copyFrom]) dX0_copyFrom_78
