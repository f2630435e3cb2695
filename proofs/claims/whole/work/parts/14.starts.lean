theorem tb_lose_j (z : tb_M) (a : Nat) {k j : Nat} (h : j ≠ 0) : sz_X0_loseFilling_m1 z a k j = z k j := by
  unfold sz_X0_loseFilling_m1
  split <;> simp [tb_up, h]
theorem tb_give_j (z : tb_M) (a : Nat) {k j : Nat} (h : j ≠ 0) : sz_X0_giveUpTrial_m1 z a k j = z k j := by
  unfold sz_X0_giveUpTrial_m1
  repeat' split
  all_goals simp [tb_up, h]
theorem tb_lose_k (z : tb_M) (a : Nat) {k : Nat} (h : k ≠ a) : sz_X0_loseFilling_m1 z a k = z k := by
  unfold sz_X0_loseFilling_m1
  split
  · exact tb_up_k _ _ _ h
  · rfl
theorem tb_give_k (z : tb_M) (a : Nat) {k : Nat} (h : k ≠ a) : sz_X0_giveUpTrial_m1 z a k = z k := by
  unfold sz_X0_giveUpTrial_m1
  repeat' split
  all_goals first | exact tb_up_k _ _ _ h | rfl
theorem tb_use_k (z : tb_M) (a : Nat) {k : Nat} (h : k ≠ a) : sz_X0_useTry_m1 z a k = z k := by
  unfold sz_X0_useTry_m1
  split
  · exact tb_up_k _ _ _ h
  · rfl
theorem tb_use_j (z : tb_M) (a : Nat) {k j : Nat} (h : j ≠ 4) : sz_X0_useTry_m1 z a k j = z k j := by
  unfold sz_X0_useTry_m1
  split <;> simp [tb_up, h]
theorem tb_sa_j (z : tb_M) (d : Nat) {k j : Nat} (h : j ≠ 0) : sz_X1_soundArea z d k j = z k j := by
  unfold sz_X1_soundArea
  repeat' split
  all_goals simp [tb_up, h]
theorem tb_sa_k (z : tb_M) {d k : Nat} (h : ∀ r, k ≠ tb_at d r) : sz_X1_soundArea z d k = z k := by
  unfold sz_X1_soundArea
  repeat' split
  all_goals simp [tb_up_k, h]
theorem tb_at_ne {d : Nat} (r c : Nat) (h : c ≠ 2 ∧ c ≠ 5 ∧ c ≠ 8) : d + c ≠ tb_at d r := by
  unfold tb_at
  repeat' split
  all_goals omega
def sz_X1_startBy_m1 (z : tb_M) (d : Nat) (x : Int32) : tb_M := if x = (nI (2)) then (sz_X0_loseFilling_m1 (sz_X0_loseFilling_m1 z (d + 2)) (d + 5)) else z
def sz_X1_startBy_m2 (z : tb_M) (d : Nat) (x : Int32) : tb_M := sz_X0_giveUpTrial_m1 (sz_X0_giveUpTrial_m1 (sz_X1_startBy_m1 z d x) (d + 2)) (d + 5)
def sz_X1_startBy_m3 (z : tb_M) (d : Nat) (x : Int32) : tb_M := tb_up (tb_up (sz_X0_useTry_m1 (tb_up (sz_X1_soundArea (sz_X1_startBy_m2 z d x) d) d 5 (nI ((sr_X1_soundArea (sz_X1_startBy_m2 z d x) d)))) ((tb_at d (sr_X1_soundArea (sz_X1_startBy_m2 z d x) d)))) d 6 (nI (0))) d 7 (nI (0))
theorem tb_sb2_j (z : tb_M) (d : Nat) (x : Int32) {k j : Nat} (h : j ≠ 0) : sz_X1_startBy_m2 z d x k j = z k j := by
  unfold sz_X1_startBy_m2 sz_X1_startBy_m1
  rw [tb_give_j _ _ h, tb_give_j _ _ h]
  split
  · rw [tb_lose_j _ _ h, tb_lose_j _ _ h]
  · rfl
theorem tb_sb3_5 (z : tb_M) (d : Nat) (x : Int32) : sz_X1_startBy_m3 z d x d 5 = nI (sr_X1_soundArea (sz_X1_startBy_m2 z d x) d) := by
  unfold sz_X1_startBy_m3
  rw [tb_up_j _ _ _ (by decide), tb_up_j _ _ _ (by decide), tb_use_k _ _ (show d ≠ tb_at d _ from tb_at_ne (d := d) _ 0 (by decide)), tb_up_s]
theorem tb_sb3_11 (z : tb_M) (d : Nat) (x : Int32) : sz_X1_startBy_m3 z d x (d + 11) 0 = z (d + 11) 0 := by
  unfold sz_X1_startBy_m3
  rw [tb_up_k _ _ _ (by omega), tb_up_k _ _ _ (by omega), tb_use_k _ _ (tb_at_ne _ 11 (by decide)), tb_up_k _ _ _ (by omega), tb_sa_k _ (fun r => tb_at_ne r 11 (by decide))]
  unfold sz_X1_startBy_m2 sz_X1_startBy_m1
  rw [tb_give_k _ _ (by omega), tb_give_k _ _ (by omega)]
  split
  · rw [tb_lose_k _ _ (by omega), tb_lose_k _ _ (by omega)]
  · rfl
def sz_X1_startBy (z : tb_M) (d : Nat) (x : Int32) : tb_M := sz_X4_add_m1 (sz_X1_startBy_m3 z d x) (d + 11) (sr_X1_soundArea (sz_X1_startBy_m2 z d x) d) x ((sz_X1_startBy_m3 z d x) d 9) (tb_al z d)
set_option maxHeartbeats 1000000 in
set_option maxRecDepth 100000 in
theorem c_X1_startBy (l : Launch) (g : tb_G) (z : tb_M) (d : Nat) (hd : tb_isD d) (x : Int32) (hS : tb_okS z d) : tb_Mv l yX1_startBy cX1_startBy 2 4 g z [.ref (tb_ad g d), .int x] (sz_X1_startBy z d x) := by
  refine tb_gov (own := RX1) (by decide +kernel) rfl (Nat.le_of_ble_eq_true rfl) ?_
  intro p e s m below meth c ls X hr hlk hH hl
  have hl : lv_has ls 2 [(0, .ref (tb_ad g (d))), (1, .int (x))] := hl
  refine lv_iload_n X.1 X.2.1 dX1_startBy_0 rfl (lv_at hl 1 rfl) ?_
  refine lv_iconst (v := nI (2)) X.1 X.2.1 dX1_startBy_1 (by decide +kernel) ?_
  have J_1 : ∀ (H : Heap) (locs : List Loc) (ls : Array Slot) (zq : tb_M), zq = (if x = (nI (2)) then (sz_X0_loseFilling_m1 (sz_X0_loseFilling_m1 z (d + 2)) (d + 5)) else z) → tb_H g s.heap zq H locs → lv_has ls 2 [(0, .ref (tb_ad g (d))), (1, .int (x))] → W p l e (tb_rm 4) s m ([.ref (tb_ad g d), .int x] : List Value).toArray below meth c H locs 0 0 (MQ below (va_Qv (fun u9 => u9 = (sz_X1_startBy z d x)) (tb_B g) (tb_A g)) ([.ref (tb_ad g d), .int x] : List Value).toArray s 0 0 (tb_A g)) (F0 m 19 ls []) := by
    intro H locs ls zq  ezq  hH hl
    subst ezq
    have hH : tb_H g s.heap (sz_X1_startBy_m1 z d x) H locs := hH
    refine lv_aload_n X.1 X.2.1 dX1_startBy_19 rfl (lv_at hl 0 rfl) ?_
    refine tb_get X hH (tb_Dc hd).1 ((tb_Dc hd).2 _ _) rfl inlX1 1 (by decide) wm_38 (v := .ref (tb_ad g (d + 2))) rfl dX1_startBy_20 ?_
    refine tb_cVv X hH hl.1 (c_X0_giveUpTrial l g (sz_X1_startBy_m1 z d x) (d + 2) (tb_A1 hd)) ky_X0_giveUpTrial.1 ky_X0_giveUpTrial.2 wm_364 (tb_oA (tb_A1 hd)) rfl rfl (Nat.le_of_ble_eq_true rfl) ⟨by decide, by decide⟩ ⟨by decide, by decide⟩ dX1_startBy_23 (fun H locs hH => ?_)
    refine lv_aload_n X.1 X.2.1 dX1_startBy_26 rfl (lv_at hl 0 rfl) ?_
    refine tb_get X hH (tb_Dc hd).1 ((tb_Dc hd).2 _ _) rfl inlX1 2 (by decide) wm_39 (v := .ref (tb_ad g (d + 5))) rfl dX1_startBy_27 ?_
    refine tb_cVv X hH hl.1 (c_X0_giveUpTrial l g (sz_X0_giveUpTrial_m1 (sz_X1_startBy_m1 z d x) (d + 2)) (d + 5) (tb_A2 hd)) ky_X0_giveUpTrial.1 ky_X0_giveUpTrial.2 wm_364 (tb_oA (tb_A2 hd)) rfl rfl (Nat.le_of_ble_eq_true rfl) ⟨by decide, by decide⟩ ⟨by decide, by decide⟩ dX1_startBy_30 (fun H locs hH => ?_)
    have hH : tb_H g s.heap (sz_X1_startBy_m2 z d x) H locs := hH
    refine lv_aload_n X.1 X.2.1 dX1_startBy_33 rfl (lv_at hl 0 rfl) ?_
    refine lv_aload_n X.1 X.2.1 dX1_startBy_34 rfl (lv_at hl 0 rfl) ?_
    refine tb_cVi X hH hl.1 (c_X1_soundArea l g (sz_X1_startBy_m2 z d x) d hd (fun r => tb_okL_c (hS.1 r) (tb_sb2_j z d x (by decide)))) ky_X1_soundArea.1 ky_X1_soundArea.2 wm_368 (tb_oD hd) rfl rfl (Nat.le_of_ble_eq_true rfl) ⟨by decide, by decide⟩ ⟨by decide, by decide⟩ dX1_startBy_35 (fun H locs hH => ?_)
    have hb_1 := (tb_sa_le (sz_X1_startBy_m2 z d x) d)
    refine tb_putD X hH hd 5 (by decide) wm_45 dX1_startBy_38 (fun H locs hH => ?_)
    refine lv_aload_n X.1 X.2.1 dX1_startBy_41 rfl (lv_at hl 0 rfl) ?_
    refine lv_aload_n X.1 X.2.1 dX1_startBy_42 rfl (lv_at hl 0 rfl) ?_
    refine tb_get X hH (tb_Dc hd).1 ((tb_Dc hd).2 _ _) rfl inlX1 5 (by decide) wm_45 (v := .int ((tb_up (sz_X1_soundArea (sz_X1_startBy_m2 z d x) d) d 5 (nI ((sr_X1_soundArea (sz_X1_startBy_m2 z d x) d)))) d 5)) rfl dX1_startBy_43 ?_
    refine tb_top (x2 := nI (sr_X1_soundArea (sz_X1_startBy_m2 z d x) d)) (tb_up_s _ _ _ _) ?_
    refine tb_cVr X hH hl.1 (c_X1_areaAt l g (tb_up (sz_X1_soundArea (sz_X1_startBy_m2 z d x) d) d 5 (nI ((sr_X1_soundArea (sz_X1_startBy_m2 z d x) d)))) d hd (sr_X1_soundArea (sz_X1_startBy_m2 z d x) d) (by omega)) ky_X1_areaAt.1 ky_X1_areaAt.2 wm_195 (tb_oD hd) rfl rfl (Nat.le_of_ble_eq_true rfl) ⟨by decide, by decide⟩ ⟨by decide, by decide⟩ dX1_startBy_46 (fun H locs hH => ?_)
    refine tb_cVv X hH hl.1 (c_X0_useTry l g (tb_up (sz_X1_soundArea (sz_X1_startBy_m2 z d x) d) d 5 (nI ((sr_X1_soundArea (sz_X1_startBy_m2 z d x) d)))) ((tb_at d (sr_X1_soundArea (sz_X1_startBy_m2 z d x) d))) (tb_isat hd (sr_X1_soundArea (sz_X1_startBy_m2 z d x) d))) ky_X0_useTry.1 ky_X0_useTry.2 wm_383 (tb_oA (tb_isat hd (sr_X1_soundArea (sz_X1_startBy_m2 z d x) d))) rfl rfl (Nat.le_of_ble_eq_true rfl) ⟨by decide, by decide⟩ ⟨by decide, by decide⟩ dX1_startBy_49 (fun H locs hH => ?_)
    refine lv_aload_n X.1 X.2.1 dX1_startBy_52 rfl (lv_at hl 0 rfl) ?_
    refine lv_iconst (v := nI (0)) X.1 X.2.1 dX1_startBy_53 (by decide +kernel) ?_
    refine tb_putD X hH hd 6 (by decide) wm_138 dX1_startBy_54 (fun H locs hH => ?_)
    refine lv_aload_n X.1 X.2.1 dX1_startBy_57 rfl (lv_at hl 0 rfl) ?_
    refine lv_iconst (v := nI (0)) X.1 X.2.1 dX1_startBy_58 (by decide +kernel) ?_
    refine tb_putD X hH hd 7 (by decide) wm_139 dX1_startBy_59 (fun H locs hH => ?_)
    have hH : tb_H g s.heap (sz_X1_startBy_m3 z d x) H locs := hH
    refine lv_aload_n X.1 X.2.1 dX1_startBy_62 rfl (lv_at hl 0 rfl) ?_
    refine tb_get X hH (tb_Dc hd).1 ((tb_Dc hd).2 _ _) rfl inlX1 4 (by decide) wm_44 (v := .ref (tb_ad g (d + 11))) rfl dX1_startBy_63 ?_
    refine lv_aload_n X.1 X.2.1 dX1_startBy_66 rfl (lv_at hl 0 rfl) ?_
    refine tb_get X hH (tb_Dc hd).1 ((tb_Dc hd).2 _ _) rfl inlX1 5 (by decide) wm_45 (v := .int ((sz_X1_startBy_m3 z d x) d 5)) rfl dX1_startBy_67 ?_
    refine tb_top (x2 := nI (sr_X1_soundArea (sz_X1_startBy_m2 z d x) d)) (tb_sb3_5 z d x) ?_
    refine lv_iload_n X.1 X.2.1 dX1_startBy_70 rfl (lv_at hl 1 rfl) ?_
    refine lv_aload_n X.1 X.2.1 dX1_startBy_71 rfl (lv_at hl 0 rfl) ?_
    refine tb_get X hH (tb_Dc hd).1 ((tb_Dc hd).2 _ _) rfl inlX1 9 (by decide) wm_141 (v := .int ((sz_X1_startBy_m3 z d x) d 9)) rfl dX1_startBy_72 ?_
    refine tb_cVv X hH hl.1 (c_X4_add l g (sz_X1_startBy_m3 z d x) (d + 11) (tb_S1 hd) (sr_X1_soundArea (sz_X1_startBy_m2 z d x) d) x ((sz_X1_startBy_m3 z d x) d 9) (tb_al z d) (by rw [tb_sb3_11 z d x]; exact hS.2.1) hS.2.2) ky_X4_add.1 ky_X4_add.2 wm_387 (tb_oS (tb_S1 hd)) rfl rfl (Nat.le_of_ble_eq_true rfl) ⟨by decide, by decide⟩ ⟨by decide, by decide⟩ dX1_startBy_75 (fun H locs hH => ?_)
    exact tb_rv X hr hlk hH (by rw [sz_X1_startBy]) dX1_startBy_78
  refine lv_icmp_ne (tgt := 19) X.1 X.2.1 dX1_startBy_2 (by decide) (fun c_1 => ?_) (fun c_1 => ?_)
  · exact J_1 _ _ _ _ (by simp only [if_neg c_1]) hH (lv_sub hl [0, 1] rfl)
  · refine lv_aload_n X.1 X.2.1 dX1_startBy_5 rfl (lv_at hl 0 rfl) ?_
    refine tb_get X hH (tb_Dc hd).1 ((tb_Dc hd).2 _ _) rfl inlX1 1 (by decide) wm_38 (v := .ref (tb_ad g (d + 2))) rfl dX1_startBy_6 ?_
    refine tb_cVv X hH hl.1 (c_X0_loseFilling l g z (d + 2) (tb_A1 hd)) ky_X0_loseFilling.1 ky_X0_loseFilling.2 wm_360 (tb_oA (tb_A1 hd)) rfl rfl (Nat.le_of_ble_eq_true rfl) ⟨by decide, by decide⟩ ⟨by decide, by decide⟩ dX1_startBy_9 (fun H locs hH => ?_)
    refine lv_aload_n X.1 X.2.1 dX1_startBy_12 rfl (lv_at hl 0 rfl) ?_
    refine tb_get X hH (tb_Dc hd).1 ((tb_Dc hd).2 _ _) rfl inlX1 2 (by decide) wm_39 (v := .ref (tb_ad g (d + 5))) rfl dX1_startBy_13 ?_
    refine tb_cVv X hH hl.1 (c_X0_loseFilling l g (sz_X0_loseFilling_m1 z (d + 2)) (d + 5) (tb_A2 hd)) ky_X0_loseFilling.1 ky_X0_loseFilling.2 wm_360 (tb_oA (tb_A2 hd)) rfl rfl (Nat.le_of_ble_eq_true rfl) ⟨by decide, by decide⟩ ⟨by decide, by decide⟩ dX1_startBy_16 (fun H locs hH => ?_)
    exact J_1 _ _ _ _ (by simp only [if_pos c_1]) hH (lv_sub hl [0, 1] rfl)
theorem tb_okT_al {z : tb_M} {d : Nat} (h : tb_okT z d) : tb_okS z d := h.1
def sz_X1_needsStartInTick_m1 (z : tb_M) (d : Nat) : tb_M := if 0 < ((tb_up (tb_up z d 6 ((z d 6) + (nI (1)))) d 9 (((tb_up z d 6 ((z d 6) + (nI (1)))) d 9) + (nI (1)))) d 7) then (tb_up (tb_up (tb_up z d 6 ((z d 6) + (nI (1)))) d 9 (((tb_up z d 6 ((z d 6) + (nI (1)))) d 9) + (nI (1)))) d 7 (((tb_up (tb_up z d 6 ((z d 6) + (nI (1)))) d 9 (((tb_up z d 6 ((z d 6) + (nI (1)))) d 9) + (nI (1)))) d 7) + (nI (1)))) else (if ((tb_up (tb_up z d 6 ((z d 6) + (nI (1)))) d 9 (((tb_up z d 6 ((z d 6) + (nI (1)))) d 9) + (nI (1)))) (((tb_at d (tb_rn z d))) + 1) 0) = ((tb_up (tb_up z d 6 ((z d 6) + (nI (1)))) d 9 (((tb_up z d 6 ((z d 6) + (nI (1)))) d 9) + (nI (1)))) d 6) then (tb_up (tb_up (tb_up z d 6 ((z d 6) + (nI (1)))) d 9 (((tb_up z d 6 ((z d 6) + (nI (1)))) d 9) + (nI (1)))) d 7 (((tb_up (tb_up z d 6 ((z d 6) + (nI (1)))) d 9 (((tb_up z d 6 ((z d 6) + (nI (1)))) d 9) + (nI (1)))) d 7) + (nI (1)))) else (tb_up (tb_up z d 6 ((z d 6) + (nI (1)))) d 9 (((tb_up z d 6 ((z d 6) + (nI (1)))) d 9) + (nI (1)))))
def sz_X1_needsStartInTick_m2 (z : tb_M) (d : Nat) : tb_M := if ((sz_X1_needsStartInTick_m1 z d) d 7) = 0 then (if ((sz_X1_needsStartInTick_m1 z d) (((tb_at d (tb_rn z d))) + 1) 1) = ((sz_X1_needsStartInTick_m1 z d) d 6) then (if ((sz_X1_needsStartInTick_m1 z d) ((tb_at d (tb_rn z d))) 0) = (nI (2)) then (tb_up (tb_up (sz_X1_needsStartInTick_m1 z d) ((tb_at d (tb_rn z d))) 0 (nI (3))) d 8 (if (tb_up (sz_X1_needsStartInTick_m1 z d) ((tb_at d (tb_rn z d))) 0 (nI (3))) d 8 < (tb_up (sz_X1_needsStartInTick_m1 z d) ((tb_at d (tb_rn z d))) 0 (nI (3))) ((tb_at d (tb_rn z d))) 1 then (tb_up (sz_X1_needsStartInTick_m1 z d) ((tb_at d (tb_rn z d))) 0 (nI (3))) ((tb_at d (tb_rn z d))) 1 else (tb_up (sz_X1_needsStartInTick_m1 z d) ((tb_at d (tb_rn z d))) 0 (nI (3))) d 8)) else (sz_X1_needsStartInTick_m1 z d)) else (sz_X1_needsStartInTick_m1 z d)) else (sz_X1_needsStartInTick_m1 z d)
theorem tb_tk_ok {z : tb_M} {d : Nat} (hd : tb_isD d) (hT : tb_okT z d) : tb_okS (sz_X1_needsStartInTick_m2 z d) d := by
  have hr := tb_isat hd (tb_rn z d)
  have n1 := tb_isA_ne hd hr
  have n2 := tb_isA_ne11 hd hr
  refine tb_okS_c hT.1 (fun r => ?_) ?_
  · have h1 := tb_isA_ne hd (tb_isat hd r)
    unfold sz_X1_needsStartInTick_m2 sz_X1_needsStartInTick_m1
    repeat' split
    all_goals simp [tb_up, h1]
  · unfold sz_X1_needsStartInTick_m2 sz_X1_needsStartInTick_m1
    repeat' split
    all_goals simp [tb_up, n2.symm, Ne.symm n2]
abbrev sp_X1_needsStartInTick (z : tb_M) (d : Nat) : Prop := (¬ (((sz_X1_needsStartInTick_m2 z d) d 7) < ((sz_X1_needsStartInTick_m2 z d) (d + 1) 1))) ∨ ((((sz_X1_needsStartInTick_m2 z d) ((tb_at d (tb_rn z d))) 0) = (nI (2))) ∧ (¬ (((sz_X1_needsStartInTick_m2 z d) d 6) < ((nI (10)) * ((sz_X1_needsStartInTick_m2 z d) (d + 1) 1)))))
set_option maxHeartbeats 1000000 in
set_option maxRecDepth 100000 in
theorem c_X1_needsStartInTick (l : Launch) (g : tb_G) (z : tb_M) (d : Nat) (hd : tb_isD d) (hT : tb_okT z d) : tb_Mi (.boolean) l yX1_needsStartInTick cX1_needsStartInTick 4 1 g z [.ref (tb_ad g d)] (tb_b (sp_X1_needsStartInTick z d)) (sz_X1_needsStartInTick_m2 z d) := by
  refine tb_goi (own := RX1) (by decide +kernel) rfl (Nat.le_of_ble_eq_true rfl) ?_
  intro p e s m below meth c ls X hr hlk hH hl
  have hl : lv_has ls 4 [(0, .ref (tb_ad g (d)))] := hl
  have hT2 := hT.2.2
  refine lv_aload_n X.1 X.2.1 dX1_needsStartInTick_0 rfl (lv_at hl 0 rfl) ?_
  refine lv_aload_n X.1 X.2.1 dX1_needsStartInTick_1 rfl (lv_at hl 0 rfl) ?_
  refine tb_get X hH (tb_Dc hd).1 ((tb_Dc hd).2 _ _) rfl inlX1 5 (by decide) wm_45 (v := .int (z d 5)) rfl dX1_needsStartInTick_2 ?_
  refine tb_top (x2 := nI (tb_rn z d)) (hT.2.1) ?_
  refine tb_cVr X hH hl.1 (c_X1_areaAt l g z d hd (tb_rn z d) hT2) ky_X1_areaAt.1 ky_X1_areaAt.2 wm_195 (tb_oD hd) rfl rfl (Nat.le_of_ble_eq_true rfl) ⟨by decide, by decide⟩ ⟨by decide, by decide⟩ dX1_needsStartInTick_5 (fun H locs hH => ?_)
  refine lv_astore_n (lv' := [(1, .ref (tb_ad g ((tb_at d (tb_rn z d))))), (0, .ref (tb_ad g (d)))]) X.1 X.2.1 dX1_needsStartInTick_8 rfl hl (by decide) rfl (fun ls hl => ?_)
  refine lv_aload_n X.1 X.2.1 dX1_needsStartInTick_9 rfl (lv_at hl 1 rfl) ?_
  refine lv_dup X.1 X.2.1 dX1_needsStartInTick_10 rfl ?_
  refine tb_get X hH (tb_Dc hd).1 ((tb_Dc hd).2 _ _) rfl inlX1 6 (by decide) wm_138 (v := .int (z d 6)) rfl dX1_needsStartInTick_11 ?_
  refine lv_iconst (v := nI (1)) X.1 X.2.1 dX1_needsStartInTick_14 (by decide +kernel) ?_
  refine lv_iadd X.1 X.2.1 dX1_needsStartInTick_15 ?_
  refine tb_putD X hH hd 6 (by decide) wm_138 dX1_needsStartInTick_16 (fun H locs hH => ?_)
  refine lv_aload_n X.1 X.2.1 dX1_needsStartInTick_19 rfl (lv_at hl 1 rfl) ?_
  refine lv_dup X.1 X.2.1 dX1_needsStartInTick_20 rfl ?_
  refine tb_get X hH (tb_Dc hd).1 ((tb_Dc hd).2 _ _) rfl inlX1 9 (by decide) wm_141 (v := .int ((tb_up z d 6 ((z d 6) + (nI (1)))) d 9)) rfl dX1_needsStartInTick_21 ?_
  refine lv_iconst (v := nI (1)) X.1 X.2.1 dX1_needsStartInTick_24 (by decide +kernel) ?_
  refine lv_iadd X.1 X.2.1 dX1_needsStartInTick_25 ?_
  refine tb_putD X hH hd 9 (by decide) wm_141 dX1_needsStartInTick_26 (fun H locs hH => ?_)
  refine lv_aload_n X.1 X.2.1 dX1_needsStartInTick_29 rfl (lv_at hl 1 rfl) ?_
  refine tb_get X hH (tb_Dc hd).1 ((tb_Dc hd).2 _ _) rfl inlX1 7 (by decide) wm_139 (v := .int ((tb_up (tb_up z d 6 ((z d 6) + (nI (1)))) d 9 (((tb_up z d 6 ((z d 6) + (nI (1)))) d 9) + (nI (1)))) d 7)) rfl dX1_needsStartInTick_30 ?_
  have J_1 : ∀ (H : Heap) (locs : List Loc) (ls : Array Slot) (zq : tb_M), zq = (if 0 < ((tb_up (tb_up z d 6 ((z d 6) + (nI (1)))) d 9 (((tb_up z d 6 ((z d 6) + (nI (1)))) d 9) + (nI (1)))) d 7) then (tb_up (tb_up (tb_up z d 6 ((z d 6) + (nI (1)))) d 9 (((tb_up z d 6 ((z d 6) + (nI (1)))) d 9) + (nI (1)))) d 7 (((tb_up (tb_up z d 6 ((z d 6) + (nI (1)))) d 9 (((tb_up z d 6 ((z d 6) + (nI (1)))) d 9) + (nI (1)))) d 7) + (nI (1)))) else (if ((tb_up (tb_up z d 6 ((z d 6) + (nI (1)))) d 9 (((tb_up z d 6 ((z d 6) + (nI (1)))) d 9) + (nI (1)))) (((tb_at d (tb_rn z d))) + 1) 0) = ((tb_up (tb_up z d 6 ((z d 6) + (nI (1)))) d 9 (((tb_up z d 6 ((z d 6) + (nI (1)))) d 9) + (nI (1)))) d 6) then (tb_up (tb_up (tb_up z d 6 ((z d 6) + (nI (1)))) d 9 (((tb_up z d 6 ((z d 6) + (nI (1)))) d 9) + (nI (1)))) d 7 (((tb_up (tb_up z d 6 ((z d 6) + (nI (1)))) d 9 (((tb_up z d 6 ((z d 6) + (nI (1)))) d 9) + (nI (1)))) d 7) + (nI (1)))) else (tb_up (tb_up z d 6 ((z d 6) + (nI (1)))) d 9 (((tb_up z d 6 ((z d 6) + (nI (1)))) d 9) + (nI (1)))))) → tb_H g s.heap zq H locs → lv_has ls 4 [(1, .ref (tb_ad g ((tb_at d (tb_rn z d))))), (0, .ref (tb_ad g (d)))] → W p l e (tb_rm 1) s m ([.ref (tb_ad g d)] : List Value).toArray below meth c H locs 0 0 (MQ below (va_Qi (fun r9 u9 => r9 = tb_b (sp_X1_needsStartInTick z d) ∧ u9 = sz_X1_needsStartInTick_m2 z d) (tb_B g) (tb_A g)) ([.ref (tb_ad g d)] : List Value).toArray s 0 0 (tb_A g)) (F0 m 59 ls []) := by
    intro H locs ls zq  ezq  hH hl
    subst ezq
    have hH : tb_H g s.heap (sz_X1_needsStartInTick_m1 z d) H locs := hH
    refine lv_aload_n X.1 X.2.1 dX1_needsStartInTick_59 rfl (lv_at hl 1 rfl) ?_
    refine tb_get X hH (tb_Dc hd).1 ((tb_Dc hd).2 _ _) rfl inlX1 7 (by decide) wm_139 (v := .int ((sz_X1_needsStartInTick_m1 z d) d 7)) rfl dX1_needsStartInTick_60 ?_
    have J_2 : ∀ (H : Heap) (locs : List Loc) (ls : Array Slot) (zq : tb_M), zq = (if ((sz_X1_needsStartInTick_m1 z d) d 7) = 0 then (if ((sz_X1_needsStartInTick_m1 z d) (((tb_at d (tb_rn z d))) + 1) 1) = ((sz_X1_needsStartInTick_m1 z d) d 6) then (if ((sz_X1_needsStartInTick_m1 z d) ((tb_at d (tb_rn z d))) 0) = (nI (2)) then (tb_up (tb_up (sz_X1_needsStartInTick_m1 z d) ((tb_at d (tb_rn z d))) 0 (nI (3))) d 8 (if (tb_up (sz_X1_needsStartInTick_m1 z d) ((tb_at d (tb_rn z d))) 0 (nI (3))) d 8 < (tb_up (sz_X1_needsStartInTick_m1 z d) ((tb_at d (tb_rn z d))) 0 (nI (3))) ((tb_at d (tb_rn z d))) 1 then (tb_up (sz_X1_needsStartInTick_m1 z d) ((tb_at d (tb_rn z d))) 0 (nI (3))) ((tb_at d (tb_rn z d))) 1 else (tb_up (sz_X1_needsStartInTick_m1 z d) ((tb_at d (tb_rn z d))) 0 (nI (3))) d 8)) else (sz_X1_needsStartInTick_m1 z d)) else (sz_X1_needsStartInTick_m1 z d)) else (sz_X1_needsStartInTick_m1 z d)) → tb_H g s.heap zq H locs → lv_has ls 4 [(1, .ref (tb_ad g ((tb_at d (tb_rn z d))))), (0, .ref (tb_ad g (d)))] → W p l e (tb_rm 1) s m ([.ref (tb_ad g d)] : List Value).toArray below meth c H locs 0 0 (MQ below (va_Qi (fun r9 u9 => r9 = tb_b (sp_X1_needsStartInTick z d) ∧ u9 = sz_X1_needsStartInTick_m2 z d) (tb_B g) (tb_A g)) ([.ref (tb_ad g d)] : List Value).toArray s 0 0 (tb_A g)) (F0 m 107 ls []) := by
      intro H locs ls zq  ezq  hH hl
      subst ezq
      have hH : tb_H g s.heap (sz_X1_needsStartInTick_m2 z d) H locs := hH
      refine lv_aload_n X.1 X.2.1 dX1_needsStartInTick_107 rfl (lv_at hl 1 rfl) ?_
      refine tb_get X hH (tb_Dc hd).1 ((tb_Dc hd).2 _ _) rfl inlX1 7 (by decide) wm_139 (v := .int ((sz_X1_needsStartInTick_m2 z d) d 7)) rfl dX1_needsStartInTick_108 ?_
      refine lv_aload_n X.1 X.2.1 dX1_needsStartInTick_111 rfl (lv_at hl 1 rfl) ?_
      refine tb_get X hH (tb_Dc hd).1 ((tb_Dc hd).2 _ _) rfl inlX1 0 (by decide) wm_34 (v := .ref (tb_ad g (d + 1))) rfl dX1_needsStartInTick_112 ?_
      refine lv_iconst (v := nI (1)) X.1 X.2.1 dX1_needsStartInTick_115 (by decide +kernel) ?_
      refine tb_ald X hH (tb_iset hd) (1) rfl (by decide) (by first | decide | omega) dX1_needsStartInTick_116 ?_
      have J_3 : ∀ (H : Heap) (locs : List Loc) (ls : Array Slot) (vq1 : Int32), vq1 = (tb_b (¬ (((sz_X1_needsStartInTick_m2 z d) d 7) < ((sz_X1_needsStartInTick_m2 z d) (d + 1) 1)))) → tb_H g s.heap (sz_X1_needsStartInTick_m2 z d) H locs → lv_has ls 4 [(1, .ref (tb_ad g ((tb_at d (tb_rn z d))))), (0, .ref (tb_ad g (d)))] → W p l e (tb_rm 1) s m ([.ref (tb_ad g d)] : List Value).toArray below meth c H locs 0 0 (MQ below (va_Qi (fun r9 u9 => r9 = tb_b (sp_X1_needsStartInTick z d) ∧ u9 = sz_X1_needsStartInTick_m2 z d) (tb_B g) (tb_A g)) ([.ref (tb_ad g d)] : List Value).toArray s 0 0 (tb_A g)) (F0 m 125 ls [.int vq1]) := by
        intro H locs ls vq1 evq1 hH hl
        subst evq1
        refine lv_istore_n (lv' := [(2, .int (tb_b (¬ (((sz_X1_needsStartInTick_m2 z d) d 7) < ((sz_X1_needsStartInTick_m2 z d) (d + 1) 1))))), (1, .ref (tb_ad g ((tb_at d (tb_rn z d))))), (0, .ref (tb_ad g (d)))]) X.1 X.2.1 dX1_needsStartInTick_125 rfl hl (by decide) rfl (fun ls hl => ?_)
        refine lv_aload_n X.1 X.2.1 dX1_needsStartInTick_126 rfl (lv_at hl 1 rfl) ?_
        refine tb_get X hH (tb_Ac (tb_isat hd (tb_rn z d))).1 ((tb_Ac (tb_isat hd (tb_rn z d))).2 _ _) rfl inlX0 0 (by decide) wm_372 (v := .int ((sz_X1_needsStartInTick_m2 z d) ((tb_at d (tb_rn z d))) 0)) rfl dX1_needsStartInTick_127 ?_
        refine lv_iconst (v := nI (2)) X.1 X.2.1 dX1_needsStartInTick_130 (by decide +kernel) ?_
        have J_4 : ∀ (H : Heap) (locs : List Loc) (ls : Array Slot) (vq1 : Int32), vq1 = (tb_b ((((sz_X1_needsStartInTick_m2 z d) ((tb_at d (tb_rn z d))) 0) = (nI (2))) ∧ (¬ (((sz_X1_needsStartInTick_m2 z d) d 6) < ((nI (10)) * ((sz_X1_needsStartInTick_m2 z d) (d + 1) 1)))))) → tb_H g s.heap (sz_X1_needsStartInTick_m2 z d) H locs → lv_has ls 4 [(2, .int (tb_b (¬ (((sz_X1_needsStartInTick_m2 z d) d 7) < ((sz_X1_needsStartInTick_m2 z d) (d + 1) 1))))), (1, .ref (tb_ad g ((tb_at d (tb_rn z d))))), (0, .ref (tb_ad g (d)))] → W p l e (tb_rm 1) s m ([.ref (tb_ad g d)] : List Value).toArray below meth c H locs 0 0 (MQ below (va_Qi (fun r9 u9 => r9 = tb_b (sp_X1_needsStartInTick z d) ∧ u9 = sz_X1_needsStartInTick_m2 z d) (tb_B g) (tb_A g)) ([.ref (tb_ad g d)] : List Value).toArray s 0 0 (tb_A g)) (F0 m 155 ls [.int vq1]) := by
          intro H locs ls vq1 evq1 hH hl
          subst evq1
          refine lv_istore_n (lv' := [(3, .int (tb_b ((((sz_X1_needsStartInTick_m2 z d) ((tb_at d (tb_rn z d))) 0) = (nI (2))) ∧ (¬ (((sz_X1_needsStartInTick_m2 z d) d 6) < ((nI (10)) * ((sz_X1_needsStartInTick_m2 z d) (d + 1) 1))))))), (2, .int (tb_b (¬ (((sz_X1_needsStartInTick_m2 z d) d 7) < ((sz_X1_needsStartInTick_m2 z d) (d + 1) 1))))), (1, .ref (tb_ad g ((tb_at d (tb_rn z d))))), (0, .ref (tb_ad g (d)))]) X.1 X.2.1 dX1_needsStartInTick_155 rfl hl (by decide) rfl (fun ls hl => ?_)
          refine lv_iload_n X.1 X.2.1 dX1_needsStartInTick_156 rfl (lv_at hl 1 rfl) ?_
          have J_5 : ∀ (H : Heap) (locs : List Loc) (ls : Array Slot) (vq1 : Int32), vq1 = (tb_b ((¬ (((sz_X1_needsStartInTick_m2 z d) d 7) < ((sz_X1_needsStartInTick_m2 z d) (d + 1) 1))) ∨ ((((sz_X1_needsStartInTick_m2 z d) ((tb_at d (tb_rn z d))) 0) = (nI (2))) ∧ (¬ (((sz_X1_needsStartInTick_m2 z d) d 6) < ((nI (10)) * ((sz_X1_needsStartInTick_m2 z d) (d + 1) 1))))))) → tb_H g s.heap (sz_X1_needsStartInTick_m2 z d) H locs → lv_has ls 4 [(3, .int (tb_b ((((sz_X1_needsStartInTick_m2 z d) ((tb_at d (tb_rn z d))) 0) = (nI (2))) ∧ (¬ (((sz_X1_needsStartInTick_m2 z d) d 6) < ((nI (10)) * ((sz_X1_needsStartInTick_m2 z d) (d + 1) 1))))))), (2, .int (tb_b (¬ (((sz_X1_needsStartInTick_m2 z d) d 7) < ((sz_X1_needsStartInTick_m2 z d) (d + 1) 1))))), (1, .ref (tb_ad g ((tb_at d (tb_rn z d))))), (0, .ref (tb_ad g (d)))] → W p l e (tb_rm 1) s m ([.ref (tb_ad g d)] : List Value).toArray below meth c H locs 0 0 (MQ below (va_Qi (fun r9 u9 => r9 = tb_b (sp_X1_needsStartInTick z d) ∧ u9 = sz_X1_needsStartInTick_m2 z d) (tb_B g) (tb_A g)) ([.ref (tb_ad g d)] : List Value).toArray s 0 0 (tb_A g)) (F0 m 169 ls [.int vq1]) := by
            intro H locs ls vq1 evq1 hH hl
            subst evq1
            exact tb_rz X hr hlk hH ⟨(Iff.rfl).symm, rfl⟩ dX1_needsStartInTick_169
          refine tb_jbne (tgt := 164) X dX1_needsStartInTick_157 (by decide) (fun c_9 => ?_) (fun c_9 => ?_)
          · refine lv_iconst (v := nI (1)) X.1 X.2.1 dX1_needsStartInTick_164 (by decide +kernel) ?_
            refine lv_goto (tgt := 169) X.1 X.2.1 dX1_needsStartInTick_165 (by decide) ?_
            exact J_5 _ _ _ _ (tb_b_t (Or.inl c_9)).symm hH (lv_sub hl [0, 1, 2, 3] rfl)
          · refine lv_iload_n X.1 X.2.1 dX1_needsStartInTick_160 rfl (lv_at hl 0 rfl) ?_
            refine tb_jbeq (tgt := 168) X dX1_needsStartInTick_161 (by decide) (fun c_10 => ?_) (fun c_10 => ?_)
            · refine lv_iconst (v := nI (0)) X.1 X.2.1 dX1_needsStartInTick_168 (by decide +kernel) ?_
              exact J_5 _ _ _ _ (tb_b_f (fun h => h.elim c_9 c_10)).symm hH (lv_sub hl [0, 1, 2, 3] rfl)
            · refine lv_iconst (v := nI (1)) X.1 X.2.1 dX1_needsStartInTick_164 (by decide +kernel) ?_
              refine lv_goto (tgt := 169) X.1 X.2.1 dX1_needsStartInTick_165 (by decide) ?_
              exact J_5 _ _ _ _ (tb_b_t (Or.inr c_10)).symm hH (lv_sub hl [0, 1, 2, 3] rfl)
        refine lv_icmp_ne (tgt := 154) X.1 X.2.1 dX1_needsStartInTick_131 (by decide) (fun c_7 => ?_) (fun c_7 => ?_)
        · refine lv_iconst (v := nI (0)) X.1 X.2.1 dX1_needsStartInTick_154 (by decide +kernel) ?_
          exact J_4 _ _ _ _ (tb_b_f (fun h => c_7 h.1)).symm hH (lv_sub hl [0, 1, 2] rfl)
        · refine lv_aload_n X.1 X.2.1 dX1_needsStartInTick_134 rfl (lv_at hl 2 rfl) ?_
          refine tb_get X hH (tb_Dc hd).1 ((tb_Dc hd).2 _ _) rfl inlX1 6 (by decide) wm_138 (v := .int ((sz_X1_needsStartInTick_m2 z d) d 6)) rfl dX1_needsStartInTick_135 ?_
          refine lv_bipush (v := nI (10)) X.1 X.2.1 dX1_needsStartInTick_138 (by decide +kernel) ?_
          refine lv_aload_n X.1 X.2.1 dX1_needsStartInTick_140 rfl (lv_at hl 2 rfl) ?_
          refine tb_get X hH (tb_Dc hd).1 ((tb_Dc hd).2 _ _) rfl inlX1 0 (by decide) wm_34 (v := .ref (tb_ad g (d + 1))) rfl dX1_needsStartInTick_141 ?_
          refine lv_iconst (v := nI (1)) X.1 X.2.1 dX1_needsStartInTick_144 (by decide +kernel) ?_
          refine tb_ald X hH (tb_iset hd) (1) rfl (by decide) (by first | decide | omega) dX1_needsStartInTick_145 ?_
          refine lv_imul X.1 X.2.1 dX1_needsStartInTick_146 ?_
          refine lv_icmp_lt (tgt := 154) X.1 X.2.1 dX1_needsStartInTick_147 (by decide) (fun c_8 => ?_) (fun c_8 => ?_)
          · refine lv_iconst (v := nI (0)) X.1 X.2.1 dX1_needsStartInTick_154 (by decide +kernel) ?_
            exact J_4 _ _ _ _ (tb_b_f (fun h => (fun h => h c_8) h.2)).symm hH (lv_sub hl [0, 1, 2] rfl)
          · refine lv_iconst (v := nI (1)) X.1 X.2.1 dX1_needsStartInTick_150 (by decide +kernel) ?_
            refine lv_goto (tgt := 155) X.1 X.2.1 dX1_needsStartInTick_151 (by decide) ?_
            exact J_4 _ _ _ _ (tb_b_t ⟨c_7, c_8⟩).symm hH (lv_sub hl [0, 1, 2] rfl)
      refine lv_icmp_lt (tgt := 124) X.1 X.2.1 dX1_needsStartInTick_117 (by decide) (fun c_6 => ?_) (fun c_6 => ?_)
      · refine lv_iconst (v := nI (0)) X.1 X.2.1 dX1_needsStartInTick_124 (by decide +kernel) ?_
        exact J_3 _ _ _ _ (tb_b_f (fun h => h c_6)).symm hH (lv_sub hl [0, 1] rfl)
      · refine lv_iconst (v := nI (1)) X.1 X.2.1 dX1_needsStartInTick_120 (by decide +kernel) ?_
        refine lv_goto (tgt := 125) X.1 X.2.1 dX1_needsStartInTick_121 (by decide) ?_
        exact J_3 _ _ _ _ (tb_b_t c_6).symm hH (lv_sub hl [0, 1] rfl)
    refine lv_if_ne (tgt := 107) X.1 X.2.1 dX1_needsStartInTick_63 (by decide) (fun c_3 => ?_) (fun c_3 => ?_)
    · exact J_2 _ _ _ _ (by simp only [if_neg c_3]) hH (lv_sub hl [0, 1] rfl)
    · refine lv_aload_n X.1 X.2.1 dX1_needsStartInTick_66 rfl (lv_at hl 0 rfl) ?_
      refine tb_get X hH (tb_Ac (tb_isat hd (tb_rn z d))).1 ((tb_Ac (tb_isat hd (tb_rn z d))).2 _ _) rfl inlX0 6 (by decide) wm_433 (v := .ref (tb_ad g (((tb_at d (tb_rn z d))) + 1))) rfl dX1_needsStartInTick_67 ?_
      refine lv_iconst (v := nI (1)) X.1 X.2.1 dX1_needsStartInTick_70 (by decide +kernel) ?_
      refine tb_ald X hH (tb_iw (tb_isat hd (tb_rn z d))) (1) rfl (by decide) (by first | decide | omega) dX1_needsStartInTick_71 ?_
      refine lv_aload_n X.1 X.2.1 dX1_needsStartInTick_72 rfl (lv_at hl 1 rfl) ?_
      refine tb_get X hH (tb_Dc hd).1 ((tb_Dc hd).2 _ _) rfl inlX1 6 (by decide) wm_138 (v := .int ((sz_X1_needsStartInTick_m1 z d) d 6)) rfl dX1_needsStartInTick_73 ?_
      refine lv_icmp_ne (tgt := 107) X.1 X.2.1 dX1_needsStartInTick_76 (by decide) (fun c_4 => ?_) (fun c_4 => ?_)
      · exact J_2 _ _ _ _ (by simp only [if_pos c_3, if_neg c_4]) hH (lv_sub hl [0, 1] rfl)
      · refine lv_aload_n X.1 X.2.1 dX1_needsStartInTick_79 rfl (lv_at hl 0 rfl) ?_
        refine tb_get X hH (tb_Ac (tb_isat hd (tb_rn z d))).1 ((tb_Ac (tb_isat hd (tb_rn z d))).2 _ _) rfl inlX0 0 (by decide) wm_372 (v := .int ((sz_X1_needsStartInTick_m1 z d) ((tb_at d (tb_rn z d))) 0)) rfl dX1_needsStartInTick_80 ?_
        refine lv_iconst (v := nI (2)) X.1 X.2.1 dX1_needsStartInTick_83 (by decide +kernel) ?_
        refine lv_icmp_ne (tgt := 107) X.1 X.2.1 dX1_needsStartInTick_84 (by decide) (fun c_5 => ?_) (fun c_5 => ?_)
        · exact J_2 _ _ _ _ (by simp only [if_pos c_3, if_pos c_4, if_neg c_5]) hH (lv_sub hl [0, 1] rfl)
        · refine lv_aload_n X.1 X.2.1 dX1_needsStartInTick_87 rfl (lv_at hl 0 rfl) ?_
          refine lv_iconst (v := nI (3)) X.1 X.2.1 dX1_needsStartInTick_88 (by decide +kernel) ?_
          refine tb_putA X hH (tb_isat hd (tb_rn z d)) 0 (by decide) wm_372 dX1_needsStartInTick_89 (fun H locs hH => ?_)
          refine lv_aload_n X.1 X.2.1 dX1_needsStartInTick_92 rfl (lv_at hl 1 rfl) ?_
          refine lv_aload_n X.1 X.2.1 dX1_needsStartInTick_93 rfl (lv_at hl 1 rfl) ?_
          refine tb_get X hH (tb_Dc hd).1 ((tb_Dc hd).2 _ _) rfl inlX1 8 (by decide) wm_140 (v := .int ((tb_up (sz_X1_needsStartInTick_m1 z d) ((tb_at d (tb_rn z d))) 0 (nI (3))) d 8)) rfl dX1_needsStartInTick_94 ?_
          refine lv_aload_n X.1 X.2.1 dX1_needsStartInTick_97 rfl (lv_at hl 0 rfl) ?_
          refine tb_get X hH (tb_Ac (tb_isat hd (tb_rn z d))).1 ((tb_Ac (tb_isat hd (tb_rn z d))).2 _ _) rfl inlX0 1 (by decide) wm_381 (v := .int ((tb_up (sz_X1_needsStartInTick_m1 z d) ((tb_at d (tb_rn z d))) 0 (nI (3))) ((tb_at d (tb_rn z d))) 1)) rfl dX1_needsStartInTick_98 ?_
          refine tb_cmax X hl.1 wm_192 wm_193 wm_124 wm_194 (by decide) (Nat.le_of_ble_eq_true rfl) ⟨by decide, by decide⟩ dX1_needsStartInTick_101 ?_
          refine tb_putD X hH hd 8 (by decide) wm_140 dX1_needsStartInTick_104 (fun H locs hH => ?_)
          exact J_2 _ _ _ _ (by simp only [if_pos c_3, if_pos c_4, if_pos c_5]) hH (lv_sub hl [0, 1] rfl)
  refine lv_if_gt (tgt := 49) X.1 X.2.1 dX1_needsStartInTick_33 (by decide) (fun c_1 => ?_) (fun c_1 => ?_)
  · refine lv_aload_n X.1 X.2.1 dX1_needsStartInTick_49 rfl (lv_at hl 1 rfl) ?_
    refine lv_dup X.1 X.2.1 dX1_needsStartInTick_50 rfl ?_
    refine tb_get X hH (tb_Dc hd).1 ((tb_Dc hd).2 _ _) rfl inlX1 7 (by decide) wm_139 (v := .int ((tb_up (tb_up z d 6 ((z d 6) + (nI (1)))) d 9 (((tb_up z d 6 ((z d 6) + (nI (1)))) d 9) + (nI (1)))) d 7)) rfl dX1_needsStartInTick_51 ?_
    refine lv_iconst (v := nI (1)) X.1 X.2.1 dX1_needsStartInTick_54 (by decide +kernel) ?_
    refine lv_iadd X.1 X.2.1 dX1_needsStartInTick_55 ?_
    refine tb_putD X hH hd 7 (by decide) wm_139 dX1_needsStartInTick_56 (fun H locs hH => ?_)
    exact J_1 _ _ _ _ (by simp only [if_pos c_1]) hH (lv_sub hl [0, 1] rfl)
  · refine lv_aload_n X.1 X.2.1 dX1_needsStartInTick_36 rfl (lv_at hl 0 rfl) ?_
    refine tb_get X hH (tb_Ac (tb_isat hd (tb_rn z d))).1 ((tb_Ac (tb_isat hd (tb_rn z d))).2 _ _) rfl inlX0 6 (by decide) wm_433 (v := .ref (tb_ad g (((tb_at d (tb_rn z d))) + 1))) rfl dX1_needsStartInTick_37 ?_
    refine lv_iconst (v := nI (0)) X.1 X.2.1 dX1_needsStartInTick_40 (by decide +kernel) ?_
    refine tb_ald X hH (tb_iw (tb_isat hd (tb_rn z d))) (0) rfl (by decide) (by first | decide | omega) dX1_needsStartInTick_41 ?_
    refine lv_aload_n X.1 X.2.1 dX1_needsStartInTick_42 rfl (lv_at hl 1 rfl) ?_
    refine tb_get X hH (tb_Dc hd).1 ((tb_Dc hd).2 _ _) rfl inlX1 6 (by decide) wm_138 (v := .int ((tb_up (tb_up z d 6 ((z d 6) + (nI (1)))) d 9 (((tb_up z d 6 ((z d 6) + (nI (1)))) d 9) + (nI (1)))) d 6)) rfl dX1_needsStartInTick_43 ?_
    refine lv_icmp_ne (tgt := 59) X.1 X.2.1 dX1_needsStartInTick_46 (by decide) (fun c_2 => ?_) (fun c_2 => ?_)
    · exact J_1 _ _ _ _ (by simp only [if_neg c_1, if_neg c_2]) hH (lv_sub hl [0, 1] rfl)
    · refine lv_aload_n X.1 X.2.1 dX1_needsStartInTick_49 rfl (lv_at hl 1 rfl) ?_
      refine lv_dup X.1 X.2.1 dX1_needsStartInTick_50 rfl ?_
      refine tb_get X hH (tb_Dc hd).1 ((tb_Dc hd).2 _ _) rfl inlX1 7 (by decide) wm_139 (v := .int ((tb_up (tb_up z d 6 ((z d 6) + (nI (1)))) d 9 (((tb_up z d 6 ((z d 6) + (nI (1)))) d 9) + (nI (1)))) d 7)) rfl dX1_needsStartInTick_51 ?_
      refine lv_iconst (v := nI (1)) X.1 X.2.1 dX1_needsStartInTick_54 (by decide +kernel) ?_
      refine lv_iadd X.1 X.2.1 dX1_needsStartInTick_55 ?_
      refine tb_putD X hH hd 7 (by decide) wm_139 dX1_needsStartInTick_56 (fun H locs hH => ?_)
      exact J_1 _ _ _ _ (by simp only [if_neg c_1, if_pos c_2]) hH (lv_sub hl [0, 1] rfl)
/-- a tick, and the start by the watchdog that it may bring -/
def tb_stk (z : tb_M) (d : Nat) : tb_M := if sp_X1_needsStartInTick z d then sz_X1_startBy (sz_X1_needsStartInTick_m2 z d) d (nI (1)) else sz_X1_needsStartInTick_m2 z d
def tb_lpZ (z : tb_M) (d : Nat) : Nat → tb_M
  | 0 => z
  | i + 1 => tb_stk (tb_lpZ z d i) d
def tb_lpN (z : tb_M) (d : Nat) : Nat → Int32
  | 0 => nI 0
  | i + 1 => if sp_X1_needsStartInTick (tb_lpZ z d i) d then tb_lpN z d i + nI 1 else tb_lpN z d i
theorem tb_lpZ_f {z : tb_M} {d i : Nat} (h : ¬ sp_X1_needsStartInTick (tb_lpZ z d i) d) : tb_lpZ z d (i + 1) = sz_X1_needsStartInTick_m2 (tb_lpZ z d i) d := by
  show tb_stk (tb_lpZ z d i) d = _
  unfold tb_stk
  exact if_neg h
set_option maxHeartbeats 1000000 in
set_option maxRecDepth 100000 in
theorem c_X1_letPass (l : Launch) (g : tb_G) (z : tb_M) (d : Nat) (hd : tb_isD d) (q : Nat) (hq : q < 1000) (hW : ∀ i, i < q → tb_okT (tb_lpZ z d i) d) : tb_Mi (.int) l yX1_letPass cX1_letPass 4 5 g z [.ref (tb_ad g d), .int (nI q)] (tb_lpN z d q) (tb_lpZ z d q) := by
  refine tb_goi (own := RX1) (by decide +kernel) rfl (Nat.le_of_ble_eq_true rfl) ?_
  intro p e s m below meth c ls X hr hlk hH hl
  have hl : lv_has ls 4 [(0, .ref (tb_ad g (d))), (1, .int (nI (q)))] := hl
  refine lv_iconst (v := nI (0)) X.1 X.2.1 dX1_letPass_0 (by decide +kernel) ?_
  refine lv_istore_n (lv' := [(2, .int (nI (0))), (0, .ref (tb_ad g (d))), (1, .int (nI (q)))]) X.1 X.2.1 dX1_letPass_1 rfl hl (by decide) rfl (fun ls hl => ?_)
  refine lv_iconst (v := nI (0)) X.1 X.2.1 dX1_letPass_2 (by decide +kernel) ?_
  refine lv_istore_n (lv' := [(3, .int (nI (0))), (2, .int (nI (0))), (0, .ref (tb_ad g (d))), (1, .int (nI (q)))]) X.1 X.2.1 dX1_letPass_3 rfl hl (by decide) rfl (fun ls hl => ?_)
  have L_4 : ∀ (k : Nat) (i : Nat), i + k = q → ∀ (H : Heap) (locs : List Loc) (ls : Array Slot), tb_H g s.heap (tb_lpZ z d i) H locs → lv_has ls 4 [(0, .ref (tb_ad g (d))), (1, .int (nI (q))), (2, .int (tb_lpN z d i)), (3, .int (nI (i)))] → W p l e (tb_rm 5) s m ([.ref (tb_ad g d), .int (nI q)] : List Value).toArray below meth c H locs 0 0 (MQ below (va_Qi (fun r9 u9 => r9 = tb_lpN z d q ∧ u9 = tb_lpZ z d q) (tb_B g) (tb_A g)) ([.ref (tb_ad g d), .int (nI q)] : List Value).toArray s 0 0 (tb_A g)) (F0 m 4 ls []) := by
    intro k
    induction k with
    | zero =>
      intro i hik H locs ls hH hl
      refine lv_iload_n X.1 X.2.1 dX1_letPass_4 rfl (lv_at hl 3 rfl) ?_
      refine lv_iload_n X.1 X.2.1 dX1_letPass_5 rfl (lv_at hl 1 rfl) ?_
      refine tb_nge (tgt := 30) X (by omega) (by omega) dX1_letPass_6 (by decide) (fun _ => ?_) (fun c => ((by omega) : False).elim)
      refine lv_iload_n X.1 X.2.1 dX1_letPass_30 rfl (lv_at hl 2 rfl) ?_
      exact tb_ri X hr hlk hH ⟨(by rw [show i = q by omega]), (by rw [show i = q by omega])⟩ dX1_letPass_31
    | succ k ih_4 =>
      intro i hik H locs ls hH hl
      refine lv_iload_n X.1 X.2.1 dX1_letPass_4 rfl (lv_at hl 3 rfl) ?_
      refine lv_iload_n X.1 X.2.1 dX1_letPass_5 rfl (lv_at hl 1 rfl) ?_
      refine tb_nge (tgt := 30) X (by omega) (by omega) dX1_letPass_6 (by decide) (fun c => ((by omega) : False).elim) (fun _ => ?_)
      refine lv_aload_n X.1 X.2.1 dX1_letPass_9 rfl (lv_at hl 0 rfl) ?_
      refine tb_cVi X hH hl.1 (c_X1_needsStartInTick l g (tb_lpZ z d i) d hd (hW i (by omega))) ky_X1_needsStartInTick.1 ky_X1_needsStartInTick.2 wm_429 (tb_oD hd) rfl rfl (Nat.le_of_ble_eq_true rfl) ⟨by decide, by decide⟩ ⟨by decide, by decide⟩ dX1_letPass_10 (fun H locs hH => ?_)
      have J_1 : ∀ (H : Heap) (locs : List Loc) (ls : Array Slot) (zq : tb_M) (vq1 : Int32), zq = (if (sp_X1_needsStartInTick (tb_lpZ z d i) d) then (sz_X1_startBy (sz_X1_needsStartInTick_m2 (tb_lpZ z d i) d) d (nI (1))) else (sz_X1_needsStartInTick_m2 (tb_lpZ z d i) d)) → vq1 = (if (sp_X1_needsStartInTick (tb_lpZ z d i) d) then ((tb_lpN z d i) + nI 1) else (tb_lpN z d i)) → tb_H g s.heap zq H locs → lv_has ls 4 [(0, .ref (tb_ad g (d))), (1, .int (nI (q))), (2, .int vq1), (3, .int (nI (i)))] → W p l e (tb_rm 5) s m ([.ref (tb_ad g d), .int (nI q)] : List Value).toArray below meth c H locs 0 0 (MQ below (va_Qi (fun r9 u9 => r9 = tb_lpN z d q ∧ u9 = tb_lpZ z d q) (tb_B g) (tb_A g)) ([.ref (tb_ad g d), .int (nI q)] : List Value).toArray s 0 0 (tb_A g)) (F0 m 24 ls []) := by
        intro H locs ls zq vq1 ezq evq1 hH hl
        subst ezq
        subst evq1
        refine lv_iinc (v := nI (i + 1)) (lv' := [(3, .int (nI (i + 1))), (0, .ref (tb_ad g (d))), (1, .int (nI (q))), (2, .int (if (sp_X1_needsStartInTick (tb_lpZ z d i) d) then ((tb_lpN z d i) + nI 1) else (tb_lpN z d i)))]) X.1 X.2.1 dX1_letPass_24 hl (k := 3) rfl (nI_add _ _) (by decide) rfl (fun ls hl => ?_)
        refine lv_goto (tgt := 4) X.1 X.2.1 dX1_letPass_27 (by decide) ?_
        exact ih_4 (i + 1) (by omega) _ _ _ hH (lv_sub hl [1, 2, 3, 0] rfl)
      refine tb_jbeq (tgt := 24) X dX1_letPass_13 (by decide) (fun c_1 => ?_) (fun c_1 => ?_)
      · exact J_1 _ _ _ _ _ (by simp only [if_neg c_1]) (by simp only [if_neg c_1]) hH (lv_sub hl [0, 1, 2, 3] rfl)
      · refine lv_aload_n X.1 X.2.1 dX1_letPass_16 rfl (lv_at hl 0 rfl) ?_
        refine lv_iconst (v := nI (1)) X.1 X.2.1 dX1_letPass_17 (by decide +kernel) ?_
        refine tb_cVv X hH hl.1 (c_X1_startBy l g (sz_X1_needsStartInTick_m2 (tb_lpZ z d i) d) d hd (nI (1)) (tb_tk_ok hd (hW i (by omega)))) ky_X1_startBy.1 ky_X1_startBy.2 wm_434 (tb_oD hd) rfl rfl (Nat.le_of_ble_eq_true rfl) ⟨by decide, by decide⟩ ⟨by decide, by decide⟩ dX1_letPass_18 (fun H locs hH => ?_)
        refine lv_iinc (v := (tb_lpN z d i) + nI 1) (lv' := [(2, .int ((tb_lpN z d i) + nI 1)), (0, .ref (tb_ad g (d))), (1, .int (nI (q))), (3, .int (nI (i)))]) X.1 X.2.1 dX1_letPass_21 hl (k := 2) rfl rfl (by decide) rfl (fun ls hl => ?_)
        exact J_1 _ _ _ _ _ (by simp only [if_pos c_1]) (by simp only [if_pos c_1]) hH (lv_sub hl [1, 2, 0, 3] rfl)
  exact L_4 q 0 (by omega) _ _ _ hH (lv_sub hl [2, 3, 1, 0] rfl)
def sz_X1_copyFrom_m1 (z : tb_M) (d : Nat) (b : Nat) : tb_M := sz_X4_copyFrom (sz_X0_copyFrom (sz_X0_copyFrom (tb_cp z (b + 1) (d + 1) 3) (d + 2) (b + 2)) (d + 5) (b + 5)) (d + 11) (b + 11)
def sz_X1_copyFrom_m2 (z : tb_M) (d : Nat) (b : Nat) : tb_M := tb_up (sz_X1_copyFrom_m1 z d b) d 5 ((sz_X1_copyFrom_m1 z d b) b 5)
def sz_X1_copyFrom_m3 (z : tb_M) (d : Nat) (b : Nat) : tb_M := tb_up (sz_X1_copyFrom_m2 z d b) d 6 ((sz_X1_copyFrom_m2 z d b) b 6)
def sz_X1_copyFrom_m4 (z : tb_M) (d : Nat) (b : Nat) : tb_M := tb_up (sz_X1_copyFrom_m3 z d b) d 7 ((sz_X1_copyFrom_m3 z d b) b 7)
def sz_X1_copyFrom_m5 (z : tb_M) (d : Nat) (b : Nat) : tb_M := tb_up (sz_X1_copyFrom_m4 z d b) d 8 ((sz_X1_copyFrom_m4 z d b) b 8)
def sz_X1_copyFrom_m6 (z : tb_M) (d : Nat) (b : Nat) : tb_M := tb_up (sz_X1_copyFrom_m5 z d b) d 9 ((sz_X1_copyFrom_m5 z d b) b 9)
set_option maxHeartbeats 1000000 in
set_option maxRecDepth 100000 in
theorem c_X1_copyFrom (l : Launch) (g : tb_G) (z : tb_M) (d : Nat) (hd : tb_isD d) (b : Nat) (hb : tb_isD b) : tb_Mv l yX1_copyFrom cX1_copyFrom 2 2 g z [.ref (tb_ad g d), .ref (tb_ad g b)] (sz_X1_copyFrom_m6 z d b) := by
  refine tb_gov (own := RX1) (by decide +kernel) rfl (Nat.le_of_ble_eq_true rfl) ?_
  intro p e s m below meth c ls X hr hlk hH hl
  have hl : lv_has ls 2 [(0, .ref (tb_ad g (d))), (1, .ref (tb_ad g (b)))] := hl
  refine lv_aload_n X.1 X.2.1 dX1_copyFrom_0 rfl (lv_at hl 1 rfl) ?_
  refine tb_get X hH (tb_Dc hb).1 ((tb_Dc hb).2 _ _) rfl inlX1 0 (by decide) wm_34 (v := .ref (tb_ad g (b + 1))) rfl dX1_copyFrom_1 ?_
  refine lv_iconst (v := nI (0)) X.1 X.2.1 dX1_copyFrom_4 (by decide +kernel) ?_
  refine lv_aload_n X.1 X.2.1 dX1_copyFrom_5 rfl (lv_at hl 0 rfl) ?_
  refine tb_get X hH (tb_Dc hd).1 ((tb_Dc hd).2 _ _) rfl inlX1 0 (by decide) wm_34 (v := .ref (tb_ad g (d + 1))) rfl dX1_copyFrom_6 ?_
  refine lv_iconst (v := nI (0)) X.1 X.2.1 dX1_copyFrom_9 (by decide +kernel) ?_
  refine lv_iconst (v := nI (3)) X.1 X.2.1 dX1_copyFrom_10 (by decide +kernel) ?_
  refine tb_acp X hH hl.1 (tb_iset hb) (tb_iset hd) 3 (by decide) (by decide) (by decide) wm_134 wm_135 wm_136 wm_137 (by decide) (Nat.le_of_ble_eq_true rfl) dX1_copyFrom_11 (fun H locs hH => ?_)
  refine lv_aload_n X.1 X.2.1 dX1_copyFrom_14 rfl (lv_at hl 0 rfl) ?_
  refine tb_get X hH (tb_Dc hd).1 ((tb_Dc hd).2 _ _) rfl inlX1 1 (by decide) wm_38 (v := .ref (tb_ad g (d + 2))) rfl dX1_copyFrom_15 ?_
  refine lv_aload_n X.1 X.2.1 dX1_copyFrom_18 rfl (lv_at hl 1 rfl) ?_
  refine tb_get X hH (tb_Dc hb).1 ((tb_Dc hb).2 _ _) rfl inlX1 1 (by decide) wm_38 (v := .ref (tb_ad g (b + 2))) rfl dX1_copyFrom_19 ?_
  refine tb_cVv X hH hl.1 (c_X0_copyFrom l g (tb_cp z (b + 1) (d + 1) 3) (d + 2) (tb_A1 hd) (b + 2) (tb_A1 hb)) ky_X0_copyFrom.1 ky_X0_copyFrom.2 wm_142 (tb_oA (tb_A1 hd)) rfl rfl (Nat.le_of_ble_eq_true rfl) ⟨by decide, by decide⟩ ⟨by decide, by decide⟩ dX1_copyFrom_22 (fun H locs hH => ?_)
  refine lv_aload_n X.1 X.2.1 dX1_copyFrom_25 rfl (lv_at hl 0 rfl) ?_
  refine tb_get X hH (tb_Dc hd).1 ((tb_Dc hd).2 _ _) rfl inlX1 2 (by decide) wm_39 (v := .ref (tb_ad g (d + 5))) rfl dX1_copyFrom_26 ?_
  refine lv_aload_n X.1 X.2.1 dX1_copyFrom_29 rfl (lv_at hl 1 rfl) ?_
  refine tb_get X hH (tb_Dc hb).1 ((tb_Dc hb).2 _ _) rfl inlX1 2 (by decide) wm_39 (v := .ref (tb_ad g (b + 5))) rfl dX1_copyFrom_30 ?_
  refine tb_cVv X hH hl.1 (c_X0_copyFrom l g (sz_X0_copyFrom (tb_cp z (b + 1) (d + 1) 3) (d + 2) (b + 2)) (d + 5) (tb_A2 hd) (b + 5) (tb_A2 hb)) ky_X0_copyFrom.1 ky_X0_copyFrom.2 wm_142 (tb_oA (tb_A2 hd)) rfl rfl (Nat.le_of_ble_eq_true rfl) ⟨by decide, by decide⟩ ⟨by decide, by decide⟩ dX1_copyFrom_33 (fun H locs hH => ?_)
  refine lv_aload_n X.1 X.2.1 dX1_copyFrom_36 rfl (lv_at hl 0 rfl) ?_
  refine tb_get X hH (tb_Dc hd).1 ((tb_Dc hd).2 _ _) rfl inlX1 4 (by decide) wm_44 (v := .ref (tb_ad g (d + 11))) rfl dX1_copyFrom_37 ?_
  refine lv_aload_n X.1 X.2.1 dX1_copyFrom_40 rfl (lv_at hl 1 rfl) ?_
  refine tb_get X hH (tb_Dc hb).1 ((tb_Dc hb).2 _ _) rfl inlX1 4 (by decide) wm_44 (v := .ref (tb_ad g (b + 11))) rfl dX1_copyFrom_41 ?_
  refine tb_cVv X hH hl.1 (c_X4_copyFrom l g (sz_X0_copyFrom (sz_X0_copyFrom (tb_cp z (b + 1) (d + 1) 3) (d + 2) (b + 2)) (d + 5) (b + 5)) (d + 11) (tb_S1 hd) (b + 11) (tb_S1 hb)) ky_X4_copyFrom.1 ky_X4_copyFrom.2 wm_147 (tb_oS (tb_S1 hd)) rfl rfl (Nat.le_of_ble_eq_true rfl) ⟨by decide, by decide⟩ ⟨by decide, by decide⟩ dX1_copyFrom_44 (fun H locs hH => ?_)
  have hH : tb_H g s.heap (sz_X1_copyFrom_m1 z d b) H locs := hH
  refine lv_aload_n X.1 X.2.1 dX1_copyFrom_47 rfl (lv_at hl 0 rfl) ?_
  refine lv_aload_n X.1 X.2.1 dX1_copyFrom_48 rfl (lv_at hl 1 rfl) ?_
  refine tb_get X hH (tb_Dc hb).1 ((tb_Dc hb).2 _ _) rfl inlX1 5 (by decide) wm_45 (v := .int ((sz_X1_copyFrom_m1 z d b) b 5)) rfl dX1_copyFrom_49 ?_
  refine tb_putD X hH hd 5 (by decide) wm_45 dX1_copyFrom_52 (fun H locs hH => ?_)
  have hH : tb_H g s.heap (sz_X1_copyFrom_m2 z d b) H locs := hH
  refine lv_aload_n X.1 X.2.1 dX1_copyFrom_55 rfl (lv_at hl 0 rfl) ?_
  refine lv_aload_n X.1 X.2.1 dX1_copyFrom_56 rfl (lv_at hl 1 rfl) ?_
  refine tb_get X hH (tb_Dc hb).1 ((tb_Dc hb).2 _ _) rfl inlX1 6 (by decide) wm_138 (v := .int ((sz_X1_copyFrom_m2 z d b) b 6)) rfl dX1_copyFrom_57 ?_
  refine tb_putD X hH hd 6 (by decide) wm_138 dX1_copyFrom_60 (fun H locs hH => ?_)
  have hH : tb_H g s.heap (sz_X1_copyFrom_m3 z d b) H locs := hH
  refine lv_aload_n X.1 X.2.1 dX1_copyFrom_63 rfl (lv_at hl 0 rfl) ?_
  refine lv_aload_n X.1 X.2.1 dX1_copyFrom_64 rfl (lv_at hl 1 rfl) ?_
  refine tb_get X hH (tb_Dc hb).1 ((tb_Dc hb).2 _ _) rfl inlX1 7 (by decide) wm_139 (v := .int ((sz_X1_copyFrom_m3 z d b) b 7)) rfl dX1_copyFrom_65 ?_
  refine tb_putD X hH hd 7 (by decide) wm_139 dX1_copyFrom_68 (fun H locs hH => ?_)
  have hH : tb_H g s.heap (sz_X1_copyFrom_m4 z d b) H locs := hH
  refine lv_aload_n X.1 X.2.1 dX1_copyFrom_71 rfl (lv_at hl 0 rfl) ?_
  refine lv_aload_n X.1 X.2.1 dX1_copyFrom_72 rfl (lv_at hl 1 rfl) ?_
  refine tb_get X hH (tb_Dc hb).1 ((tb_Dc hb).2 _ _) rfl inlX1 8 (by decide) wm_140 (v := .int ((sz_X1_copyFrom_m4 z d b) b 8)) rfl dX1_copyFrom_73 ?_
  refine tb_putD X hH hd 8 (by decide) wm_140 dX1_copyFrom_76 (fun H locs hH => ?_)
  have hH : tb_H g s.heap (sz_X1_copyFrom_m5 z d b) H locs := hH
  refine lv_aload_n X.1 X.2.1 dX1_copyFrom_79 rfl (lv_at hl 0 rfl) ?_
  refine lv_aload_n X.1 X.2.1 dX1_copyFrom_80 rfl (lv_at hl 1 rfl) ?_
  refine tb_get X hH (tb_Dc hb).1 ((tb_Dc hb).2 _ _) rfl inlX1 9 (by decide) wm_141 (v := .int ((sz_X1_copyFrom_m5 z d b) b 9)) rfl dX1_copyFrom_81 ?_
  refine tb_putD X hH hd 9 (by decide) wm_141 dX1_copyFrom_84 (fun H locs hH => ?_)
  have hH : tb_H g s.heap (sz_X1_copyFrom_m6 z d b) H locs := hH
  exact tb_rv X hr hlk hH rfl dX1_copyFrom_87
