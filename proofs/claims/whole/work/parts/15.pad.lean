def sz_X2_record_m1 (z : tb_M) (b : Nat) (rc : Nat) : tb_M := sz_X1_copyFrom_m6 z (60 + 15 * ((rc % 6))) b
def sz_X2_record_m2 (z : tb_M) (b : Nat) (rc : Nat) : tb_M := tb_up (sz_X2_record_m1 z b rc) 153 1 (((sz_X2_record_m1 z b rc) 153 1) + (nI (1)))
def sz_X2_record (z : tb_M) (b : Nat) (rc : Nat) : tb_M := tb_up (sz_X2_record_m2 z b rc) 153 0 (if nI (6) < ((sz_X2_record_m2 z b rc) 153 0) + (nI (1)) then nI (6) else ((sz_X2_record_m2 z b rc) 153 0) + (nI (1)))
set_option maxHeartbeats 1000000 in
set_option maxRecDepth 100000 in
theorem c_X2_record (l : Launch) (g : tb_G) (z : tb_M) (b : Nat) (hb : tb_isD b) (rc : Nat) (hrc : z 153 1 = nI rc) (hrc2 : rc < 2 ^ 30) : tb_Mv l yX2_record cX2_record 2 3 g z [.ref (tb_ad g 153), .ref (tb_ad g b)] (sz_X2_record z b rc) := by
  refine tb_gov (own := RX2) (by decide +kernel) rfl (Nat.le_of_ble_eq_true rfl) ?_
  intro p e s m below meth c ls X hr hlk hH hl
  have hl : lv_has ls 2 [(0, .ref (tb_ad g (153))), (1, .ref (tb_ad g (b)))] := hl
  refine lv_aload_n X.1 X.2.1 dX2_record_0 rfl (lv_at hl 0 rfl) ?_
  refine tb_get X hH tb_Hc.1 (tb_Hc.2 _ _) rfl inlX2 2 (by decide) wm_89 (v := .ref (tb_ad g (154))) rfl dX2_record_1 ?_
  refine lv_aload_n X.1 X.2.1 dX2_record_4 rfl (lv_at hl 0 rfl) ?_
  refine tb_get X hH tb_Hc.1 (tb_Hc.2 _ _) rfl inlX2 1 (by decide) wm_120 (v := .int (z 153 1)) rfl dX2_record_5 ?_
  refine tb_top (x2 := nI (rc)) (hrc) ?_
  refine lv_bipush (v := nI (6)) X.1 X.2.1 dX2_record_8 (by decide +kernel) ?_
  refine tb_cSi X hH hl.1 (c_J9_floorMod_7cf53 l g z rc 6 (by omega) (by decide) (by decide)) ky_J9_floorMod_7cf53.1 ky_J9_floorMod_7cf53.2 wm_126 rfl rfl (Nat.le_of_ble_eq_true rfl) ⟨by decide, by decide⟩ ⟨by decide, by decide⟩ dX2_record_10 (fun H locs hH => ?_)
  refine tb_aalH X hH ((rc % 6)) rfl (by omega) dX2_record_13 ?_
  refine lv_aload_n X.1 X.2.1 dX2_record_14 rfl (lv_at hl 1 rfl) ?_
  refine tb_cVv X hH hl.1 (c_X1_copyFrom l g z (60 + 15 * ((rc % 6))) (tb_DH (j := (rc % 6)) (by omega)) b hb) ky_X1_copyFrom.1 ky_X1_copyFrom.2 wm_130 (tb_oD (tb_DH (j := (rc % 6)) (by omega))) rfl rfl (Nat.le_of_ble_eq_true rfl) ⟨by decide, by decide⟩ ⟨by decide, by decide⟩ dX2_record_15 (fun H locs hH => ?_)
  have hH : tb_H g s.heap (sz_X2_record_m1 z b rc) H locs := hH
  refine lv_aload_n X.1 X.2.1 dX2_record_18 rfl (lv_at hl 0 rfl) ?_
  refine lv_dup X.1 X.2.1 dX2_record_19 rfl ?_
  refine tb_get X hH tb_Hc.1 (tb_Hc.2 _ _) rfl inlX2 1 (by decide) wm_120 (v := .int ((sz_X2_record_m1 z b rc) 153 1)) rfl dX2_record_20 ?_
  refine lv_iconst (v := nI (1)) X.1 X.2.1 dX2_record_23 (by decide +kernel) ?_
  refine lv_iadd X.1 X.2.1 dX2_record_24 ?_
  refine tb_putHi X hH 1 (by decide) wm_120 dX2_record_25 (fun H locs hH => ?_)
  have hH : tb_H g s.heap (sz_X2_record_m2 z b rc) H locs := hH
  refine lv_aload_n X.1 X.2.1 dX2_record_28 rfl (lv_at hl 0 rfl) ?_
  refine lv_aload_n X.1 X.2.1 dX2_record_29 rfl (lv_at hl 0 rfl) ?_
  refine tb_get X hH tb_Hc.1 (tb_Hc.2 _ _) rfl inlX2 0 (by decide) wm_121 (v := .int ((sz_X2_record_m2 z b rc) 153 0)) rfl dX2_record_30 ?_
  refine lv_iconst (v := nI (1)) X.1 X.2.1 dX2_record_33 (by decide +kernel) ?_
  refine lv_iadd X.1 X.2.1 dX2_record_34 ?_
  refine lv_bipush (v := nI (6)) X.1 X.2.1 dX2_record_35 (by decide +kernel) ?_
  refine tb_cmin X hl.1 wm_122 wm_123 wm_124 wm_125 (by decide) (Nat.le_of_ble_eq_true rfl) ⟨by decide, by decide⟩ dX2_record_37 ?_
  refine tb_putHi X hH 0 (by decide) wm_121 dX2_record_40 (fun H locs hH => ?_)
  exact tb_rv X hr hlk hH (by rw [sz_X2_record]) dX2_record_43
def sz_X2_takeBack_m1 (z : tb_M) (b : Nat) (rc : Nat) : tb_M := sz_X1_copyFrom_m6 (tb_up z 153 1 (nI (rc - 1))) b (60 + 15 * (((rc - 1) % 6)))
def sz_X2_takeBack (z : tb_M) (b : Nat) (rc : Nat) : tb_M := tb_up (sz_X2_takeBack_m1 z b rc) 153 0 (((sz_X2_takeBack_m1 z b rc) 153 0) - (nI (1)))
set_option maxHeartbeats 1000000 in
set_option maxRecDepth 100000 in
theorem c_X2_takeBack (l : Launch) (g : tb_G) (z : tb_M) (b : Nat) (hb : tb_isD b) (rc : Nat) (hrc : z 153 1 = nI rc) (hrc2 : rc < 2 ^ 30) (hrc3 : 1 ≤ rc) : tb_Mv l yX2_takeBack cX2_takeBack 2 3 g z [.ref (tb_ad g 153), .ref (tb_ad g b)] (sz_X2_takeBack z b rc) := by
  refine tb_gov (own := RX2) (by decide +kernel) rfl (Nat.le_of_ble_eq_true rfl) ?_
  intro p e s m below meth c ls X hr hlk hH hl
  have hl : lv_has ls 2 [(0, .ref (tb_ad g (153))), (1, .ref (tb_ad g (b)))] := hl
  refine lv_aload_n X.1 X.2.1 dX2_takeBack_0 rfl (lv_at hl 0 rfl) ?_
  refine lv_dup X.1 X.2.1 dX2_takeBack_1 rfl ?_
  refine tb_get X hH tb_Hc.1 (tb_Hc.2 _ _) rfl inlX2 1 (by decide) wm_120 (v := .int (z 153 1)) rfl dX2_takeBack_2 ?_
  refine tb_top (x2 := nI (rc)) (hrc) ?_
  refine lv_iconst (v := nI (1)) X.1 X.2.1 dX2_takeBack_5 (by decide +kernel) ?_
  refine tb_isubN X (by omega) dX2_takeBack_6 ?_
  refine tb_putHi X hH 1 (by decide) wm_120 dX2_takeBack_7 (fun H locs hH => ?_)
  refine lv_aload_n X.1 X.2.1 dX2_takeBack_10 rfl (lv_at hl 1 rfl) ?_
  refine lv_aload_n X.1 X.2.1 dX2_takeBack_11 rfl (lv_at hl 0 rfl) ?_
  refine tb_get X hH tb_Hc.1 (tb_Hc.2 _ _) rfl inlX2 2 (by decide) wm_89 (v := .ref (tb_ad g (154))) rfl dX2_takeBack_12 ?_
  refine lv_aload_n X.1 X.2.1 dX2_takeBack_15 rfl (lv_at hl 0 rfl) ?_
  refine tb_get X hH tb_Hc.1 (tb_Hc.2 _ _) rfl inlX2 1 (by decide) wm_120 (v := .int ((tb_up z 153 1 (nI (rc - 1))) 153 1)) rfl dX2_takeBack_16 ?_
  refine tb_top (x2 := nI (rc - 1)) (tb_up_s _ _ _ _) ?_
  refine lv_bipush (v := nI (6)) X.1 X.2.1 dX2_takeBack_19 (by decide +kernel) ?_
  refine tb_cSi X hH hl.1 (c_J9_floorMod_7cf53 l g (tb_up z 153 1 (nI (rc - 1))) (rc - 1) 6 (by omega) (by decide) (by decide)) ky_J9_floorMod_7cf53.1 ky_J9_floorMod_7cf53.2 wm_126 rfl rfl (Nat.le_of_ble_eq_true rfl) ⟨by decide, by decide⟩ ⟨by decide, by decide⟩ dX2_takeBack_21 (fun H locs hH => ?_)
  refine tb_aalH X hH (((rc - 1) % 6)) rfl (by omega) dX2_takeBack_24 ?_
  refine tb_cVv X hH hl.1 (c_X1_copyFrom l g (tb_up z 153 1 (nI (rc - 1))) b hb (60 + 15 * (((rc - 1) % 6))) (tb_DH (j := ((rc - 1) % 6)) (by omega))) ky_X1_copyFrom.1 ky_X1_copyFrom.2 wm_130 (tb_oD hb) rfl rfl (Nat.le_of_ble_eq_true rfl) ⟨by decide, by decide⟩ ⟨by decide, by decide⟩ dX2_takeBack_25 (fun H locs hH => ?_)
  have hH : tb_H g s.heap (sz_X2_takeBack_m1 z b rc) H locs := hH
  refine lv_aload_n X.1 X.2.1 dX2_takeBack_28 rfl (lv_at hl 0 rfl) ?_
  refine lv_dup X.1 X.2.1 dX2_takeBack_29 rfl ?_
  refine tb_get X hH tb_Hc.1 (tb_Hc.2 _ _) rfl inlX2 0 (by decide) wm_121 (v := .int ((sz_X2_takeBack_m1 z b rc) 153 0)) rfl dX2_takeBack_30 ?_
  refine lv_iconst (v := nI (1)) X.1 X.2.1 dX2_takeBack_33 (by decide +kernel) ?_
  refine lv_isub X.1 X.2.1 dX2_takeBack_34 ?_
  refine tb_putHi X hH 0 (by decide) wm_121 dX2_takeBack_35 (fun H locs hH => ?_)
  exact tb_rv X hr hlk hH (by rw [sz_X2_takeBack]) dX2_takeBack_38
set_option maxHeartbeats 1000000 in
set_option maxRecDepth 100000 in
theorem c_X3_clear (l : Launch) (g : tb_G) (z : tb_M)  : tb_Mv l yX3_clear cX3_clear 1 0 g z [.ref (tb_ad g 155)] (tb_up z 155 0 (nI (0))) := by
  refine tb_gov (own := RX3) (by decide +kernel) rfl (Nat.le_of_ble_eq_true rfl) ?_
  intro p e s m below meth c ls X hr hlk hH hl
  have hl : lv_has ls 1 [(0, .ref (tb_ad g (155)))] := hl
  refine lv_aload_n X.1 X.2.1 dX3_clear_0 rfl (lv_at hl 0 rfl) ?_
  refine lv_iconst (v := nI (0)) X.1 X.2.1 dX3_clear_1 (by decide +kernel) ?_
  refine tb_putP X hH wm_276 dX3_clear_2 (fun H locs hH => ?_)
  exact tb_rv X hr hlk hH rfl dX3_clear_5
def sr_X3_digitAt (z : tb_M) (k : Nat) : Int32 := if (¬ ((z 156 k) < (nI (48))) ∧ (¬ ((nI (57)) < (z 156 k)))) then ((z 156 k) - (nI (48))) else (if (¬ ((z 156 k) < (nI (97))) ∧ (¬ ((nI (102)) < (z 156 k)))) then (((z 156 k) - (nI (97))) + (nI (10))) else ((-1)))
set_option maxHeartbeats 1000000 in
set_option maxRecDepth 100000 in
theorem c_X3_digitAt (l : Launch) (g : tb_G) (z : tb_M) (k : Nat) (hk : k < 64) : tb_Mi (.int) l yX3_digitAt cX3_digitAt 3 1 g z [.ref (tb_ad g 155), .int (nI k)] (sr_X3_digitAt z k) (z) := by
  refine tb_goi (own := RX3) (by decide +kernel) rfl (Nat.le_of_ble_eq_true rfl) ?_
  intro p e s m below meth c ls X hr hlk hH hl
  have hl : lv_has ls 3 [(0, .ref (tb_ad g (155))), (1, .int (nI (k)))] := hl
  refine lv_iload_n X.1 X.2.1 dX3_digitAt_0 rfl (lv_at hl 1 rfl) ?_
  refine lv_iconst (v := nI (0)) X.1 X.2.1 dX3_digitAt_1 (by decide +kernel) ?_
  refine lv_bipush (v := nI (63)) X.1 X.2.1 dX3_digitAt_2 (by decide +kernel) ?_
  refine tb_cNi X hH hl.1 (c_X5_isWithin l g z (nI (k)) (nI (0)) (nI (63))) ky_X5_isWithin.1 ky_X5_isWithin.2 X.2.2.2.2.1.2.2.1.2.2.1 rfl rfl (Nat.le_of_ble_eq_true rfl) ⟨by decide, by decide⟩ ⟨by decide, by decide⟩ dX3_digitAt_4 (fun H locs hH => ?_)
  refine tb_jbeq (tgt := 19) X dX3_digitAt_7 (by decide) (fun c => (c ⟨nI_nlt (by omega) (by omega), nI_nlt (by omega) (by omega)⟩ : False).elim) (fun _ => ?_)
  refine lv_aload_n X.1 X.2.1 dX3_digitAt_10 rfl (lv_at hl 0 rfl) ?_
  refine tb_get X hH tb_Pc.1 (tb_Pc.2 _ _) rfl inlX3 1 (by decide) wm_94 (v := .ref (tb_ad g (156))) rfl dX3_digitAt_11 ?_
  refine lv_iload_n X.1 X.2.1 dX3_digitAt_14 rfl (lv_at hl 1 rfl) ?_
  refine tb_ald X hH tb_i156 (k) rfl (by omega) (by first | decide | omega) dX3_digitAt_15 ?_
  refine lv_goto (tgt := 20) X.1 X.2.1 dX3_digitAt_16 (by decide) ?_
  refine lv_istore_n (lv' := [(2, .int (z 156 k)), (0, .ref (tb_ad g (155))), (1, .int (nI (k)))]) X.1 X.2.1 dX3_digitAt_20 rfl hl (by decide) rfl (fun ls hl => ?_)
  refine lv_iload_n X.1 X.2.1 dX3_digitAt_21 rfl (lv_at hl 0 rfl) ?_
  refine lv_bipush (v := nI (48)) X.1 X.2.1 dX3_digitAt_22 (by decide +kernel) ?_
  refine lv_bipush (v := nI (57)) X.1 X.2.1 dX3_digitAt_24 (by decide +kernel) ?_
  refine tb_cNi X hH hl.1 (c_X5_isWithin l g z (z 156 k) (nI (48)) (nI (57))) ky_X5_isWithin.1 ky_X5_isWithin.2 X.2.2.2.2.1.2.2.1.2.2.1 rfl rfl (Nat.le_of_ble_eq_true rfl) ⟨by decide, by decide⟩ ⟨by decide, by decide⟩ dX3_digitAt_26 (fun H locs hH => ?_)
  refine tb_jbeq (tgt := 37) X dX3_digitAt_29 (by decide) (fun c_1 => ?_) (fun c_1 => ?_)
  · refine lv_iload_n X.1 X.2.1 dX3_digitAt_37 rfl (lv_at hl 0 rfl) ?_
    refine lv_bipush (v := nI (97)) X.1 X.2.1 dX3_digitAt_38 (by decide +kernel) ?_
    refine lv_bipush (v := nI (102)) X.1 X.2.1 dX3_digitAt_40 (by decide +kernel) ?_
    refine tb_cNi X hH hl.1 (c_X5_isWithin l g z (z 156 k) (nI (97)) (nI (102))) ky_X5_isWithin.1 ky_X5_isWithin.2 X.2.2.2.2.1.2.2.1.2.2.1 rfl rfl (Nat.le_of_ble_eq_true rfl) ⟨by decide, by decide⟩ ⟨by decide, by decide⟩ dX3_digitAt_42 (fun H locs hH => ?_)
    have J_1 : ∀ (H : Heap) (locs : List Loc) (ls : Array Slot) (vq1 : Int32), vq1 = (if (¬ ((z 156 k) < (nI (97))) ∧ (¬ ((nI (102)) < (z 156 k)))) then (((z 156 k) - (nI (97))) + (nI (10))) else ((-1))) → tb_H g s.heap z H locs → lv_has ls 3 [(2, .int (z 156 k)), (0, .ref (tb_ad g (155))), (1, .int (nI (k)))] → W p l e (tb_rm 1) s m ([.ref (tb_ad g 155), .int (nI k)] : List Value).toArray below meth c H locs 0 0 (MQ below (va_Qi (fun r9 u9 => r9 = sr_X3_digitAt z k ∧ u9 = z) (tb_B g) (tb_A g)) ([.ref (tb_ad g 155), .int (nI k)] : List Value).toArray s 0 0 (tb_A g)) (F0 m 59 ls [.int vq1]) := by
      intro H locs ls vq1 evq1 hH hl
      subst evq1
      exact tb_ri X hr hlk hH ⟨(by rw [sr_X3_digitAt]; simp only [if_neg c_1]), rfl⟩ dX3_digitAt_59
    refine tb_jbeq (tgt := 58) X dX3_digitAt_45 (by decide) (fun c_2 => ?_) (fun c_2 => ?_)
    · refine lv_iconst (v := (-1)) X.1 X.2.1 dX3_digitAt_58 (by decide +kernel) ?_
      exact J_1 _ _ _ _ (by simp only [if_neg c_2]) hH (lv_sub hl [0, 1, 2] rfl)
    · refine lv_iload_n X.1 X.2.1 dX3_digitAt_48 rfl (lv_at hl 0 rfl) ?_
      refine lv_bipush (v := nI (97)) X.1 X.2.1 dX3_digitAt_49 (by decide +kernel) ?_
      refine lv_isub X.1 X.2.1 dX3_digitAt_51 ?_
      refine lv_bipush (v := nI (10)) X.1 X.2.1 dX3_digitAt_52 (by decide +kernel) ?_
      refine lv_iadd X.1 X.2.1 dX3_digitAt_54 ?_
      refine lv_goto (tgt := 59) X.1 X.2.1 dX3_digitAt_55 (by decide) ?_
      exact J_1 _ _ _ _ (by simp only [if_pos c_2]) hH (lv_sub hl [0, 1, 2] rfl)
  · refine lv_iload_n X.1 X.2.1 dX3_digitAt_32 rfl (lv_at hl 0 rfl) ?_
    refine lv_bipush (v := nI (48)) X.1 X.2.1 dX3_digitAt_33 (by decide +kernel) ?_
    refine lv_isub X.1 X.2.1 dX3_digitAt_35 ?_
    exact tb_ri X hr hlk hH ⟨(by rw [sr_X3_digitAt]; simp only [if_pos c_1]), rfl⟩ dX3_digitAt_36
set_option maxHeartbeats 1000000 in
set_option maxRecDepth 100000 in
theorem c_X3_words (l : Launch) (g : tb_G) (z : tb_M) (n : Nat) (hn : z 155 0 = nI n) (hn2 : n ≤ 64) : tb_Mi (.int) l yX3_words cX3_words 1 0 g z [.ref (tb_ad g 155)] (nI (n / 2)) (z) := by
  refine tb_goi (own := RX3) (by decide +kernel) rfl (Nat.le_of_ble_eq_true rfl) ?_
  intro p e s m below meth c ls X hr hlk hH hl
  have hl : lv_has ls 1 [(0, .ref (tb_ad g (155)))] := hl
  refine lv_aload_n X.1 X.2.1 dX3_words_0 rfl (lv_at hl 0 rfl) ?_
  refine tb_get X hH tb_Pc.1 (tb_Pc.2 _ _) rfl inlX3 0 (by decide) wm_276 (v := .int (z 155 0)) rfl dX3_words_1 ?_
  refine tb_top (x2 := nI (n)) (hn) ?_
  refine lv_iconst (v := nI (2)) X.1 X.2.1 dX3_words_4 (by decide +kernel) ?_
  refine lv_idiv X.1 X.2.1 dX3_words_5 (by decide +kernel) ?_
  refine tb_top (x2 := nI (n / 2)) (pk_div (by omega) (by decide) (by decide)) ?_
  exact tb_ri X hr hlk hH ⟨rfl, rfl⟩ dX3_words_6
def sr_X3_wordAt (z : tb_M) (k : Nat) : Int32 := ((nI (16)) * ((sr_X3_digitAt z (2 * k)))) + ((sr_X3_digitAt z ((2 * k) + 1)))
set_option maxHeartbeats 1000000 in
set_option maxRecDepth 100000 in
theorem c_X3_wordAt (l : Launch) (g : tb_G) (z : tb_M) (k : Nat) (hk : k < 32) : tb_Mi (.int) l yX3_wordAt cX3_wordAt 2 2 g z [.ref (tb_ad g 155), .int (nI k)] (sr_X3_wordAt z k) (z) := by
  refine tb_goi (own := RX3) (by decide +kernel) rfl (Nat.le_of_ble_eq_true rfl) ?_
  intro p e s m below meth c ls X hr hlk hH hl
  have hl : lv_has ls 2 [(0, .ref (tb_ad g (155))), (1, .int (nI (k)))] := hl
  refine lv_bipush (v := nI (16)) X.1 X.2.1 dX3_wordAt_0 (by decide +kernel) ?_
  refine lv_aload_n X.1 X.2.1 dX3_wordAt_2 rfl (lv_at hl 0 rfl) ?_
  refine lv_iconst (v := nI (2)) X.1 X.2.1 dX3_wordAt_3 (by decide +kernel) ?_
  refine lv_iload_n X.1 X.2.1 dX3_wordAt_4 rfl (lv_at hl 1 rfl) ?_
  refine tb_imulN X dX3_wordAt_5 ?_
  refine tb_cVi X hH hl.1 (c_X3_digitAt l g z (2 * k) (by first | assumption | omega | decide)) ky_X3_digitAt.1 ky_X3_digitAt.2 wm_277 tb_oP rfl rfl (Nat.le_of_ble_eq_true rfl) ⟨by decide, by decide⟩ ⟨by decide, by decide⟩ dX3_wordAt_6 (fun H locs hH => ?_)
  refine lv_imul X.1 X.2.1 dX3_wordAt_9 ?_
  refine lv_aload_n X.1 X.2.1 dX3_wordAt_10 rfl (lv_at hl 0 rfl) ?_
  refine lv_iconst (v := nI (2)) X.1 X.2.1 dX3_wordAt_11 (by decide +kernel) ?_
  refine lv_iload_n X.1 X.2.1 dX3_wordAt_12 rfl (lv_at hl 1 rfl) ?_
  refine tb_imulN X dX3_wordAt_13 ?_
  refine lv_iconst (v := nI (1)) X.1 X.2.1 dX3_wordAt_14 (by decide +kernel) ?_
  refine tb_iaddN X dX3_wordAt_15 ?_
  refine tb_cVi X hH hl.1 (c_X3_digitAt l g z ((2 * k) + 1) (by first | assumption | omega | decide)) ky_X3_digitAt.1 ky_X3_digitAt.2 wm_277 tb_oP rfl rfl (Nat.le_of_ble_eq_true rfl) ⟨by decide, by decide⟩ ⟨by decide, by decide⟩ dX3_wordAt_16 (fun H locs hH => ?_)
  refine lv_iadd X.1 X.2.1 dX3_wordAt_19 ?_
  exact tb_ri X hr hlk hH ⟨(by rw [sr_X3_wordAt]), rfl⟩ dX3_wordAt_20
set_option maxHeartbeats 1000000 in
set_option maxRecDepth 100000 in
theorem c_X3_sumOfWords (l : Launch) (g : tb_G) (z : tb_M) (n : Nat) (hn : z 155 0 = nI n) (hn2 : n ≤ 64) : tb_Mi (.int) l yX3_sumOfWords cX3_sumOfWords 3 3 g z [.ref (tb_ad g 155)] (tb_sm (sr_X3_wordAt z) (n / 2)) (z) := by
  refine tb_goi (own := RX3) (by decide +kernel) rfl (Nat.le_of_ble_eq_true rfl) ?_
  intro p e s m below meth c ls X hr hlk hH hl
  have hl : lv_has ls 3 [(0, .ref (tb_ad g (155)))] := hl
  refine lv_iconst (v := nI (1)) X.1 X.2.1 dX3_sumOfWords_0 (by decide +kernel) ?_
  refine lv_istore_n (lv' := [(1, .int (nI (1))), (0, .ref (tb_ad g (155)))]) X.1 X.2.1 dX3_sumOfWords_1 rfl hl (by decide) rfl (fun ls hl => ?_)
  refine lv_iconst (v := nI (0)) X.1 X.2.1 dX3_sumOfWords_2 (by decide +kernel) ?_
  refine lv_istore_n (lv' := [(2, .int (nI (0))), (1, .int (nI (1))), (0, .ref (tb_ad g (155)))]) X.1 X.2.1 dX3_sumOfWords_3 rfl hl (by decide) rfl (fun ls hl => ?_)
  have L_4 : ∀ (k : Nat) (i : Nat), i + k = n / 2 → ∀ (H : Heap) (locs : List Loc) (ls : Array Slot), tb_H g s.heap (z) H locs → lv_has ls 3 [(0, .ref (tb_ad g (155))), (1, .int (tb_sm (sr_X3_wordAt z) i)), (2, .int (nI (i)))] → W p l e (tb_rm 3) s m ([.ref (tb_ad g 155)] : List Value).toArray below meth c H locs 0 0 (MQ below (va_Qi (fun r9 u9 => r9 = tb_sm (sr_X3_wordAt z) (n / 2) ∧ u9 = z) (tb_B g) (tb_A g)) ([.ref (tb_ad g 155)] : List Value).toArray s 0 0 (tb_A g)) (F0 m 4 ls []) := by
    intro k
    induction k with
    | zero =>
      intro i hik H locs ls hH hl
      refine lv_iload_n X.1 X.2.1 dX3_sumOfWords_4 rfl (lv_at hl 2 rfl) ?_
      refine lv_aload_n X.1 X.2.1 dX3_sumOfWords_5 rfl (lv_at hl 0 rfl) ?_
      refine tb_cVi X hH hl.1 (c_X3_words l g z n (by first | assumption | omega | decide) (by first | assumption | omega | decide)) ky_X3_words.1 ky_X3_words.2 wm_529 tb_oP rfl rfl (Nat.le_of_ble_eq_true rfl) ⟨by decide, by decide⟩ ⟨by decide, by decide⟩ dX3_sumOfWords_6 (fun H locs hH => ?_)
      refine tb_nge (tgt := 28) X (by omega) (by omega) dX3_sumOfWords_9 (by decide) (fun _ => ?_) (fun c => ((by omega) : False).elim)
      refine lv_iload_n X.1 X.2.1 dX3_sumOfWords_28 rfl (lv_at hl 1 rfl) ?_
      exact tb_ri X hr hlk hH ⟨(by rw [show i = n / 2 by omega]), rfl⟩ dX3_sumOfWords_29
    | succ k ih_4 =>
      intro i hik H locs ls hH hl
      refine lv_iload_n X.1 X.2.1 dX3_sumOfWords_4 rfl (lv_at hl 2 rfl) ?_
      refine lv_aload_n X.1 X.2.1 dX3_sumOfWords_5 rfl (lv_at hl 0 rfl) ?_
      refine tb_cVi X hH hl.1 (c_X3_words l g z n (by first | assumption | omega | decide) (by first | assumption | omega | decide)) ky_X3_words.1 ky_X3_words.2 wm_529 tb_oP rfl rfl (Nat.le_of_ble_eq_true rfl) ⟨by decide, by decide⟩ ⟨by decide, by decide⟩ dX3_sumOfWords_6 (fun H locs hH => ?_)
      refine tb_nge (tgt := 28) X (by omega) (by omega) dX3_sumOfWords_9 (by decide) (fun c => ((by omega) : False).elim) (fun _ => ?_)
      refine lv_iload_n X.1 X.2.1 dX3_sumOfWords_12 rfl (lv_at hl 1 rfl) ?_
      refine lv_aload_n X.1 X.2.1 dX3_sumOfWords_13 rfl (lv_at hl 0 rfl) ?_
      refine lv_iload_n X.1 X.2.1 dX3_sumOfWords_14 rfl (lv_at hl 2 rfl) ?_
      refine tb_cVi X hH hl.1 (c_X3_wordAt l g z i (by first | assumption | omega | decide)) ky_X3_wordAt.1 ky_X3_wordAt.2 wm_530 tb_oP rfl rfl (Nat.le_of_ble_eq_true rfl) ⟨by decide, by decide⟩ ⟨by decide, by decide⟩ dX3_sumOfWords_15 (fun H locs hH => ?_)
      refine tb_cNi X hH hl.1 (c_X5_sumWith l g z (tb_sm (sr_X3_wordAt z) i) ((sr_X3_wordAt z i))) ky_X5_sumWith.1 ky_X5_sumWith.2 X.2.2.2.2.1.2.2.1.2.2.2 rfl rfl (Nat.le_of_ble_eq_true rfl) ⟨by decide, by decide⟩ ⟨by decide, by decide⟩ dX3_sumOfWords_18 (fun H locs hH => ?_)
      refine lv_istore_n (lv' := [(1, .int ((tb_sw (tb_sm (sr_X3_wordAt z) i) ((sr_X3_wordAt z i))))), (0, .ref (tb_ad g (155))), (2, .int (nI (i)))]) X.1 X.2.1 dX3_sumOfWords_21 rfl hl (by decide) rfl (fun ls hl => ?_)
      refine lv_iinc (v := nI (i + 1)) (lv' := [(2, .int (nI (i + 1))), (1, .int ((tb_sw (tb_sm (sr_X3_wordAt z) i) ((sr_X3_wordAt z i))))), (0, .ref (tb_ad g (155)))]) X.1 X.2.1 dX3_sumOfWords_22 hl (k := 2) rfl (nI_add _ _) (by decide) rfl (fun ls hl => ?_)
      refine lv_goto (tgt := 4) X.1 X.2.1 dX3_sumOfWords_25 (by decide) ?_
      exact ih_4 (i + 1) (by omega) _ _ _ hH (lv_sub hl [2, 1, 0] rfl)
  exact L_4 (n / 2) 0 (by omega) _ _ _ hH (lv_sub hl [2, 1, 0] rfl)
set_option maxHeartbeats 1000000 in
set_option maxRecDepth 100000 in
theorem c_X3_firstFault (l : Launch) (g : tb_G) (z : tb_M) (n : Nat) (hn : z 155 0 = nI n) (hn2 : n ≤ 64) : tb_Mi (.int) l yX3_firstFault cX3_firstFault 2 2 g z [.ref (tb_ad g 155)] (tb_ff (sr_X3_digitAt z) (tb_tl n) n 0) (z) := by
  refine tb_goi (own := RX3) (by decide +kernel) rfl (Nat.le_of_ble_eq_true rfl) ?_
  intro p e s m below meth c ls X hr hlk hH hl
  have hl : lv_has ls 2 [(0, .ref (tb_ad g (155)))] := hl
  refine lv_iconst (v := nI (0)) X.1 X.2.1 dX3_firstFault_0 (by decide +kernel) ?_
  refine lv_istore_n (lv' := [(1, .int (nI (0))), (0, .ref (tb_ad g (155)))]) X.1 X.2.1 dX3_firstFault_1 rfl hl (by decide) rfl (fun ls hl => ?_)
  have L_2 : ∀ (k : Nat) (i : Nat), i + k = n → tb_ff (sr_X3_digitAt z) (tb_tl n) n 0 = tb_ff (sr_X3_digitAt z) (tb_tl n) k i → ∀ (H : Heap) (locs : List Loc) (ls : Array Slot), tb_H g s.heap (z) H locs → lv_has ls 2 [(0, .ref (tb_ad g (155))), (1, .int (nI (i)))] → W p l e (tb_rm 2) s m ([.ref (tb_ad g 155)] : List Value).toArray below meth c H locs 0 0 (MQ below (va_Qi (fun r9 u9 => r9 = tb_ff (sr_X3_digitAt z) (tb_tl n) n 0 ∧ u9 = z) (tb_B g) (tb_A g)) ([.ref (tb_ad g 155)] : List Value).toArray s 0 0 (tb_A g)) (F0 m 2 ls []) := by
    intro k
    induction k with
    | zero =>
      intro i hik hR H locs ls hH hl
      refine lv_iload_n X.1 X.2.1 dX3_firstFault_2 rfl (lv_at hl 1 rfl) ?_
      refine lv_aload_n X.1 X.2.1 dX3_firstFault_3 rfl (lv_at hl 0 rfl) ?_
      refine tb_get X hH tb_Pc.1 (tb_Pc.2 _ _) rfl inlX3 0 (by decide) wm_276 (v := .int (z 155 0)) rfl dX3_firstFault_4 ?_
      refine tb_top (x2 := nI (n)) (hn) ?_
      refine tb_nge (tgt := 32) X (by omega) (by omega) dX3_firstFault_7 (by decide) (fun _ => ?_) (fun c => ((by omega) : False).elim)
      refine lv_aload_n X.1 X.2.1 dX3_firstFault_32 rfl (lv_at hl 0 rfl) ?_
      refine tb_get X hH tb_Pc.1 (tb_Pc.2 _ _) rfl inlX3 0 (by decide) wm_276 (v := .int (z 155 0)) rfl dX3_firstFault_33 ?_
      refine tb_top (x2 := nI (n)) (hn) ?_
      have J_1 : ∀ (H : Heap) (locs : List Loc) (ls : Array Slot) (vq1 : Int32), vq1 = (if n = 0 then (nI (n)) else (if (n % 2) = 1 then (nI (n)) else ((-6)))) → tb_H g s.heap z H locs → lv_has ls 2 [(0, .ref (tb_ad g (155))), (1, .int (nI (i)))] → W p l e (tb_rm 2) s m ([.ref (tb_ad g 155)] : List Value).toArray below meth c H locs 0 0 (MQ below (va_Qi (fun r9 u9 => r9 = tb_ff (sr_X3_digitAt z) (tb_tl n) n 0 ∧ u9 = z) (tb_B g) (tb_A g)) ([.ref (tb_ad g 155)] : List Value).toArray s 0 0 (tb_A g)) (F0 m 58 ls [.int vq1]) := by
        intro H locs ls vq1 evq1 hH hl
        subst evq1
        exact tb_ri X hr hlk hH ⟨(by rw [hR, tb_ff, tb_tl]), rfl⟩ dX3_firstFault_58
      refine tb_zeq (tgt := 49) X (by omega) dX3_firstFault_36 (by decide) (fun c_1 => ?_) (fun c_1 => ?_)
      · refine lv_aload_n X.1 X.2.1 dX3_firstFault_49 rfl (lv_at hl 0 rfl) ?_
        refine tb_get X hH tb_Pc.1 (tb_Pc.2 _ _) rfl inlX3 0 (by decide) wm_276 (v := .int (z 155 0)) rfl dX3_firstFault_50 ?_
        refine tb_top (x2 := nI (n)) (hn) ?_
        refine lv_goto (tgt := 58) X.1 X.2.1 dX3_firstFault_53 (by decide) ?_
        exact J_1 _ _ _ _ (by simp only [if_pos c_1]) hH (lv_sub hl [0, 1] rfl)
      · refine lv_aload_n X.1 X.2.1 dX3_firstFault_39 rfl (lv_at hl 0 rfl) ?_
        refine tb_get X hH tb_Pc.1 (tb_Pc.2 _ _) rfl inlX3 0 (by decide) wm_276 (v := .int (z 155 0)) rfl dX3_firstFault_40 ?_
        refine tb_top (x2 := nI (n)) (hn) ?_
        refine lv_iconst (v := nI (2)) X.1 X.2.1 dX3_firstFault_43 (by decide +kernel) ?_
        refine lv_irem X.1 X.2.1 dX3_firstFault_44 (by decide +kernel) ?_
        refine tb_top (x2 := nI (n % 2)) (pk_rem (by omega) (by decide) (by decide)) ?_
        refine lv_iconst (v := nI (1)) X.1 X.2.1 dX3_firstFault_45 (by decide +kernel) ?_
        refine tb_nne (tgt := 56) X (by omega) (by omega) dX3_firstFault_46 (by decide) (fun c_2 => ?_) (fun c_2 => ?_)
        · refine lv_bipush (v := (-6)) X.1 X.2.1 dX3_firstFault_56 (by decide +kernel) ?_
          exact J_1 _ _ _ _ (by simp only [if_neg c_1, if_neg c_2]) hH (lv_sub hl [0, 1] rfl)
        · refine lv_aload_n X.1 X.2.1 dX3_firstFault_49 rfl (lv_at hl 0 rfl) ?_
          refine tb_get X hH tb_Pc.1 (tb_Pc.2 _ _) rfl inlX3 0 (by decide) wm_276 (v := .int (z 155 0)) rfl dX3_firstFault_50 ?_
          refine tb_top (x2 := nI (n)) (hn) ?_
          refine lv_goto (tgt := 58) X.1 X.2.1 dX3_firstFault_53 (by decide) ?_
          exact J_1 _ _ _ _ (by simp only [if_neg c_1, if_pos c_2]) hH (lv_sub hl [0, 1] rfl)
    | succ k ih_2 =>
      intro i hik hR H locs ls hH hl
      refine lv_iload_n X.1 X.2.1 dX3_firstFault_2 rfl (lv_at hl 1 rfl) ?_
      refine lv_aload_n X.1 X.2.1 dX3_firstFault_3 rfl (lv_at hl 0 rfl) ?_
      refine tb_get X hH tb_Pc.1 (tb_Pc.2 _ _) rfl inlX3 0 (by decide) wm_276 (v := .int (z 155 0)) rfl dX3_firstFault_4 ?_
      refine tb_top (x2 := nI (n)) (hn) ?_
      refine tb_nge (tgt := 32) X (by omega) (by omega) dX3_firstFault_7 (by decide) (fun c => ((by omega) : False).elim) (fun _ => ?_)
      refine lv_iload_n X.1 X.2.1 dX3_firstFault_10 rfl (lv_at hl 1 rfl) ?_
      refine lv_bipush (v := nI (64)) X.1 X.2.1 dX3_firstFault_11 (by decide +kernel) ?_
      refine tb_nge (tgt := 32) X (by omega) (by omega) dX3_firstFault_13 (by decide) (fun c => ((by omega) : False).elim) (fun _ => ?_)
      refine lv_aload_n X.1 X.2.1 dX3_firstFault_16 rfl (lv_at hl 0 rfl) ?_
      refine lv_iload_n X.1 X.2.1 dX3_firstFault_17 rfl (lv_at hl 1 rfl) ?_
      refine tb_cVi X hH hl.1 (c_X3_digitAt l g z i (by first | assumption | omega | decide)) ky_X3_digitAt.1 ky_X3_digitAt.2 wm_277 tb_oP rfl rfl (Nat.le_of_ble_eq_true rfl) ⟨by decide, by decide⟩ ⟨by decide, by decide⟩ dX3_firstFault_18 (fun H locs hH => ?_)
      refine lv_if_ge (tgt := 26) X.1 X.2.1 dX3_firstFault_21 (by decide) (fun c_3 => ?_) (fun c_3 => ?_)
      · refine lv_iinc (v := nI (i + 1)) (lv' := [(1, .int (nI (i + 1))), (0, .ref (tb_ad g (155)))]) X.1 X.2.1 dX3_firstFault_26 hl (k := 1) rfl (nI_add _ _) (by decide) rfl (fun ls hl => ?_)
        refine lv_goto (tgt := 2) X.1 X.2.1 dX3_firstFault_29 (by decide) ?_
        exact ih_2 (i + 1) (by omega) (by rw [hR, tb_ff, if_pos c_3]) _ _ _ hH (lv_sub hl [1, 0] rfl)
      · refine lv_iload_n X.1 X.2.1 dX3_firstFault_24 rfl (lv_at hl 1 rfl) ?_
        exact tb_ri X hr hlk hH ⟨(by rw [hR, tb_ff, if_neg c_3]), rfl⟩ dX3_firstFault_25
  exact L_2 n 0 (by omega) rfl _ _ _ hH (lv_sub hl [1, 0] rfl)
set_option maxHeartbeats 1000000 in
set_option maxRecDepth 100000 in
theorem c_X3_charactersIn (l : Launch) (g : tb_G) (z : tb_M) (x : Int64) : tb_Mi (.int) l yX3_charactersIn cX3_charactersIn 5 1 g z [.long x] (nI (tb_ci 8 x 0)) (z) := by
  refine tb_goi (own := RX3) (by decide +kernel) rfl (Nat.le_of_ble_eq_true rfl) ?_
  intro p e s m below meth c ls X hr hlk hH hl
  have hl : lv_has ls 5 [(0, .long (x))] := hl
  refine lv_lload_n X.1 X.2.1 dX3_charactersIn_0 rfl (lv_at hl 0 rfl) ?_
  refine lv_lstore_n (lv' := [(2, .long (x)), (0, .long (x))]) X.1 X.2.1 dX3_charactersIn_1 rfl hl (by decide) rfl (fun ls hl => ?_)
  refine lv_iconst (v := nI (0)) X.1 X.2.1 dX3_charactersIn_2 (by decide +kernel) ?_
  refine lv_istore (lv' := [(4, .int (nI (0))), (2, .long (x)), (0, .long (x))]) X.1 X.2.1 dX3_charactersIn_3 hl (by decide) rfl (fun ls hl => ?_)
  have L_5 : ∀ (k : Nat) (y : Int64) (f : Nat), f + k = 8 → tb_ci 8 x 0 = tb_ci k y f → ∀ (H : Heap) (locs : List Loc) (ls : Array Slot), tb_H g s.heap (z) H locs → lv_has ls 5 [(0, .long (x)), (2, .long (y)), (4, .int (nI (f)))] → W p l e (tb_rm 1) s m ([.long x] : List Value).toArray below meth c H locs 0 0 (MQ below (va_Qi (fun r9 u9 => r9 = nI (tb_ci 8 x 0) ∧ u9 = z) (tb_B g) (tb_A g)) ([.long x] : List Value).toArray s 0 0 (tb_A g)) (F0 m 5 ls []) := by
    intro k
    induction k with
    | zero =>
      intro y f hfk hR H locs ls hH hl
      refine lv_iload X.1 X.2.1 dX3_charactersIn_5 (lv_at hl 2 rfl) ?_
      refine lv_bipush (v := nI (8)) X.1 X.2.1 dX3_charactersIn_7 (by decide +kernel) ?_
      refine tb_nge (tgt := 39) X (by omega) (by omega) dX3_charactersIn_9 (by decide) (fun _ => ?_) (fun c => ((by omega) : False).elim)
      refine lv_lload_n X.1 X.2.1 dX3_charactersIn_39 rfl (lv_at hl 1 rfl) ?_
      refine lv_lconst (v := 0) X.1 X.2.1 dX3_charactersIn_40 (by decide +kernel) ?_
      refine W.lcmp X.1 X.2.1 dX3_charactersIn_41 ?_
      have J_1 : ∀ (H : Heap) (locs : List Loc) (ls : Array Slot) (vq1 : Int32), vq1 = (nI (if y = ((0 : Int64)) then f else 0)) → tb_H g s.heap z H locs → lv_has ls 5 [(0, .long (x)), (2, .long (y)), (4, .int (nI (f)))] → W p l e (tb_rm 1) s m ([.long x] : List Value).toArray below meth c H locs 0 0 (MQ below (va_Qi (fun r9 u9 => r9 = nI (tb_ci 8 x 0) ∧ u9 = z) (tb_B g) (tb_A g)) ([.long x] : List Value).toArray s 0 0 (tb_A g)) (F0 m 51 ls [.int vq1]) := by
        intro H locs ls vq1 evq1 hH hl
        subst evq1
        exact tb_ri X hr hlk hH ⟨(by rw [hR, tb_ci]), rfl⟩ dX3_charactersIn_51
      refine tb_jlne (tgt := 50) X dX3_charactersIn_42 (by decide) (fun c_1 => ?_) (fun c_1 => ?_)
      · refine lv_iconst (v := nI (0)) X.1 X.2.1 dX3_charactersIn_50 (by decide +kernel) ?_
        exact J_1 _ _ _ _ (by simp only [if_neg c_1]) hH (lv_sub hl [0, 1, 2] rfl)
      · refine lv_iload X.1 X.2.1 dX3_charactersIn_45 (lv_at hl 2 rfl) ?_
        refine lv_goto (tgt := 51) X.1 X.2.1 dX3_charactersIn_47 (by decide) ?_
        exact J_1 _ _ _ _ (by simp only [if_pos c_1]) hH (lv_sub hl [0, 1, 2] rfl)
    | succ k ih_5 =>
      intro y f hfk hR H locs ls hH hl
      refine lv_iload X.1 X.2.1 dX3_charactersIn_5 (lv_at hl 2 rfl) ?_
      refine lv_bipush (v := nI (8)) X.1 X.2.1 dX3_charactersIn_7 (by decide +kernel) ?_
      refine tb_nge (tgt := 39) X (by omega) (by omega) dX3_charactersIn_9 (by decide) (fun c => ((by omega) : False).elim) (fun _ => ?_)
      refine lv_lload_n X.1 X.2.1 dX3_charactersIn_12 rfl (lv_at hl 1 rfl) ?_
      refine lv_ldc2 X.1 X.2.1 X.2.2.2.1 (X.2.2.1 _ wm_584) dX3_charactersIn_13 ?_
      refine lv_land X.1 X.2.1 dX3_charactersIn_16 ?_
      refine lv_l2i X.1 X.2.1 dX3_charactersIn_17 (v := (y &&& ((255 : Int64))).toInt32) rfl ?_
      refine lv_bipush (v := nI (33)) X.1 X.2.1 dX3_charactersIn_18 (by decide +kernel) ?_
      refine lv_bipush (v := nI (126)) X.1 X.2.1 dX3_charactersIn_20 (by decide +kernel) ?_
      refine tb_cNi X hH hl.1 (c_X5_isWithin l g z ((y &&& ((255 : Int64))).toInt32) (nI (33)) (nI (126))) ky_X5_isWithin.1 ky_X5_isWithin.2 X.2.2.2.2.1.2.2.1.2.2.1 rfl rfl (Nat.le_of_ble_eq_true rfl) ⟨by decide, by decide⟩ ⟨by decide, by decide⟩ dX3_charactersIn_22 (fun H locs hH => ?_)
      refine tb_jbeq (tgt := 39) X dX3_charactersIn_25 (by decide) (fun c_2 => ?_) (fun c_2 => ?_)
      · refine lv_lload_n X.1 X.2.1 dX3_charactersIn_39 rfl (lv_at hl 1 rfl) ?_
        refine lv_lconst (v := 0) X.1 X.2.1 dX3_charactersIn_40 (by decide +kernel) ?_
        refine W.lcmp X.1 X.2.1 dX3_charactersIn_41 ?_
        have J_2 : ∀ (H : Heap) (locs : List Loc) (ls : Array Slot) (vq1 : Int32), vq1 = (nI (if y = ((0 : Int64)) then f else 0)) → tb_H g s.heap z H locs → lv_has ls 5 [(0, .long (x)), (2, .long (y)), (4, .int (nI (f)))] → W p l e (tb_rm 1) s m ([.long x] : List Value).toArray below meth c H locs 0 0 (MQ below (va_Qi (fun r9 u9 => r9 = nI (tb_ci 8 x 0) ∧ u9 = z) (tb_B g) (tb_A g)) ([.long x] : List Value).toArray s 0 0 (tb_A g)) (F0 m 51 ls [.int vq1]) := by
          intro H locs ls vq1 evq1 hH hl
          subst evq1
          exact tb_ri X hr hlk hH ⟨(by rw [hR, tb_ci, if_neg c_2]), rfl⟩ dX3_charactersIn_51
        refine tb_jlne (tgt := 50) X dX3_charactersIn_42 (by decide) (fun c_3 => ?_) (fun c_3 => ?_)
        · refine lv_iconst (v := nI (0)) X.1 X.2.1 dX3_charactersIn_50 (by decide +kernel) ?_
          exact J_2 _ _ _ _ (by simp only [if_neg c_3]) hH (lv_sub hl [0, 1, 2] rfl)
        · refine lv_iload X.1 X.2.1 dX3_charactersIn_45 (lv_at hl 2 rfl) ?_
          refine lv_goto (tgt := 51) X.1 X.2.1 dX3_charactersIn_47 (by decide) ?_
          exact J_2 _ _ _ _ (by simp only [if_pos c_3]) hH (lv_sub hl [0, 1, 2] rfl)
      · refine lv_lload_n X.1 X.2.1 dX3_charactersIn_28 rfl (lv_at hl 1 rfl) ?_
        refine lv_bipush (v := nI (8)) X.1 X.2.1 dX3_charactersIn_29 (by decide +kernel) ?_
        refine lv_lushr X.1 X.2.1 dX3_charactersIn_31 (v := tb_ushr y (nI (8))) rfl ?_
        refine lv_lstore_n (lv' := [(2, .long (tb_ushr y (nI (8)))), (0, .long (x)), (4, .int (nI (f)))]) X.1 X.2.1 dX3_charactersIn_32 rfl hl (by decide) rfl (fun ls hl => ?_)
        refine lv_iinc (v := nI (f + 1)) (lv' := [(4, .int (nI (f + 1))), (2, .long (tb_ushr y (nI (8)))), (0, .long (x))]) X.1 X.2.1 dX3_charactersIn_33 hl (k := 2) rfl (nI_add _ _) (by decide) rfl (fun ls hl => ?_)
        refine lv_goto (tgt := 5) X.1 X.2.1 dX3_charactersIn_36 (by decide) ?_
        exact ih_5 (tb_ushr y (nI 8)) (f + 1) (by omega) (by rw [hR, tb_ci, if_pos c_2]) _ _ _ hH (lv_sub hl [2, 1, 0] rfl)
  exact L_5 8 x 0 rfl rfl _ _ _ hH (lv_sub hl [2, 1, 0] rfl)
set_option maxHeartbeats 1000000 in
set_option maxRecDepth 100000 in
theorem c_X3_append (l : Launch) (g : tb_G) (z : tb_M) (x : Int64) (b : Nat) (n : Nat) (hn : z 155 0 = nI n) (hb : 1 ≤ b) (hnb : n + b ≤ 64) : tb_Mv l yX3_append cX3_append 5 0 g z [.ref (tb_ad g 155), .long x, .int (nI b)] (tb_ap z x n b b) := by
  refine tb_gov (own := RX3) (by decide +kernel) rfl (Nat.le_of_ble_eq_true rfl) ?_
  intro p e s m below meth c ls X hr hlk hH hl
  have hl : lv_has ls 5 [(0, .ref (tb_ad g (155))), (1, .long (x)), (3, .int (nI (b)))] := hl
  refine lv_iload_n X.1 X.2.1 dX3_append_0 rfl (lv_at hl 2 rfl) ?_
  refine lv_iconst (v := nI (1)) X.1 X.2.1 dX3_append_1 (by decide +kernel) ?_
  refine tb_isubN X (by omega) dX3_append_2 ?_
  refine tb_top (x2 := tb_pr b) (tb_pr_of hb) ?_
  refine lv_istore (lv' := [(4, .int (tb_pr b)), (0, .ref (tb_ad g (155))), (1, .long (x)), (3, .int (nI (b)))]) X.1 X.2.1 dX3_append_3 hl (by decide) rfl (fun ls hl => ?_)
  have L_5 : ∀ (k : Nat) (j : Nat), j + k = b → ∀ (H : Heap) (locs : List Loc) (ls : Array Slot), tb_H g s.heap (tb_ap z x n b j) H locs → lv_has ls 5 [(0, .ref (tb_ad g (155))), (1, .long (x)), (3, .int (nI (b))), (4, .int (tb_pr k))] → W p l e (tb_rm 0) s m ([.ref (tb_ad g 155), .long x, .int (nI b)] : List Value).toArray below meth c H locs 0 0 (MQ below (va_Qv (fun u9 => u9 = (tb_ap z x n b b)) (tb_B g) (tb_A g)) ([.ref (tb_ad g 155), .long x, .int (nI b)] : List Value).toArray s 0 0 (tb_A g)) (F0 m 5 ls []) := by
    intro k
    induction k with
    | zero =>
      intro j hjk H locs ls hH hl
      have hl : lv_has ls 5 [(0, .ref (tb_ad g (155))), (1, .long (x)), (3, .int (nI (b))), (4, .int ((-1)))] := hl
      refine lv_iload X.1 X.2.1 dX3_append_5 (lv_at hl 3 rfl) ?_
      refine lv_if_lt (tgt := 56) X.1 X.2.1 dX3_append_7 (by decide) (fun _ => ?_) (fun c => (c (by decide +kernel) : False).elim)
      exact tb_rv X hr hlk hH (by rw [show j = b by omega]) dX3_append_56
    | succ k ih_5 =>
      intro j hjk H locs ls hH hl
      have hl : lv_has ls 5 [(0, .ref (tb_ad g (155))), (1, .long (x)), (3, .int (nI (b))), (4, .int (nI (k)))] := hl
      refine lv_iload X.1 X.2.1 dX3_append_5 (lv_at hl 3 rfl) ?_
      refine lv_if_lt (tgt := 56) X.1 X.2.1 dX3_append_7 (by decide) (fun c => (absurd c (nI_pos (by omega)) : False).elim) (fun _ => ?_)
      refine lv_aload_n X.1 X.2.1 dX3_append_10 rfl (lv_at hl 0 rfl) ?_
      refine tb_get X hH tb_Pc.1 (tb_Pc.2 _ _) rfl inlX3 0 (by decide) wm_276 (v := .int ((tb_ap z x n b j) 155 0)) rfl dX3_append_11 ?_
      refine tb_top (x2 := nI (n + j)) (tb_ap_len _ _ hn _) ?_
      refine lv_bipush (v := nI (64)) X.1 X.2.1 dX3_append_14 (by decide +kernel) ?_
      refine tb_nge (tgt := 56) X (by omega) (by omega) dX3_append_16 (by decide) (fun c => ((by omega) : False).elim) (fun _ => ?_)
      refine lv_aload_n X.1 X.2.1 dX3_append_19 rfl (lv_at hl 0 rfl) ?_
      refine tb_get X hH tb_Pc.1 (tb_Pc.2 _ _) rfl inlX3 1 (by decide) wm_94 (v := .ref (tb_ad g (156))) rfl dX3_append_20 ?_
      refine lv_aload_n X.1 X.2.1 dX3_append_23 rfl (lv_at hl 0 rfl) ?_
      refine tb_get X hH tb_Pc.1 (tb_Pc.2 _ _) rfl inlX3 0 (by decide) wm_276 (v := .int ((tb_ap z x n b j) 155 0)) rfl dX3_append_24 ?_
      refine tb_top (x2 := nI (n + j)) (tb_ap_len _ _ hn _) ?_
      refine lv_lload_n X.1 X.2.1 dX3_append_27 rfl (lv_at hl 1 rfl) ?_
      refine lv_bipush (v := nI (8)) X.1 X.2.1 dX3_append_28 (by decide +kernel) ?_
      refine lv_iload X.1 X.2.1 dX3_append_30 (lv_at hl 3 rfl) ?_
      refine tb_imulN X dX3_append_32 ?_
      refine lv_lushr X.1 X.2.1 dX3_append_33 (v := tb_ushr x (nI (8 * k))) rfl ?_
      refine lv_ldc2 X.1 X.2.1 X.2.2.2.1 (X.2.2.1 _ wm_584) dX3_append_34 ?_
      refine lv_land X.1 X.2.1 dX3_append_37 ?_
      refine lv_l2i X.1 X.2.1 dX3_append_38 (v := ((tb_ushr x (nI (8 * k))) &&& ((255 : Int64))).toInt32) rfl ?_
      refine tb_ast X hH tb_i156 (n + j) rfl (by omega) (by first | decide | omega) dX3_append_39 (fun H locs hH => ?_)
      refine lv_aload_n X.1 X.2.1 dX3_append_40 rfl (lv_at hl 0 rfl) ?_
      refine lv_dup X.1 X.2.1 dX3_append_41 rfl ?_
      refine tb_get X hH tb_Pc.1 (tb_Pc.2 _ _) rfl inlX3 0 (by decide) wm_276 (v := .int ((tb_up (tb_ap z x n b j) 156 (n + j) (((tb_ushr x (nI (8 * k))) &&& ((255 : Int64))).toInt32)) 155 0)) rfl dX3_append_42 ?_
      refine tb_top (x2 := nI (n + j)) (by rw [tb_up_k _ _ _ (by decide)]; exact tb_ap_len _ _ hn _) ?_
      refine lv_iconst (v := nI (1)) X.1 X.2.1 dX3_append_45 (by decide +kernel) ?_
      refine tb_iaddN X dX3_append_46 ?_
      refine tb_putP X hH wm_276 dX3_append_47 (fun H locs hH => ?_)
      refine lv_iinc (v := tb_pr k) (lv' := [(4, .int (tb_pr k)), (0, .ref (tb_ad g (155))), (1, .long (x)), (3, .int (nI (b)))]) X.1 X.2.1 dX3_append_50 hl (k := 3) rfl (tb_pr_dec k) (by decide) rfl (fun ls hl => ?_)
      refine lv_goto (tgt := 5) X.1 X.2.1 dX3_append_53 (by decide) ?_
      exact ih_5 (j + 1) (by omega) _ _ _ (by have e9 : k = b - 1 - j := (by omega); subst e9; exact hH) (lv_sub hl [1, 2, 3, 0] rfl)
  exact L_5 b 0 (by omega) _ _ _ hH (lv_sub hl [1, 2, 3, 0] rfl)
