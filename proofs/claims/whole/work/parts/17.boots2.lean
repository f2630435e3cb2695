def sr_X5_slot (z : tb_M) (sl : Nat) (w : Int32) : Int32 := if w = nI 0 then (z ((tb_at 0 sl)) 0) else (if w = nI 1 then (z ((tb_at 0 sl)) 1) else (if w = nI 2 then (z ((tb_at 0 sl)) 2) else (if w = nI 3 then (z ((tb_at 0 sl)) 3) else (if w = nI 4 then (z ((tb_at 0 sl)) 4) else (if w = nI 5 then (z ((tb_at 0 sl)) 5) else (if w = nI 6 then (if (z ((tb_at 0 sl)) 2) = 0 then ((-6)) else ((tb_sm (z (((tb_at 0 sl)) + 1)) (tb_len z ((tb_at 0 sl)))))) else (if w = nI 7 then ((tb_gw (z (((tb_at 0 sl)) + 2)) 8)) else (if w = nI 8 then ((tb_wo (z (((tb_at 0 sl)) + 2)) (z 1 2) 8)) else ((-2))))))))))
set_option maxHeartbeats 1000000 in
set_option maxRecDepth 100000 in
theorem c_X5_slot (l : Launch) (g : tb_G) (z : tb_M) (sl : Nat) (w : Int32) (hsl : sl < 2) (hL : tb_okL z (tb_at 0 sl)) : tb_Mi (.int) l yX5_slot cX5_slot 4 2 g z [.ref (tb_ad g 150), .int (nI sl), .int w] (sr_X5_slot z sl w) (z) := by
  refine tb_goi (own := RX5) (by decide +kernel) rfl (Nat.le_of_ble_eq_true rfl) ?_
  intro p e s m below meth c ls X hr hlk hH hl
  have hl : lv_has ls 4 [(0, .ref (tb_ad g (150))), (1, .int (nI (sl))), (2, .int (w))] := hl
  refine lv_iload_n X.1 X.2.1 dX5_slot_0 rfl (lv_at hl 1 rfl) ?_
  refine tb_cSi X hH hl.1 (c_X5_isSlot l g z (nI (sl))) ky_X5_isSlot.1 ky_X5_isSlot.2 wm_179 rfl rfl (Nat.le_of_ble_eq_true rfl) ⟨by decide, by decide⟩ ⟨by decide, by decide⟩ dX5_slot_1 (fun H locs hH => ?_)
  refine tb_jbne (tgt := 9) X dX5_slot_4 (by decide) (fun _ => ?_) (fun c => (c ⟨nI_nlt (by omega) (by omega), nI_nlt (by omega) (by omega)⟩ : False).elim)
  refine lv_aload_n X.1 X.2.1 dX5_slot_9 rfl (lv_at hl 0 rfl) ?_
  refine tb_get X hH tb_Tc.1 (tb_Tc.2 _ _) rfl inlX5 0 (by decide) wm_16 (v := .ref (tb_ad g (0))) rfl dX5_slot_10 ?_
  refine lv_iload_n X.1 X.2.1 dX5_slot_13 rfl (lv_at hl 1 rfl) ?_
  refine tb_cVr X hH hl.1 (c_X1_areaAt l g z 0 tb_D0 sl (by omega)) ky_X1_areaAt.1 ky_X1_areaAt.2 wm_204 (tb_oD tb_D0) rfl rfl (Nat.le_of_ble_eq_true rfl) ⟨by decide, by decide⟩ ⟨by decide, by decide⟩ dX5_slot_14 (fun H locs hH => ?_)
  refine lv_astore_n (lv' := [(3, .ref (tb_ad g ((tb_at 0 sl)))), (0, .ref (tb_ad g (150))), (1, .int (nI (sl))), (2, .int (w))]) X.1 X.2.1 dX5_slot_17 rfl hl (by decide) rfl (fun ls hl => ?_)
  refine lv_iload_n X.1 X.2.1 dX5_slot_18 rfl (lv_at hl 3 rfl) ?_
  by_cases c_1 : w = nI 0
  · refine lv_tableIn (off := 49) (tgt := 68) X.1 X.2.1 dX5_slot_19 (by rw [c_1]; decide +kernel) (by rw [c_1]; decide +kernel) (by rw [c_1]; decide +kernel) (by decide) ?_
    refine lv_aload_n X.1 X.2.1 dX5_slot_68 rfl (lv_at hl 0 rfl) ?_
    refine tb_get X hH (tb_Ac (tb_isat tb_D0 sl)).1 ((tb_Ac (tb_isat tb_D0 sl)).2 _ _) rfl inlX0 0 (by decide) wm_245 (v := .int (z ((tb_at 0 sl)) 0)) rfl dX5_slot_69 ?_
    exact tb_ri X hr hlk hH ⟨(by rw [sr_X5_slot]; simp only [if_pos c_1]), rfl⟩ dX5_slot_72
  · by_cases c_2 : w = nI 1
    · refine lv_tableIn (off := 54) (tgt := 73) X.1 X.2.1 dX5_slot_19 (by rw [c_2]; decide +kernel) (by rw [c_2]; decide +kernel) (by rw [c_2]; decide +kernel) (by decide) ?_
      refine lv_aload_n X.1 X.2.1 dX5_slot_73 rfl (lv_at hl 0 rfl) ?_
      refine tb_get X hH (tb_Ac (tb_isat tb_D0 sl)).1 ((tb_Ac (tb_isat tb_D0 sl)).2 _ _) rfl inlX0 1 (by decide) wm_459 (v := .int (z ((tb_at 0 sl)) 1)) rfl dX5_slot_74 ?_
      exact tb_ri X hr hlk hH ⟨(by rw [sr_X5_slot]; simp only [if_neg c_1, if_pos c_2]), rfl⟩ dX5_slot_77
    · by_cases c_3 : w = nI 2
      · refine lv_tableIn (off := 59) (tgt := 78) X.1 X.2.1 dX5_slot_19 (by rw [c_3]; decide +kernel) (by rw [c_3]; decide +kernel) (by rw [c_3]; decide +kernel) (by decide) ?_
        refine lv_aload_n X.1 X.2.1 dX5_slot_78 rfl (lv_at hl 0 rfl) ?_
        refine tb_get X hH (tb_Ac (tb_isat tb_D0 sl)).1 ((tb_Ac (tb_isat tb_D0 sl)).2 _ _) rfl inlX0 2 (by decide) wm_460 (v := .int (z ((tb_at 0 sl)) 2)) rfl dX5_slot_79 ?_
        exact tb_ri X hr hlk hH ⟨(by rw [sr_X5_slot]; simp only [if_neg c_1, if_neg c_2, if_pos c_3]), rfl⟩ dX5_slot_82
      · by_cases c_4 : w = nI 3
        · refine lv_tableIn (off := 64) (tgt := 83) X.1 X.2.1 dX5_slot_19 (by rw [c_4]; decide +kernel) (by rw [c_4]; decide +kernel) (by rw [c_4]; decide +kernel) (by decide) ?_
          refine lv_aload_n X.1 X.2.1 dX5_slot_83 rfl (lv_at hl 0 rfl) ?_
          refine tb_get X hH (tb_Ac (tb_isat tb_D0 sl)).1 ((tb_Ac (tb_isat tb_D0 sl)).2 _ _) rfl inlX0 3 (by decide) wm_461 (v := .int (z ((tb_at 0 sl)) 3)) rfl dX5_slot_84 ?_
          exact tb_ri X hr hlk hH ⟨(by rw [sr_X5_slot]; simp only [if_neg c_1, if_neg c_2, if_neg c_3, if_pos c_4]), rfl⟩ dX5_slot_87
        · by_cases c_5 : w = nI 4
          · refine lv_tableIn (off := 69) (tgt := 88) X.1 X.2.1 dX5_slot_19 (by rw [c_5]; decide +kernel) (by rw [c_5]; decide +kernel) (by rw [c_5]; decide +kernel) (by decide) ?_
            refine lv_aload_n X.1 X.2.1 dX5_slot_88 rfl (lv_at hl 0 rfl) ?_
            refine tb_get X hH (tb_Ac (tb_isat tb_D0 sl)).1 ((tb_Ac (tb_isat tb_D0 sl)).2 _ _) rfl inlX0 4 (by decide) wm_313 (v := .int (z ((tb_at 0 sl)) 4)) rfl dX5_slot_89 ?_
            exact tb_ri X hr hlk hH ⟨(by rw [sr_X5_slot]; simp only [if_neg c_1, if_neg c_2, if_neg c_3, if_neg c_4, if_pos c_5]), rfl⟩ dX5_slot_92
          · by_cases c_6 : w = nI 5
            · refine lv_tableIn (off := 74) (tgt := 93) X.1 X.2.1 dX5_slot_19 (by rw [c_6]; decide +kernel) (by rw [c_6]; decide +kernel) (by rw [c_6]; decide +kernel) (by decide) ?_
              refine lv_aload_n X.1 X.2.1 dX5_slot_93 rfl (lv_at hl 0 rfl) ?_
              refine tb_get X hH (tb_Ac (tb_isat tb_D0 sl)).1 ((tb_Ac (tb_isat tb_D0 sl)).2 _ _) rfl inlX0 5 (by decide) wm_246 (v := .int (z ((tb_at 0 sl)) 5)) rfl dX5_slot_94 ?_
              exact tb_ri X hr hlk hH ⟨(by rw [sr_X5_slot]; simp only [if_neg c_1, if_neg c_2, if_neg c_3, if_neg c_4, if_neg c_5, if_pos c_6]), rfl⟩ dX5_slot_97
            · by_cases c_7 : w = nI 6
              · refine lv_tableIn (off := 79) (tgt := 98) X.1 X.2.1 dX5_slot_19 (by rw [c_7]; decide +kernel) (by rw [c_7]; decide +kernel) (by rw [c_7]; decide +kernel) (by decide) ?_
                refine lv_aload_n X.1 X.2.1 dX5_slot_98 rfl (lv_at hl 0 rfl) ?_
                refine tb_get X hH (tb_Ac (tb_isat tb_D0 sl)).1 ((tb_Ac (tb_isat tb_D0 sl)).2 _ _) rfl inlX0 2 (by decide) wm_460 (v := .int (z ((tb_at 0 sl)) 2)) rfl dX5_slot_99 ?_
                have J_1 : ∀ (H : Heap) (locs : List Loc) (ls : Array Slot) (vq1 : Int32), vq1 = (if (z ((tb_at 0 sl)) 2) = 0 then ((-6)) else ((tb_sm (z (((tb_at 0 sl)) + 1)) (tb_len z ((tb_at 0 sl)))))) → tb_H g s.heap z H locs → lv_has ls 4 [(3, .ref (tb_ad g ((tb_at 0 sl)))), (0, .ref (tb_ad g (150))), (1, .int (nI (sl))), (2, .int (w))] → W p l e (tb_rm 2) s m ([.ref (tb_ad g 150), .int (nI sl), .int w] : List Value).toArray below meth c H locs 0 0 (MQ below (va_Qi (fun r9 u9 => r9 = sr_X5_slot z sl w ∧ u9 = z) (tb_B g) (tb_A g)) ([.ref (tb_ad g 150), .int (nI sl), .int w] : List Value).toArray s 0 0 (tb_A g)) (F0 m 114 ls [.int vq1]) := by
                  intro H locs ls vq1 evq1 hH hl
                  subst evq1
                  exact tb_ri X hr hlk hH ⟨(by rw [sr_X5_slot]; simp only [if_neg c_1, if_neg c_2, if_neg c_3, if_neg c_4, if_neg c_5, if_neg c_6, if_pos c_7]), rfl⟩ dX5_slot_114
                refine lv_if_ne (tgt := 110) X.1 X.2.1 dX5_slot_102 (by decide) (fun c_10 => ?_) (fun c_10 => ?_)
                · refine lv_aload_n X.1 X.2.1 dX5_slot_110 rfl (lv_at hl 0 rfl) ?_
                  refine tb_cVi X hH hl.1 (c_X0_sumOfImage l g z ((tb_at 0 sl)) (tb_isat tb_D0 sl) hL) ky_X0_sumOfImage.1 ky_X0_sumOfImage.2 wm_462 (tb_oA (tb_isat tb_D0 sl)) rfl rfl (Nat.le_of_ble_eq_true rfl) ⟨by decide, by decide⟩ ⟨by decide, by decide⟩ dX5_slot_111 (fun H locs hH => ?_)
                  exact J_1 _ _ _ _ (by simp only [if_neg c_10]) hH (lv_sub hl [0, 1, 2, 3] rfl)
                · refine lv_bipush (v := (-6)) X.1 X.2.1 dX5_slot_105 (by decide +kernel) ?_
                  refine lv_goto (tgt := 114) X.1 X.2.1 dX5_slot_107 (by decide) ?_
                  exact J_1 _ _ _ _ (by simp only [if_pos c_10]) hH (lv_sub hl [0, 1, 2, 3] rfl)
              · by_cases c_8 : w = nI 7
                · refine lv_tableIn (off := 96) (tgt := 115) X.1 X.2.1 dX5_slot_19 (by rw [c_8]; decide +kernel) (by rw [c_8]; decide +kernel) (by rw [c_8]; decide +kernel) (by decide) ?_
                  refine lv_aload_n X.1 X.2.1 dX5_slot_115 rfl (lv_at hl 0 rfl) ?_
                  refine lv_bipush (v := nI (8)) X.1 X.2.1 dX5_slot_116 (by decide +kernel) ?_
                  refine tb_cVi X hH hl.1 (c_X0_greatestWear l g z ((tb_at 0 sl)) (tb_isat tb_D0 sl) 8 (by decide)) ky_X0_greatestWear.1 ky_X0_greatestWear.2 wm_210 (tb_oA (tb_isat tb_D0 sl)) rfl rfl (Nat.le_of_ble_eq_true rfl) ⟨by decide, by decide⟩ ⟨by decide, by decide⟩ dX5_slot_118 (fun H locs hH => ?_)
                  exact tb_ri X hr hlk hH ⟨(by rw [sr_X5_slot]; simp only [if_neg c_1, if_neg c_2, if_neg c_3, if_neg c_4, if_neg c_5, if_neg c_6, if_neg c_7, if_pos c_8]), rfl⟩ dX5_slot_121
                · by_cases c_9 : w = nI 8
                  · refine lv_tableIn (off := 103) (tgt := 122) X.1 X.2.1 dX5_slot_19 (by rw [c_9]; decide +kernel) (by rw [c_9]; decide +kernel) (by rw [c_9]; decide +kernel) (by decide) ?_
                    refine lv_aload_n X.1 X.2.1 dX5_slot_122 rfl (lv_at hl 0 rfl) ?_
                    refine lv_aload_n X.1 X.2.1 dX5_slot_123 rfl (lv_at hl 1 rfl) ?_
                    refine tb_get X hH tb_Tc.1 (tb_Tc.2 _ _) rfl inlX5 0 (by decide) wm_16 (v := .ref (tb_ad g (0))) rfl dX5_slot_124 ?_
                    refine tb_get X hH (tb_Dc tb_D0).1 ((tb_Dc tb_D0).2 _ _) rfl inlX1 0 (by decide) wm_114 (v := .ref (tb_ad g (1))) rfl dX5_slot_127 ?_
                    refine lv_iconst (v := nI (2)) X.1 X.2.1 dX5_slot_130 (by decide +kernel) ?_
                    refine tb_ald X hH (tb_iset tb_D0) (2) rfl (by decide) (by first | decide | omega) dX5_slot_131 ?_
                    refine tb_cVi X hH hl.1 (c_X0_wornOutPages l g z ((tb_at 0 sl)) (tb_isat tb_D0 sl) (z 1 2)) ky_X0_wornOutPages.1 ky_X0_wornOutPages.2 wm_463 (tb_oA (tb_isat tb_D0 sl)) rfl rfl (Nat.le_of_ble_eq_true rfl) ⟨by decide, by decide⟩ ⟨by decide, by decide⟩ dX5_slot_132 (fun H locs hH => ?_)
                    exact tb_ri X hr hlk hH ⟨(by rw [sr_X5_slot]; simp only [if_neg c_1, if_neg c_2, if_neg c_3, if_neg c_4, if_neg c_5, if_neg c_6, if_neg c_7, if_neg c_8, if_pos c_9]), rfl⟩ dX5_slot_135
                  · refine lv_tableOut (tgt := 136) X.1 X.2.1 dX5_slot_19 (tb_out8 c_1 c_2 c_3 c_4 c_5 c_6 c_7 c_8 c_9) (by decide) ?_
                    refine lv_bipush (v := (-2)) X.1 X.2.1 dX5_slot_136 (by decide +kernel) ?_
                    exact tb_ri X hr hlk hH ⟨(by rw [sr_X5_slot]; simp only [if_neg c_1, if_neg c_2, if_neg c_3, if_neg c_4, if_neg c_5, if_neg c_6, if_neg c_7, if_neg c_8, if_neg c_9]), rfl⟩ dX5_slot_138
set_option maxHeartbeats 1000000 in
set_option maxRecDepth 100000 in
theorem c_X5_word_bad (l : Launch) (g : tb_G) (z : tb_M) (x : Int32) (w : Int32) (hx : ¬ (¬ (x < nI 0) ∧ (¬ (nI 2 < x)))) : tb_Mi (.int) l yX5_word cX5_word 3 1 g z [.ref (tb_ad g 150), .int x, .int w] ((-1)) (z) := by
  refine tb_goi (own := RX5) (by decide +kernel) rfl (Nat.le_of_ble_eq_true rfl) ?_
  intro p e s m below meth c ls X hr hlk hH hl
  have hl : lv_has ls 3 [(0, .ref (tb_ad g (150))), (1, .int (x)), (2, .int (w))] := hl
  refine lv_iload_n X.1 X.2.1 dX5_word_0 rfl (lv_at hl 1 rfl) ?_
  refine lv_iconst (v := nI (0)) X.1 X.2.1 dX5_word_1 (by decide +kernel) ?_
  refine lv_iconst (v := nI (2)) X.1 X.2.1 dX5_word_2 (by decide +kernel) ?_
  refine tb_cSi X hH hl.1 (c_X5_isWithin l g z x (nI (0)) (nI (2))) ky_X5_isWithin.1 ky_X5_isWithin.2 wm_115 rfl rfl (Nat.le_of_ble_eq_true rfl) ⟨by decide, by decide⟩ ⟨by decide, by decide⟩ dX5_word_3 (fun H locs hH => ?_)
  refine tb_jbeq (tgt := 19) X dX5_word_6 (by decide) (fun _ => ?_) (fun c => (hx c : False).elim)
  refine lv_iconst (v := (-1)) X.1 X.2.1 dX5_word_19 (by decide +kernel) ?_
  exact tb_ri X hr hlk hH ⟨rfl, rfl⟩ dX5_word_20
set_option maxHeartbeats 1000000 in
set_option maxRecDepth 100000 in
theorem c_X5_word_w (l : Launch) (g : tb_G) (z : tb_M) (r : Nat) (w : Int32) (hr2 : r ≤ 2) (hw : ¬ (¬ (w < nI 0) ∧ (¬ (nI 31 < w)))) : tb_Mi (.int) l yX5_word cX5_word 3 1 g z [.ref (tb_ad g 150), .int (nI r), .int w] ((-1)) (z) := by
  refine tb_goi (own := RX5) (by decide +kernel) rfl (Nat.le_of_ble_eq_true rfl) ?_
  intro p e s m below meth c ls X hr hlk hH hl
  have hl : lv_has ls 3 [(0, .ref (tb_ad g (150))), (1, .int (nI (r))), (2, .int (w))] := hl
  refine lv_iload_n X.1 X.2.1 dX5_word_0 rfl (lv_at hl 1 rfl) ?_
  refine lv_iconst (v := nI (0)) X.1 X.2.1 dX5_word_1 (by decide +kernel) ?_
  refine lv_iconst (v := nI (2)) X.1 X.2.1 dX5_word_2 (by decide +kernel) ?_
  refine tb_cSi X hH hl.1 (c_X5_isWithin l g z (nI (r)) (nI (0)) (nI (2))) ky_X5_isWithin.1 ky_X5_isWithin.2 wm_115 rfl rfl (Nat.le_of_ble_eq_true rfl) ⟨by decide, by decide⟩ ⟨by decide, by decide⟩ dX5_word_3 (fun H locs hH => ?_)
  refine tb_jbeq (tgt := 19) X dX5_word_6 (by decide) (fun c => (c ⟨nI_nlt (by omega) (by omega), nI_nlt (by omega) (by omega)⟩ : False).elim) (fun _ => ?_)
  refine lv_iload_n X.1 X.2.1 dX5_word_9 rfl (lv_at hl 2 rfl) ?_
  refine lv_iconst (v := nI (0)) X.1 X.2.1 dX5_word_10 (by decide +kernel) ?_
  refine lv_bipush (v := nI (31)) X.1 X.2.1 dX5_word_11 (by decide +kernel) ?_
  refine tb_cSi X hH hl.1 (c_X5_isWithin l g z w (nI (0)) (nI (31))) ky_X5_isWithin.1 ky_X5_isWithin.2 wm_115 rfl rfl (Nat.le_of_ble_eq_true rfl) ⟨by decide, by decide⟩ ⟨by decide, by decide⟩ dX5_word_13 (fun H locs hH => ?_)
  refine tb_jbne (tgt := 21) X dX5_word_16 (by decide) (fun c => (hw c : False).elim) (fun _ => ?_)
  refine lv_iconst (v := (-1)) X.1 X.2.1 dX5_word_19 (by decide +kernel) ?_
  exact tb_ri X hr hlk hH ⟨rfl, rfl⟩ dX5_word_20
set_option maxHeartbeats 1000000 in
set_option maxRecDepth 100000 in
theorem c_X5_word (l : Launch) (g : tb_G) (z : tb_M) (r : Nat) (w : Nat) (hr2 : r ≤ 2) (hw : w < 32) : tb_Mi (.int) l yX5_word cX5_word 3 1 g z [.ref (tb_ad g 150), .int (nI r), .int (nI w)] (z (((tb_at 0 r)) + 1) w) (z) := by
  refine tb_goi (own := RX5) (by decide +kernel) rfl (Nat.le_of_ble_eq_true rfl) ?_
  intro p e s m below meth c ls X hr hlk hH hl
  have hl : lv_has ls 3 [(0, .ref (tb_ad g (150))), (1, .int (nI (r))), (2, .int (nI (w)))] := hl
  refine lv_iload_n X.1 X.2.1 dX5_word_0 rfl (lv_at hl 1 rfl) ?_
  refine lv_iconst (v := nI (0)) X.1 X.2.1 dX5_word_1 (by decide +kernel) ?_
  refine lv_iconst (v := nI (2)) X.1 X.2.1 dX5_word_2 (by decide +kernel) ?_
  refine tb_cSi X hH hl.1 (c_X5_isWithin l g z (nI (r)) (nI (0)) (nI (2))) ky_X5_isWithin.1 ky_X5_isWithin.2 wm_115 rfl rfl (Nat.le_of_ble_eq_true rfl) ⟨by decide, by decide⟩ ⟨by decide, by decide⟩ dX5_word_3 (fun H locs hH => ?_)
  refine tb_jbeq (tgt := 19) X dX5_word_6 (by decide) (fun c => (c ⟨nI_nlt (by omega) (by omega), nI_nlt (by omega) (by omega)⟩ : False).elim) (fun _ => ?_)
  refine lv_iload_n X.1 X.2.1 dX5_word_9 rfl (lv_at hl 2 rfl) ?_
  refine lv_iconst (v := nI (0)) X.1 X.2.1 dX5_word_10 (by decide +kernel) ?_
  refine lv_bipush (v := nI (31)) X.1 X.2.1 dX5_word_11 (by decide +kernel) ?_
  refine tb_cSi X hH hl.1 (c_X5_isWithin l g z (nI (w)) (nI (0)) (nI (31))) ky_X5_isWithin.1 ky_X5_isWithin.2 wm_115 rfl rfl (Nat.le_of_ble_eq_true rfl) ⟨by decide, by decide⟩ ⟨by decide, by decide⟩ dX5_word_13 (fun H locs hH => ?_)
  refine tb_jbne (tgt := 21) X dX5_word_16 (by decide) (fun _ => ?_) (fun c => (c ⟨nI_nlt (by omega) (by omega), nI_nlt (by omega) (by omega)⟩ : False).elim)
  refine lv_aload_n X.1 X.2.1 dX5_word_21 rfl (lv_at hl 0 rfl) ?_
  refine tb_get X hH tb_Tc.1 (tb_Tc.2 _ _) rfl inlX5 0 (by decide) wm_16 (v := .ref (tb_ad g (0))) rfl dX5_word_22 ?_
  refine lv_iload_n X.1 X.2.1 dX5_word_25 rfl (lv_at hl 1 rfl) ?_
  refine tb_cVr X hH hl.1 (c_X1_areaAt l g z 0 tb_D0 r (by omega)) ky_X1_areaAt.1 ky_X1_areaAt.2 wm_204 (tb_oD tb_D0) rfl rfl (Nat.le_of_ble_eq_true rfl) ⟨by decide, by decide⟩ ⟨by decide, by decide⟩ dX5_word_26 (fun H locs hH => ?_)
  refine tb_get X hH (tb_Ac (tb_isat tb_D0 r)).1 ((tb_Ac (tb_isat tb_D0 r)).2 _ _) rfl inlX0 6 (by decide) wm_338 (v := .ref (tb_ad g (((tb_at 0 r)) + 1))) rfl dX5_word_29 ?_
  refine lv_iload_n X.1 X.2.1 dX5_word_32 rfl (lv_at hl 2 rfl) ?_
  refine tb_ald X hH (tb_iw (tb_isat tb_D0 r)) (w) rfl (by omega) (by first | decide | omega) dX5_word_33 ?_
  exact tb_ri X hr hlk hH ⟨rfl, rfl⟩ dX5_word_34
set_option maxHeartbeats 1000000 in
set_option maxRecDepth 100000 in
theorem c_X5_wear_w (l : Launch) (g : tb_G) (z : tb_M) (sl : Nat) (w : Int32) (hsl : sl < 2) (hw : ¬ (¬ (w < nI 0) ∧ (¬ (nI 7 < w)))) : tb_Mi (.int) l yX5_wear cX5_wear 3 2 g z [.ref (tb_ad g 150), .int (nI sl), .int w] ((-1)) (z) := by
  refine tb_goi (own := RX5) (by decide +kernel) rfl (Nat.le_of_ble_eq_true rfl) ?_
  intro p e s m below meth c ls X hr hlk hH hl
  have hl : lv_has ls 3 [(0, .ref (tb_ad g (150))), (1, .int (nI (sl))), (2, .int (w))] := hl
  refine lv_iload_n X.1 X.2.1 dX5_wear_0 rfl (lv_at hl 1 rfl) ?_
  refine tb_cSi X hH hl.1 (c_X5_isSlot l g z (nI (sl))) ky_X5_isSlot.1 ky_X5_isSlot.2 wm_179 rfl rfl (Nat.le_of_ble_eq_true rfl) ⟨by decide, by decide⟩ ⟨by decide, by decide⟩ dX5_wear_1 (fun H locs hH => ?_)
  refine tb_jbeq (tgt := 17) X dX5_wear_4 (by decide) (fun c => (c ⟨nI_nlt (by omega) (by omega), nI_nlt (by omega) (by omega)⟩ : False).elim) (fun _ => ?_)
  refine lv_iload_n X.1 X.2.1 dX5_wear_7 rfl (lv_at hl 2 rfl) ?_
  refine lv_iconst (v := nI (0)) X.1 X.2.1 dX5_wear_8 (by decide +kernel) ?_
  refine lv_bipush (v := nI (7)) X.1 X.2.1 dX5_wear_9 (by decide +kernel) ?_
  refine tb_cSi X hH hl.1 (c_X5_isWithin l g z w (nI (0)) (nI (7))) ky_X5_isWithin.1 ky_X5_isWithin.2 wm_115 rfl rfl (Nat.le_of_ble_eq_true rfl) ⟨by decide, by decide⟩ ⟨by decide, by decide⟩ dX5_wear_11 (fun H locs hH => ?_)
  refine tb_jbne (tgt := 19) X dX5_wear_14 (by decide) (fun c => (hw c : False).elim) (fun _ => ?_)
  refine lv_iconst (v := (-1)) X.1 X.2.1 dX5_wear_17 (by decide +kernel) ?_
  exact tb_ri X hr hlk hH ⟨rfl, rfl⟩ dX5_wear_18
set_option maxHeartbeats 1000000 in
set_option maxRecDepth 100000 in
theorem c_X5_wear (l : Launch) (g : tb_G) (z : tb_M) (sl : Nat) (w : Nat) (hsl : sl < 2) (hw : w < 8) : tb_Mi (.int) l yX5_wear cX5_wear 3 2 g z [.ref (tb_ad g 150), .int (nI sl), .int (nI w)] (z (((tb_at 0 sl)) + 2) w) (z) := by
  refine tb_goi (own := RX5) (by decide +kernel) rfl (Nat.le_of_ble_eq_true rfl) ?_
  intro p e s m below meth c ls X hr hlk hH hl
  have hl : lv_has ls 3 [(0, .ref (tb_ad g (150))), (1, .int (nI (sl))), (2, .int (nI (w)))] := hl
  refine lv_iload_n X.1 X.2.1 dX5_wear_0 rfl (lv_at hl 1 rfl) ?_
  refine tb_cSi X hH hl.1 (c_X5_isSlot l g z (nI (sl))) ky_X5_isSlot.1 ky_X5_isSlot.2 wm_179 rfl rfl (Nat.le_of_ble_eq_true rfl) ⟨by decide, by decide⟩ ⟨by decide, by decide⟩ dX5_wear_1 (fun H locs hH => ?_)
  refine tb_jbeq (tgt := 17) X dX5_wear_4 (by decide) (fun c => (c ⟨nI_nlt (by omega) (by omega), nI_nlt (by omega) (by omega)⟩ : False).elim) (fun _ => ?_)
  refine lv_iload_n X.1 X.2.1 dX5_wear_7 rfl (lv_at hl 2 rfl) ?_
  refine lv_iconst (v := nI (0)) X.1 X.2.1 dX5_wear_8 (by decide +kernel) ?_
  refine lv_bipush (v := nI (7)) X.1 X.2.1 dX5_wear_9 (by decide +kernel) ?_
  refine tb_cSi X hH hl.1 (c_X5_isWithin l g z (nI (w)) (nI (0)) (nI (7))) ky_X5_isWithin.1 ky_X5_isWithin.2 wm_115 rfl rfl (Nat.le_of_ble_eq_true rfl) ⟨by decide, by decide⟩ ⟨by decide, by decide⟩ dX5_wear_11 (fun H locs hH => ?_)
  refine tb_jbne (tgt := 19) X dX5_wear_14 (by decide) (fun _ => ?_) (fun c => (c ⟨nI_nlt (by omega) (by omega), nI_nlt (by omega) (by omega)⟩ : False).elim)
  refine lv_aload_n X.1 X.2.1 dX5_wear_19 rfl (lv_at hl 0 rfl) ?_
  refine tb_get X hH tb_Tc.1 (tb_Tc.2 _ _) rfl inlX5 0 (by decide) wm_16 (v := .ref (tb_ad g (0))) rfl dX5_wear_20 ?_
  refine lv_iload_n X.1 X.2.1 dX5_wear_23 rfl (lv_at hl 1 rfl) ?_
  refine tb_cVr X hH hl.1 (c_X1_areaAt l g z 0 tb_D0 sl (by omega)) ky_X1_areaAt.1 ky_X1_areaAt.2 wm_204 (tb_oD tb_D0) rfl rfl (Nat.le_of_ble_eq_true rfl) ⟨by decide, by decide⟩ ⟨by decide, by decide⟩ dX5_wear_24 (fun H locs hH => ?_)
  refine tb_get X hH (tb_Ac (tb_isat tb_D0 sl)).1 ((tb_Ac (tb_isat tb_D0 sl)).2 _ _) rfl inlX0 7 (by decide) wm_487 (v := .ref (tb_ad g (((tb_at 0 sl)) + 2))) rfl dX5_wear_27 ?_
  refine lv_iload_n X.1 X.2.1 dX5_wear_30 rfl (lv_at hl 2 rfl) ?_
  refine tb_ald X hH (tb_iv (tb_isat tb_D0 sl)) (w) rfl (by omega) (by first | decide | omega) dX5_wear_31 ?_
  exact tb_ri X hr hlk hH ⟨rfl, rfl⟩ dX5_wear_32
set_option maxHeartbeats 1000000 in
set_option maxRecDepth 100000 in
theorem c_X5_past_bad (l : Launch) (g : tb_G) (z : tb_M) (x : Int32) (w : Int32) (hx : ¬ (¬ (x < nI 0) ∧ (¬ (z 11 2 - nI 1 < x)))) : tb_Mi (.int) l yX5_past cX5_past 4 1 g z [.ref (tb_ad g 150), .int x, .int w] ((-1)) (z) := by
  refine tb_goi (own := RX5) (by decide +kernel) rfl (Nat.le_of_ble_eq_true rfl) ?_
  intro p e s m below meth c ls X hr hlk hH hl
  have hl : lv_has ls 4 [(0, .ref (tb_ad g (150))), (1, .int (x)), (2, .int (w))] := hl
  refine lv_iload_n X.1 X.2.1 dX5_past_0 rfl (lv_at hl 1 rfl) ?_
  refine lv_iconst (v := nI (0)) X.1 X.2.1 dX5_past_1 (by decide +kernel) ?_
  refine lv_aload_n X.1 X.2.1 dX5_past_2 rfl (lv_at hl 0 rfl) ?_
  refine tb_get X hH tb_Tc.1 (tb_Tc.2 _ _) rfl inlX5 0 (by decide) wm_16 (v := .ref (tb_ad g (0))) rfl dX5_past_3 ?_
  refine tb_get X hH (tb_Dc tb_D0).1 ((tb_Dc tb_D0).2 _ _) rfl inlX1 4 (by decide) wm_496 (v := .ref (tb_ad g (11))) rfl dX5_past_6 ?_
  refine tb_get X hH (tb_Sc (tb_S1 tb_D0)).1 ((tb_Sc (tb_S1 tb_D0)).2 _ _) rfl inlX4 2 (by decide) wm_497 (v := .int (z 11 2)) rfl dX5_past_9 ?_
  refine lv_iconst (v := nI (1)) X.1 X.2.1 dX5_past_12 (by decide +kernel) ?_
  refine lv_isub X.1 X.2.1 dX5_past_13 ?_
  refine tb_cSi X hH hl.1 (c_X5_isWithin l g z x (nI (0)) ((z 11 2) - (nI (1)))) ky_X5_isWithin.1 ky_X5_isWithin.2 wm_115 rfl rfl (Nat.le_of_ble_eq_true rfl) ⟨by decide, by decide⟩ ⟨by decide, by decide⟩ dX5_past_14 (fun H locs hH => ?_)
  refine tb_jbne (tgt := 22) X dX5_past_17 (by decide) (fun c => (hx c : False).elim) (fun _ => ?_)
  refine lv_iconst (v := (-1)) X.1 X.2.1 dX5_past_20 (by decide +kernel) ?_
  exact tb_ri X hr hlk hH ⟨rfl, rfl⟩ dX5_past_21
def sr_X5_past (z : tb_M) (b : Nat) (w : Int32) : Int32 := if w = nI 0 then (z 12 ((tb_al z 0 - 1 - b) % 12)) else (if w = nI 1 then (z 13 ((tb_al z 0 - 1 - b) % 12)) else (if w = nI 2 then (z 14 ((tb_al z 0 - 1 - b) % 12)) else ((-2))))
set_option maxHeartbeats 1000000 in
set_option maxRecDepth 100000 in
theorem c_X5_past (l : Launch) (g : tb_G) (z : tb_M) (b : Nat) (w : Int32) (hb : b < tb_kp z) (hK : tb_okK z) : tb_Mi (.int) l yX5_past cX5_past 4 2 g z [.ref (tb_ad g 150), .int (nI b), .int w] (sr_X5_past z b w) (z) := by
  refine tb_goi (own := RX5) (by decide +kernel) rfl (Nat.le_of_ble_eq_true rfl) ?_
  intro p e s m below meth c ls X hr hlk hH hl
  have hl : lv_has ls 4 [(0, .ref (tb_ad g (150))), (1, .int (nI (b))), (2, .int (w))] := hl
  have hK1 := hK.2.1
  have hK2 := hK.2.2.2.1
  have hK3 := hK.2.2.2.2
  refine lv_iload_n X.1 X.2.1 dX5_past_0 rfl (lv_at hl 1 rfl) ?_
  refine lv_iconst (v := nI (0)) X.1 X.2.1 dX5_past_1 (by decide +kernel) ?_
  refine lv_aload_n X.1 X.2.1 dX5_past_2 rfl (lv_at hl 0 rfl) ?_
  refine tb_get X hH tb_Tc.1 (tb_Tc.2 _ _) rfl inlX5 0 (by decide) wm_16 (v := .ref (tb_ad g (0))) rfl dX5_past_3 ?_
  refine tb_get X hH (tb_Dc tb_D0).1 ((tb_Dc tb_D0).2 _ _) rfl inlX1 4 (by decide) wm_496 (v := .ref (tb_ad g (11))) rfl dX5_past_6 ?_
  refine tb_get X hH (tb_Sc (tb_S1 tb_D0)).1 ((tb_Sc (tb_S1 tb_D0)).2 _ _) rfl inlX4 2 (by decide) wm_497 (v := .int (z 11 2)) rfl dX5_past_9 ?_
  refine tb_top (x2 := nI (tb_kp z)) (hK.2.2.1) ?_
  refine lv_iconst (v := nI (1)) X.1 X.2.1 dX5_past_12 (by decide +kernel) ?_
  refine tb_isubN X (by omega) dX5_past_13 ?_
  refine tb_cSi X hH hl.1 (c_X5_isWithin l g z (nI (b)) (nI (0)) (nI ((tb_kp z) - 1))) ky_X5_isWithin.1 ky_X5_isWithin.2 wm_115 rfl rfl (Nat.le_of_ble_eq_true rfl) ⟨by decide, by decide⟩ ⟨by decide, by decide⟩ dX5_past_14 (fun H locs hH => ?_)
  refine tb_jbne (tgt := 22) X dX5_past_17 (by decide) (fun _ => ?_) (fun c => (c ⟨nI_nlt (by omega) (by omega), nI_nlt (by omega) (by omega)⟩ : False).elim)
  refine lv_aload_n X.1 X.2.1 dX5_past_22 rfl (lv_at hl 0 rfl) ?_
  refine tb_get X hH tb_Tc.1 (tb_Tc.2 _ _) rfl inlX5 0 (by decide) wm_16 (v := .ref (tb_ad g (0))) rfl dX5_past_23 ?_
  refine tb_get X hH (tb_Dc tb_D0).1 ((tb_Dc tb_D0).2 _ _) rfl inlX1 4 (by decide) wm_496 (v := .ref (tb_ad g (11))) rfl dX5_past_26 ?_
  refine lv_iload_n X.1 X.2.1 dX5_past_29 rfl (lv_at hl 1 rfl) ?_
  refine tb_cVi X hH hl.1 (c_X4_indexOf l g z 11 (tb_S1 tb_D0) b (tb_al z 0) hK.1 (by omega) (by omega)) ky_X4_indexOf.1 ky_X4_indexOf.2 wm_501 (tb_oS (tb_S1 tb_D0)) rfl rfl (Nat.le_of_ble_eq_true rfl) ⟨by decide, by decide⟩ ⟨by decide, by decide⟩ dX5_past_30 (fun H locs hH => ?_)
  refine tb_top (x2 := nI ((tb_al z 0 - 1 - b) % 12)) (rfl) ?_
  refine lv_istore_n (lv' := [(3, .int (nI ((tb_al z 0 - 1 - b) % 12))), (0, .ref (tb_ad g (150))), (1, .int (nI (b))), (2, .int (w))]) X.1 X.2.1 dX5_past_33 rfl hl (by decide) rfl (fun ls hl => ?_)
  refine lv_iload_n X.1 X.2.1 dX5_past_34 rfl (lv_at hl 3 rfl) ?_
  by_cases c_1 : w = nI 0
  · refine lv_tableIn (off := 25) (tgt := 60) X.1 X.2.1 dX5_past_35 (by rw [c_1]; decide +kernel) (by rw [c_1]; decide +kernel) (by rw [c_1]; decide +kernel) (by decide) ?_
    refine lv_aload_n X.1 X.2.1 dX5_past_60 rfl (lv_at hl 1 rfl) ?_
    refine tb_get X hH tb_Tc.1 (tb_Tc.2 _ _) rfl inlX5 0 (by decide) wm_16 (v := .ref (tb_ad g (0))) rfl dX5_past_61 ?_
    refine tb_get X hH (tb_Dc tb_D0).1 ((tb_Dc tb_D0).2 _ _) rfl inlX1 4 (by decide) wm_496 (v := .ref (tb_ad g (11))) rfl dX5_past_64 ?_
    refine tb_get X hH (tb_Sc (tb_S1 tb_D0)).1 ((tb_Sc (tb_S1 tb_D0)).2 _ _) rfl inlX4 3 (by decide) wm_498 (v := .ref (tb_ad g (12))) rfl dX5_past_67 ?_
    refine lv_iload_n X.1 X.2.1 dX5_past_70 rfl (lv_at hl 0 rfl) ?_
    refine tb_ald X hH (tb_s1 (tb_S1 tb_D0)) ((tb_al z 0 - 1 - b) % 12) rfl (by omega) (by first | decide | omega) dX5_past_71 ?_
    exact tb_ri X hr hlk hH ⟨(by rw [sr_X5_past]; simp only [if_pos c_1]), rfl⟩ dX5_past_72
  · by_cases c_2 : w = nI 1
    · refine lv_tableIn (off := 38) (tgt := 73) X.1 X.2.1 dX5_past_35 (by rw [c_2]; decide +kernel) (by rw [c_2]; decide +kernel) (by rw [c_2]; decide +kernel) (by decide) ?_
      refine lv_aload_n X.1 X.2.1 dX5_past_73 rfl (lv_at hl 1 rfl) ?_
      refine tb_get X hH tb_Tc.1 (tb_Tc.2 _ _) rfl inlX5 0 (by decide) wm_16 (v := .ref (tb_ad g (0))) rfl dX5_past_74 ?_
      refine tb_get X hH (tb_Dc tb_D0).1 ((tb_Dc tb_D0).2 _ _) rfl inlX1 4 (by decide) wm_496 (v := .ref (tb_ad g (11))) rfl dX5_past_77 ?_
      refine tb_get X hH (tb_Sc (tb_S1 tb_D0)).1 ((tb_Sc (tb_S1 tb_D0)).2 _ _) rfl inlX4 4 (by decide) wm_499 (v := .ref (tb_ad g (13))) rfl dX5_past_80 ?_
      refine lv_iload_n X.1 X.2.1 dX5_past_83 rfl (lv_at hl 0 rfl) ?_
      refine tb_ald X hH (tb_s2 (tb_S1 tb_D0)) ((tb_al z 0 - 1 - b) % 12) rfl (by omega) (by first | decide | omega) dX5_past_84 ?_
      exact tb_ri X hr hlk hH ⟨(by rw [sr_X5_past]; simp only [if_neg c_1, if_pos c_2]), rfl⟩ dX5_past_85
    · by_cases c_3 : w = nI 2
      · refine lv_tableIn (off := 51) (tgt := 86) X.1 X.2.1 dX5_past_35 (by rw [c_3]; decide +kernel) (by rw [c_3]; decide +kernel) (by rw [c_3]; decide +kernel) (by decide) ?_
        refine lv_aload_n X.1 X.2.1 dX5_past_86 rfl (lv_at hl 1 rfl) ?_
        refine tb_get X hH tb_Tc.1 (tb_Tc.2 _ _) rfl inlX5 0 (by decide) wm_16 (v := .ref (tb_ad g (0))) rfl dX5_past_87 ?_
        refine tb_get X hH (tb_Dc tb_D0).1 ((tb_Dc tb_D0).2 _ _) rfl inlX1 4 (by decide) wm_496 (v := .ref (tb_ad g (11))) rfl dX5_past_90 ?_
        refine tb_get X hH (tb_Sc (tb_S1 tb_D0)).1 ((tb_Sc (tb_S1 tb_D0)).2 _ _) rfl inlX4 5 (by decide) wm_500 (v := .ref (tb_ad g (14))) rfl dX5_past_93 ?_
        refine lv_iload_n X.1 X.2.1 dX5_past_96 rfl (lv_at hl 0 rfl) ?_
        refine tb_ald X hH (tb_s3 (tb_S1 tb_D0)) ((tb_al z 0 - 1 - b) % 12) rfl (by omega) (by first | decide | omega) dX5_past_97 ?_
        exact tb_ri X hr hlk hH ⟨(by rw [sr_X5_past]; simp only [if_neg c_1, if_neg c_2, if_pos c_3]), rfl⟩ dX5_past_98
      · refine lv_tableOut (tgt := 99) X.1 X.2.1 dX5_past_35 (tb_out2 c_1 c_2 c_3) (by decide) ?_
        refine lv_bipush (v := (-2)) X.1 X.2.1 dX5_past_99 (by decide +kernel) ?_
        exact tb_ri X hr hlk hH ⟨(by rw [sr_X5_past]; simp only [if_neg c_1, if_neg c_2, if_neg c_3]), rfl⟩ dX5_past_101
def sr_X5_count (z : tb_M) (w : Int32) : Int32 := if w = nI 0 then (z 0 5) else (if w = nI 1 then (z 0 6) else (if w = nI 2 then (z 0 7) else (if w = nI 3 then (z 0 8) else (if w = nI 4 then (z 11 0) else (if w = nI 5 then (z 11 1) else (if w = nI 6 then (z 0 9) else (if w = nI 7 then ((tb_sm (z (((tb_at 0 2)) + 1)) (tb_len z ((tb_at 0 2))))) else (if w = nI 8 then (z 1 0) else (if w = nI 9 then (z 1 1) else (if w = nI 10 then (z 1 2) else (if w = nI 11 then (z 155 0) else (if w = nI 12 then (z 153 0) else ((-2))))))))))))))
set_option maxHeartbeats 1000000 in
set_option maxRecDepth 100000 in
theorem c_X5_count (l : Launch) (g : tb_G) (z : tb_M) (w : Int32) (hL : tb_okL z (tb_at 0 2)) : tb_Mi (.int) l yX5_count cX5_count 2 2 g z [.ref (tb_ad g 150), .int w] (sr_X5_count z w) (z) := by
  refine tb_goi (own := RX5) (by decide +kernel) rfl (Nat.le_of_ble_eq_true rfl) ?_
  intro p e s m below meth c ls X hr hlk hH hl
  have hl : lv_has ls 2 [(0, .ref (tb_ad g (150))), (1, .int (w))] := hl
  refine lv_iload_n X.1 X.2.1 dX5_count_0 rfl (lv_at hl 1 rfl) ?_
  by_cases c_1 : w = nI 0
  · refine lv_tableIn (off := 67) (tgt := 68) X.1 X.2.1 dX5_count_1 (by rw [c_1]; decide +kernel) (by rw [c_1]; decide +kernel) (by rw [c_1]; decide +kernel) (by decide) ?_
    refine lv_aload_n X.1 X.2.1 dX5_count_68 rfl (lv_at hl 0 rfl) ?_
    refine tb_get X hH tb_Tc.1 (tb_Tc.2 _ _) rfl inlX5 0 (by decide) wm_16 (v := .ref (tb_ad g (0))) rfl dX5_count_69 ?_
    refine tb_get X hH (tb_Dc tb_D0).1 ((tb_Dc tb_D0).2 _ _) rfl inlX1 5 (by decide) wm_177 (v := .int (z 0 5)) rfl dX5_count_72 ?_
    exact tb_ri X hr hlk hH ⟨(by rw [sr_X5_count]; simp only [if_pos c_1]), rfl⟩ dX5_count_75
  · by_cases c_2 : w = nI 1
    · refine lv_tableIn (off := 75) (tgt := 76) X.1 X.2.1 dX5_count_1 (by rw [c_2]; decide +kernel) (by rw [c_2]; decide +kernel) (by rw [c_2]; decide +kernel) (by decide) ?_
      refine lv_aload_n X.1 X.2.1 dX5_count_76 rfl (lv_at hl 0 rfl) ?_
      refine tb_get X hH tb_Tc.1 (tb_Tc.2 _ _) rfl inlX5 0 (by decide) wm_16 (v := .ref (tb_ad g (0))) rfl dX5_count_77 ?_
      refine tb_get X hH (tb_Dc tb_D0).1 ((tb_Dc tb_D0).2 _ _) rfl inlX1 6 (by decide) wm_510 (v := .int (z 0 6)) rfl dX5_count_80 ?_
      exact tb_ri X hr hlk hH ⟨(by rw [sr_X5_count]; simp only [if_neg c_1, if_pos c_2]), rfl⟩ dX5_count_83
    · by_cases c_3 : w = nI 2
      · refine lv_tableIn (off := 83) (tgt := 84) X.1 X.2.1 dX5_count_1 (by rw [c_3]; decide +kernel) (by rw [c_3]; decide +kernel) (by rw [c_3]; decide +kernel) (by decide) ?_
        refine lv_aload_n X.1 X.2.1 dX5_count_84 rfl (lv_at hl 0 rfl) ?_
        refine tb_get X hH tb_Tc.1 (tb_Tc.2 _ _) rfl inlX5 0 (by decide) wm_16 (v := .ref (tb_ad g (0))) rfl dX5_count_85 ?_
        refine tb_get X hH (tb_Dc tb_D0).1 ((tb_Dc tb_D0).2 _ _) rfl inlX1 7 (by decide) wm_511 (v := .int (z 0 7)) rfl dX5_count_88 ?_
        exact tb_ri X hr hlk hH ⟨(by rw [sr_X5_count]; simp only [if_neg c_1, if_neg c_2, if_pos c_3]), rfl⟩ dX5_count_91
      · by_cases c_4 : w = nI 3
        · refine lv_tableIn (off := 91) (tgt := 92) X.1 X.2.1 dX5_count_1 (by rw [c_4]; decide +kernel) (by rw [c_4]; decide +kernel) (by rw [c_4]; decide +kernel) (by decide) ?_
          refine lv_aload_n X.1 X.2.1 dX5_count_92 rfl (lv_at hl 0 rfl) ?_
          refine tb_get X hH tb_Tc.1 (tb_Tc.2 _ _) rfl inlX5 0 (by decide) wm_16 (v := .ref (tb_ad g (0))) rfl dX5_count_93 ?_
          refine tb_get X hH (tb_Dc tb_D0).1 ((tb_Dc tb_D0).2 _ _) rfl inlX1 8 (by decide) wm_178 (v := .int (z 0 8)) rfl dX5_count_96 ?_
          exact tb_ri X hr hlk hH ⟨(by rw [sr_X5_count]; simp only [if_neg c_1, if_neg c_2, if_neg c_3, if_pos c_4]), rfl⟩ dX5_count_99
        · by_cases c_5 : w = nI 4
          · refine lv_tableIn (off := 99) (tgt := 100) X.1 X.2.1 dX5_count_1 (by rw [c_5]; decide +kernel) (by rw [c_5]; decide +kernel) (by rw [c_5]; decide +kernel) (by decide) ?_
            refine lv_aload_n X.1 X.2.1 dX5_count_100 rfl (lv_at hl 0 rfl) ?_
            refine tb_get X hH tb_Tc.1 (tb_Tc.2 _ _) rfl inlX5 0 (by decide) wm_16 (v := .ref (tb_ad g (0))) rfl dX5_count_101 ?_
            refine tb_get X hH (tb_Dc tb_D0).1 ((tb_Dc tb_D0).2 _ _) rfl inlX1 4 (by decide) wm_496 (v := .ref (tb_ad g (11))) rfl dX5_count_104 ?_
            refine tb_get X hH (tb_Sc (tb_S1 tb_D0)).1 ((tb_Sc (tb_S1 tb_D0)).2 _ _) rfl inlX4 0 (by decide) wm_512 (v := .int (z 11 0)) rfl dX5_count_107 ?_
            exact tb_ri X hr hlk hH ⟨(by rw [sr_X5_count]; simp only [if_neg c_1, if_neg c_2, if_neg c_3, if_neg c_4, if_pos c_5]), rfl⟩ dX5_count_110
          · by_cases c_6 : w = nI 5
            · refine lv_tableIn (off := 110) (tgt := 111) X.1 X.2.1 dX5_count_1 (by rw [c_6]; decide +kernel) (by rw [c_6]; decide +kernel) (by rw [c_6]; decide +kernel) (by decide) ?_
              refine lv_aload_n X.1 X.2.1 dX5_count_111 rfl (lv_at hl 0 rfl) ?_
              refine tb_get X hH tb_Tc.1 (tb_Tc.2 _ _) rfl inlX5 0 (by decide) wm_16 (v := .ref (tb_ad g (0))) rfl dX5_count_112 ?_
              refine tb_get X hH (tb_Dc tb_D0).1 ((tb_Dc tb_D0).2 _ _) rfl inlX1 4 (by decide) wm_496 (v := .ref (tb_ad g (11))) rfl dX5_count_115 ?_
              refine tb_get X hH (tb_Sc (tb_S1 tb_D0)).1 ((tb_Sc (tb_S1 tb_D0)).2 _ _) rfl inlX4 1 (by decide) wm_513 (v := .int (z 11 1)) rfl dX5_count_118 ?_
              exact tb_ri X hr hlk hH ⟨(by rw [sr_X5_count]; simp only [if_neg c_1, if_neg c_2, if_neg c_3, if_neg c_4, if_neg c_5, if_pos c_6]), rfl⟩ dX5_count_121
            · by_cases c_7 : w = nI 6
              · refine lv_tableIn (off := 121) (tgt := 122) X.1 X.2.1 dX5_count_1 (by rw [c_7]; decide +kernel) (by rw [c_7]; decide +kernel) (by rw [c_7]; decide +kernel) (by decide) ?_
                refine lv_aload_n X.1 X.2.1 dX5_count_122 rfl (lv_at hl 0 rfl) ?_
                refine tb_get X hH tb_Tc.1 (tb_Tc.2 _ _) rfl inlX5 0 (by decide) wm_16 (v := .ref (tb_ad g (0))) rfl dX5_count_123 ?_
                refine tb_get X hH (tb_Dc tb_D0).1 ((tb_Dc tb_D0).2 _ _) rfl inlX1 9 (by decide) wm_514 (v := .int (z 0 9)) rfl dX5_count_126 ?_
                exact tb_ri X hr hlk hH ⟨(by rw [sr_X5_count]; simp only [if_neg c_1, if_neg c_2, if_neg c_3, if_neg c_4, if_neg c_5, if_neg c_6, if_pos c_7]), rfl⟩ dX5_count_129
              · by_cases c_8 : w = nI 7
                · refine lv_tableIn (off := 129) (tgt := 130) X.1 X.2.1 dX5_count_1 (by rw [c_8]; decide +kernel) (by rw [c_8]; decide +kernel) (by rw [c_8]; decide +kernel) (by decide) ?_
                  refine lv_aload_n X.1 X.2.1 dX5_count_130 rfl (lv_at hl 0 rfl) ?_
                  refine tb_get X hH tb_Tc.1 (tb_Tc.2 _ _) rfl inlX5 0 (by decide) wm_16 (v := .ref (tb_ad g (0))) rfl dX5_count_131 ?_
                  refine lv_iconst (v := nI (2)) X.1 X.2.1 dX5_count_134 (by decide +kernel) ?_
                  refine tb_cVr X hH hl.1 (c_X1_areaAt l g z 0 tb_D0 2 (by decide)) ky_X1_areaAt.1 ky_X1_areaAt.2 wm_204 (tb_oD tb_D0) rfl rfl (Nat.le_of_ble_eq_true rfl) ⟨by decide, by decide⟩ ⟨by decide, by decide⟩ dX5_count_135 (fun H locs hH => ?_)
                  refine tb_cVi X hH hl.1 (c_X0_sumOfImage l g z ((tb_at 0 2)) (tb_isat tb_D0 2) hL) ky_X0_sumOfImage.1 ky_X0_sumOfImage.2 wm_462 (tb_oA (tb_isat tb_D0 2)) rfl rfl (Nat.le_of_ble_eq_true rfl) ⟨by decide, by decide⟩ ⟨by decide, by decide⟩ dX5_count_138 (fun H locs hH => ?_)
                  exact tb_ri X hr hlk hH ⟨(by rw [sr_X5_count]; simp only [if_neg c_1, if_neg c_2, if_neg c_3, if_neg c_4, if_neg c_5, if_neg c_6, if_neg c_7, if_pos c_8]), rfl⟩ dX5_count_141
                · by_cases c_9 : w = nI 8
                  · refine lv_tableIn (off := 141) (tgt := 142) X.1 X.2.1 dX5_count_1 (by rw [c_9]; decide +kernel) (by rw [c_9]; decide +kernel) (by rw [c_9]; decide +kernel) (by decide) ?_
                    refine lv_aload_n X.1 X.2.1 dX5_count_142 rfl (lv_at hl 0 rfl) ?_
                    refine tb_get X hH tb_Tc.1 (tb_Tc.2 _ _) rfl inlX5 0 (by decide) wm_16 (v := .ref (tb_ad g (0))) rfl dX5_count_143 ?_
                    refine tb_get X hH (tb_Dc tb_D0).1 ((tb_Dc tb_D0).2 _ _) rfl inlX1 0 (by decide) wm_114 (v := .ref (tb_ad g (1))) rfl dX5_count_146 ?_
                    refine lv_iconst (v := nI (0)) X.1 X.2.1 dX5_count_149 (by decide +kernel) ?_
                    refine tb_ald X hH (tb_iset tb_D0) (0) rfl (by decide) (by first | decide | omega) dX5_count_150 ?_
                    exact tb_ri X hr hlk hH ⟨(by rw [sr_X5_count]; simp only [if_neg c_1, if_neg c_2, if_neg c_3, if_neg c_4, if_neg c_5, if_neg c_6, if_neg c_7, if_neg c_8, if_pos c_9]), rfl⟩ dX5_count_151
                  · by_cases c_10 : w = nI 9
                    · refine lv_tableIn (off := 151) (tgt := 152) X.1 X.2.1 dX5_count_1 (by rw [c_10]; decide +kernel) (by rw [c_10]; decide +kernel) (by rw [c_10]; decide +kernel) (by decide) ?_
                      refine lv_aload_n X.1 X.2.1 dX5_count_152 rfl (lv_at hl 0 rfl) ?_
                      refine tb_get X hH tb_Tc.1 (tb_Tc.2 _ _) rfl inlX5 0 (by decide) wm_16 (v := .ref (tb_ad g (0))) rfl dX5_count_153 ?_
                      refine tb_get X hH (tb_Dc tb_D0).1 ((tb_Dc tb_D0).2 _ _) rfl inlX1 0 (by decide) wm_114 (v := .ref (tb_ad g (1))) rfl dX5_count_156 ?_
                      refine lv_iconst (v := nI (1)) X.1 X.2.1 dX5_count_159 (by decide +kernel) ?_
                      refine tb_ald X hH (tb_iset tb_D0) (1) rfl (by decide) (by first | decide | omega) dX5_count_160 ?_
                      exact tb_ri X hr hlk hH ⟨(by rw [sr_X5_count]; simp only [if_neg c_1, if_neg c_2, if_neg c_3, if_neg c_4, if_neg c_5, if_neg c_6, if_neg c_7, if_neg c_8, if_neg c_9, if_pos c_10]), rfl⟩ dX5_count_161
                    · by_cases c_11 : w = nI 10
                      · refine lv_tableIn (off := 161) (tgt := 162) X.1 X.2.1 dX5_count_1 (by rw [c_11]; decide +kernel) (by rw [c_11]; decide +kernel) (by rw [c_11]; decide +kernel) (by decide) ?_
                        refine lv_aload_n X.1 X.2.1 dX5_count_162 rfl (lv_at hl 0 rfl) ?_
                        refine tb_get X hH tb_Tc.1 (tb_Tc.2 _ _) rfl inlX5 0 (by decide) wm_16 (v := .ref (tb_ad g (0))) rfl dX5_count_163 ?_
                        refine tb_get X hH (tb_Dc tb_D0).1 ((tb_Dc tb_D0).2 _ _) rfl inlX1 0 (by decide) wm_114 (v := .ref (tb_ad g (1))) rfl dX5_count_166 ?_
                        refine lv_iconst (v := nI (2)) X.1 X.2.1 dX5_count_169 (by decide +kernel) ?_
                        refine tb_ald X hH (tb_iset tb_D0) (2) rfl (by decide) (by first | decide | omega) dX5_count_170 ?_
                        exact tb_ri X hr hlk hH ⟨(by rw [sr_X5_count]; simp only [if_neg c_1, if_neg c_2, if_neg c_3, if_neg c_4, if_neg c_5, if_neg c_6, if_neg c_7, if_neg c_8, if_neg c_9, if_neg c_10, if_pos c_11]), rfl⟩ dX5_count_171
                      · by_cases c_12 : w = nI 11
                        · refine lv_tableIn (off := 171) (tgt := 172) X.1 X.2.1 dX5_count_1 (by rw [c_12]; decide +kernel) (by rw [c_12]; decide +kernel) (by rw [c_12]; decide +kernel) (by decide) ?_
                          refine lv_aload_n X.1 X.2.1 dX5_count_172 rfl (lv_at hl 0 rfl) ?_
                          refine tb_get X hH tb_Tc.1 (tb_Tc.2 _ _) rfl inlX5 5 (by decide) wm_28 (v := .ref (tb_ad g (155))) rfl dX5_count_173 ?_
                          refine tb_get X hH tb_Pc.1 (tb_Pc.2 _ _) rfl inlX3 0 (by decide) wm_515 (v := .int (z 155 0)) rfl dX5_count_176 ?_
                          exact tb_ri X hr hlk hH ⟨(by rw [sr_X5_count]; simp only [if_neg c_1, if_neg c_2, if_neg c_3, if_neg c_4, if_neg c_5, if_neg c_6, if_neg c_7, if_neg c_8, if_neg c_9, if_neg c_10, if_neg c_11, if_pos c_12]), rfl⟩ dX5_count_179
                        · by_cases c_13 : w = nI 12
                          · refine lv_tableIn (off := 179) (tgt := 180) X.1 X.2.1 dX5_count_1 (by rw [c_13]; decide +kernel) (by rw [c_13]; decide +kernel) (by rw [c_13]; decide +kernel) (by decide) ?_
                            refine lv_aload_n X.1 X.2.1 dX5_count_180 rfl (lv_at hl 0 rfl) ?_
                            refine tb_get X hH tb_Tc.1 (tb_Tc.2 _ _) rfl inlX5 4 (by decide) wm_24 (v := .ref (tb_ad g (153))) rfl dX5_count_181 ?_
                            refine tb_get X hH tb_Hc.1 (tb_Hc.2 _ _) rfl inlX2 0 (by decide) wm_516 (v := .int (z 153 0)) rfl dX5_count_184 ?_
                            exact tb_ri X hr hlk hH ⟨(by rw [sr_X5_count]; simp only [if_neg c_1, if_neg c_2, if_neg c_3, if_neg c_4, if_neg c_5, if_neg c_6, if_neg c_7, if_neg c_8, if_neg c_9, if_neg c_10, if_neg c_11, if_neg c_12, if_pos c_13]), rfl⟩ dX5_count_187
                          · refine lv_tableOut (tgt := 188) X.1 X.2.1 dX5_count_1 (tb_out12 c_1 c_2 c_3 c_4 c_5 c_6 c_7 c_8 c_9 c_10 c_11 c_12 c_13) (by decide) ?_
                            refine lv_bipush (v := (-2)) X.1 X.2.1 dX5_count_188 (by decide +kernel) ?_
                            exact tb_ri X hr hlk hH ⟨(by rw [sr_X5_count]; simp only [if_neg c_1, if_neg c_2, if_neg c_3, if_neg c_4, if_neg c_5, if_neg c_6, if_neg c_7, if_neg c_8, if_neg c_9, if_neg c_10, if_neg c_11, if_neg c_12, if_neg c_13]), rfl⟩ dX5_count_190
def sr_X5_padSum (z : tb_M)  : Int32 := if ((tb_ff (sr_X3_digitAt z) (tb_tl (tb_pl z)) (tb_pl z) 0)) = ((-6)) then ((tb_sm (sr_X3_wordAt z) ((tb_pl z) / 2))) else ((-3))
set_option maxHeartbeats 1000000 in
set_option maxRecDepth 100000 in
theorem c_X5_padSum (l : Launch) (g : tb_G) (z : tb_M) (hP : tb_okP z) : tb_Mi (.int) l yX5_padSum cX5_padSum 1 4 g z [.ref (tb_ad g 150)] (sr_X5_padSum z ) (z) := by
  refine tb_goi (own := RX5) (by decide +kernel) rfl (Nat.le_of_ble_eq_true rfl) ?_
  intro p e s m below meth c ls X hr hlk hH hl
  have hl : lv_has ls 1 [(0, .ref (tb_ad g (150)))] := hl
  refine lv_aload_n X.1 X.2.1 dX5_padSum_0 rfl (lv_at hl 0 rfl) ?_
  refine tb_get X hH tb_Tc.1 (tb_Tc.2 _ _) rfl inlX5 5 (by decide) wm_28 (v := .ref (tb_ad g (155))) rfl dX5_padSum_1 ?_
  refine tb_cVi X hH hl.1 (c_X3_firstFault l g z (tb_pl z) hP.1 hP.2) ky_X3_firstFault.1 ky_X3_firstFault.2 wm_272 tb_oP rfl rfl (Nat.le_of_ble_eq_true rfl) ⟨by decide, by decide⟩ ⟨by decide, by decide⟩ dX5_padSum_4 (fun H locs hH => ?_)
  refine lv_bipush (v := (-6)) X.1 X.2.1 dX5_padSum_7 (by decide +kernel) ?_
  have J_1 : ∀ (H : Heap) (locs : List Loc) (ls : Array Slot) (vq1 : Int32), vq1 = (if ((tb_ff (sr_X3_digitAt z) (tb_tl (tb_pl z)) (tb_pl z) 0)) = ((-6)) then ((tb_sm (sr_X3_wordAt z) ((tb_pl z) / 2))) else ((-3))) → tb_H g s.heap z H locs → lv_has ls 1 [(0, .ref (tb_ad g (150)))] → W p l e (tb_rm 4) s m ([.ref (tb_ad g 150)] : List Value).toArray below meth c H locs 0 0 (MQ below (va_Qi (fun r9 u9 => r9 = sr_X5_padSum z  ∧ u9 = z) (tb_B g) (tb_A g)) ([.ref (tb_ad g 150)] : List Value).toArray s 0 0 (tb_A g)) (F0 m 24 ls [.int vq1]) := by
    intro H locs ls vq1 evq1 hH hl
    subst evq1
    exact tb_ri X hr hlk hH ⟨(by rw [sr_X5_padSum]), rfl⟩ dX5_padSum_24
  refine lv_icmp_ne (tgt := 22) X.1 X.2.1 dX5_padSum_9 (by decide) (fun c_1 => ?_) (fun c_1 => ?_)
  · refine lv_bipush (v := (-3)) X.1 X.2.1 dX5_padSum_22 (by decide +kernel) ?_
    exact J_1 _ _ _ _ (by simp only [if_neg c_1]) hH (lv_sub hl [0] rfl)
  · refine lv_aload_n X.1 X.2.1 dX5_padSum_12 rfl (lv_at hl 0 rfl) ?_
    refine tb_get X hH tb_Tc.1 (tb_Tc.2 _ _) rfl inlX5 5 (by decide) wm_28 (v := .ref (tb_ad g (155))) rfl dX5_padSum_13 ?_
    refine tb_cVi X hH hl.1 (c_X3_sumOfWords l g z (tb_pl z) hP.1 hP.2) ky_X3_sumOfWords.1 ky_X3_sumOfWords.2 wm_525 tb_oP rfl rfl (Nat.le_of_ble_eq_true rfl) ⟨by decide, by decide⟩ ⟨by decide, by decide⟩ dX5_padSum_16 (fun H locs hH => ?_)
    refine lv_goto (tgt := 24) X.1 X.2.1 dX5_padSum_19 (by decide) ?_
    exact J_1 _ _ _ _ (by simp only [if_pos c_1]) hH (lv_sub hl [0] rfl)
set_option maxHeartbeats 1000000 in
set_option maxRecDepth 100000 in
theorem c_X5_fault (l : Launch) (g : tb_G) (z : tb_M) (hP : tb_okP z) : tb_Mi (.int) l yX5_fault cX5_fault 1 3 g z [.ref (tb_ad g 150)] ((tb_ff (sr_X3_digitAt z) (tb_tl (tb_pl z)) (tb_pl z) 0)) (z) := by
  refine tb_goi (own := RX5) (by decide +kernel) rfl (Nat.le_of_ble_eq_true rfl) ?_
  intro p e s m below meth c ls X hr hlk hH hl
  have hl : lv_has ls 1 [(0, .ref (tb_ad g (150)))] := hl
  refine lv_aload_n X.1 X.2.1 dX5_fault_0 rfl (lv_at hl 0 rfl) ?_
  refine tb_get X hH tb_Tc.1 (tb_Tc.2 _ _) rfl inlX5 5 (by decide) wm_28 (v := .ref (tb_ad g (155))) rfl dX5_fault_1 ?_
  refine tb_cVi X hH hl.1 (c_X3_firstFault l g z (tb_pl z) hP.1 hP.2) ky_X3_firstFault.1 ky_X3_firstFault.2 wm_272 tb_oP rfl rfl (Nat.le_of_ble_eq_true rfl) ⟨by decide, by decide⟩ ⟨by decide, by decide⟩ dX5_fault_4 (fun H locs hH => ?_)
  exact tb_ri X hr hlk hH ⟨rfl, rfl⟩ dX5_fault_7
set_option maxHeartbeats 1000000 in
set_option maxRecDepth 100000 in
theorem c_X5_wipe (l : Launch) (g : tb_G) (z : tb_M)  : tb_Mi (.int) l yX5_wipe cX5_wipe 2 1 g z [.ref (tb_ad g 150)] (z 155 0) (tb_up z 155 0 (nI (0))) := by
  refine tb_goi (own := RX5) (by decide +kernel) rfl (Nat.le_of_ble_eq_true rfl) ?_
  intro p e s m below meth c ls X hr hlk hH hl
  have hl : lv_has ls 2 [(0, .ref (tb_ad g (150)))] := hl
  refine lv_aload_n X.1 X.2.1 dX5_wipe_0 rfl (lv_at hl 0 rfl) ?_
  refine tb_get X hH tb_Tc.1 (tb_Tc.2 _ _) rfl inlX5 5 (by decide) wm_28 (v := .ref (tb_ad g (155))) rfl dX5_wipe_1 ?_
  refine tb_get X hH tb_Pc.1 (tb_Pc.2 _ _) rfl inlX3 0 (by decide) wm_515 (v := .int (z 155 0)) rfl dX5_wipe_4 ?_
  refine lv_istore_n (lv' := [(1, .int (z 155 0)), (0, .ref (tb_ad g (150)))]) X.1 X.2.1 dX5_wipe_7 rfl hl (by decide) rfl (fun ls hl => ?_)
  refine lv_aload_n X.1 X.2.1 dX5_wipe_8 rfl (lv_at hl 1 rfl) ?_
  refine tb_get X hH tb_Tc.1 (tb_Tc.2 _ _) rfl inlX5 5 (by decide) wm_28 (v := .ref (tb_ad g (155))) rfl dX5_wipe_9 ?_
  refine tb_cVv X hH hl.1 (c_X3_clear l g z) ky_X3_clear.1 ky_X3_clear.2 wm_289 tb_oP rfl rfl (Nat.le_of_ble_eq_true rfl) ⟨by decide, by decide⟩ ⟨by decide, by decide⟩ dX5_wipe_12 (fun H locs hH => ?_)
  refine lv_iload_n X.1 X.2.1 dX5_wipe_15 rfl (lv_at hl 0 rfl) ?_
  exact tb_ri X hr hlk hH ⟨rfl, rfl⟩ dX5_wipe_16
set_option maxHeartbeats 1000000 in
set_option maxRecDepth 100000 in
theorem c_X5_lasts_len (l : Launch) (g : tb_G) (z : tb_M) (sl : Nat) (n : Int32) (hsl : sl < 2) (hn : ¬ (¬ (n < nI 2) ∧ (¬ (nI 32 < n)))) : tb_Mi (.int) l yX5_lasts cX5_lasts 3 2 g z [.ref (tb_ad g 150), .int (nI sl), .int n] ((-2)) (z) := by
  refine tb_goi (own := RX5) (by decide +kernel) rfl (Nat.le_of_ble_eq_true rfl) ?_
  intro p e s m below meth c ls X hr hlk hH hl
  have hl : lv_has ls 3 [(0, .ref (tb_ad g (150))), (1, .int (nI (sl))), (2, .int (n))] := hl
  refine lv_iload_n X.1 X.2.1 dX5_lasts_0 rfl (lv_at hl 1 rfl) ?_
  refine tb_cSi X hH hl.1 (c_X5_isSlot l g z (nI (sl))) ky_X5_isSlot.1 ky_X5_isSlot.2 wm_179 rfl rfl (Nat.le_of_ble_eq_true rfl) ⟨by decide, by decide⟩ ⟨by decide, by decide⟩ dX5_lasts_1 (fun H locs hH => ?_)
  refine tb_jbne (tgt := 9) X dX5_lasts_4 (by decide) (fun _ => ?_) (fun c => (c ⟨nI_nlt (by omega) (by omega), nI_nlt (by omega) (by omega)⟩ : False).elim)
  refine lv_iload_n X.1 X.2.1 dX5_lasts_9 rfl (lv_at hl 2 rfl) ?_
  refine tb_cSi X hH hl.1 (c_X5_isLength l g z n) ky_X5_isLength.1 ky_X5_isLength.2 wm_182 rfl rfl (Nat.le_of_ble_eq_true rfl) ⟨by decide, by decide⟩ ⟨by decide, by decide⟩ dX5_lasts_10 (fun H locs hH => ?_)
  refine tb_jbeq (tgt := 31) X dX5_lasts_13 (by decide) (fun _ => ?_) (fun c => (hn c : False).elim)
  refine lv_bipush (v := (-2)) X.1 X.2.1 dX5_lasts_31 (by decide +kernel) ?_
  exact tb_ri X hr hlk hH ⟨rfl, rfl⟩ dX5_lasts_33
set_option maxHeartbeats 1000000 in
set_option maxRecDepth 100000 in
theorem c_X5_lasts (l : Launch) (g : tb_G) (z : tb_M) (sl : Nat) (n : Nat) (hsl : sl < 2) (hn : 2 ≤ n ∧ n ≤ 32) : tb_Mi (.int) l yX5_lasts cX5_lasts 3 3 g z [.ref (tb_ad g 150), .int (nI sl), .int (nI n)] ((sr_X1_beginsLeft z 0 sl (((n + 4 - 1) / 4)))) (z) := by
  refine tb_goi (own := RX5) (by decide +kernel) rfl (Nat.le_of_ble_eq_true rfl) ?_
  intro p e s m below meth c ls X hr hlk hH hl
  have hl : lv_has ls 3 [(0, .ref (tb_ad g (150))), (1, .int (nI (sl))), (2, .int (nI (n)))] := hl
  refine lv_iload_n X.1 X.2.1 dX5_lasts_0 rfl (lv_at hl 1 rfl) ?_
  refine tb_cSi X hH hl.1 (c_X5_isSlot l g z (nI (sl))) ky_X5_isSlot.1 ky_X5_isSlot.2 wm_179 rfl rfl (Nat.le_of_ble_eq_true rfl) ⟨by decide, by decide⟩ ⟨by decide, by decide⟩ dX5_lasts_1 (fun H locs hH => ?_)
  refine tb_jbne (tgt := 9) X dX5_lasts_4 (by decide) (fun _ => ?_) (fun c => (c ⟨nI_nlt (by omega) (by omega), nI_nlt (by omega) (by omega)⟩ : False).elim)
  refine lv_iload_n X.1 X.2.1 dX5_lasts_9 rfl (lv_at hl 2 rfl) ?_
  refine tb_cSi X hH hl.1 (c_X5_isLength l g z (nI (n))) ky_X5_isLength.1 ky_X5_isLength.2 wm_182 rfl rfl (Nat.le_of_ble_eq_true rfl) ⟨by decide, by decide⟩ ⟨by decide, by decide⟩ dX5_lasts_10 (fun H locs hH => ?_)
  refine tb_jbeq (tgt := 31) X dX5_lasts_13 (by decide) (fun c => (c ⟨nI_nlt (by omega) (by omega), nI_nlt (by omega) (by omega)⟩ : False).elim) (fun _ => ?_)
  refine lv_aload_n X.1 X.2.1 dX5_lasts_16 rfl (lv_at hl 0 rfl) ?_
  refine tb_get X hH tb_Tc.1 (tb_Tc.2 _ _) rfl inlX5 0 (by decide) wm_16 (v := .ref (tb_ad g (0))) rfl dX5_lasts_17 ?_
  refine lv_iload_n X.1 X.2.1 dX5_lasts_20 rfl (lv_at hl 1 rfl) ?_
  refine lv_iload_n X.1 X.2.1 dX5_lasts_21 rfl (lv_at hl 2 rfl) ?_
  refine tb_cSi X hH hl.1 (c_X5_pagesOf l g z n (by omega)) ky_X5_pagesOf.1 ky_X5_pagesOf.2 wm_185 rfl rfl (Nat.le_of_ble_eq_true rfl) ⟨by decide, by decide⟩ ⟨by decide, by decide⟩ dX5_lasts_22 (fun H locs hH => ?_)
  refine tb_cVi X hH hl.1 (c_X1_beginsLeft l g z 0 tb_D0 sl (((n + 4 - 1) / 4)) (by omega) (by omega)) ky_X1_beginsLeft.1 ky_X1_beginsLeft.2 wm_188 (tb_oD tb_D0) rfl rfl (Nat.le_of_ble_eq_true rfl) ⟨by decide, by decide⟩ ⟨by decide, by decide⟩ dX5_lasts_25 (fun H locs hH => ?_)
  refine lv_goto (tgt := 33) X.1 X.2.1 dX5_lasts_28 (by decide) ?_
  exact tb_ri X hr hlk hH ⟨rfl, rfl⟩ dX5_lasts_33
def sz_X5_put (z : tb_M) (x : Int64) : tb_M := if ((tb_ci 8 x 0)) = 0 then z else (if ((tb_ci 8 x 0)) ≤ (64 - (tb_pl z)) then (tb_ap z x (tb_pl z) ((tb_ci 8 x 0)) ((tb_ci 8 x 0))) else z)
def sr_X5_put (z : tb_M) (x : Int64) : Int32 := if ((tb_ci 8 x 0)) = 0 then ((-2)) else (if ((tb_ci 8 x 0)) ≤ (64 - (tb_pl z)) then ((tb_ap z x (tb_pl z) ((tb_ci 8 x 0)) ((tb_ci 8 x 0))) 155 0) else ((-4)))
set_option maxHeartbeats 1000000 in
set_option maxRecDepth 100000 in
theorem c_X5_put (l : Launch) (g : tb_G) (z : tb_M) (x : Int64) (hP : tb_okP z) : tb_Mi (.int) l yX5_put cX5_put 4 2 g z [.ref (tb_ad g 150), .long x] (sr_X5_put z x) (sz_X5_put z x) := by
  refine tb_goi (own := RX5) (by decide +kernel) rfl (Nat.le_of_ble_eq_true rfl) ?_
  intro p e s m below meth c ls X hr hlk hH hl
  have hl : lv_has ls 4 [(0, .ref (tb_ad g (150))), (1, .long (x))] := hl
  have hP2 := hP.2
  refine lv_lload_n X.1 X.2.1 dX5_put_0 rfl (lv_at hl 1 rfl) ?_
  refine tb_cSi X hH hl.1 (c_X3_charactersIn l g z x) ky_X3_charactersIn.1 ky_X3_charactersIn.2 wm_581 rfl rfl (Nat.le_of_ble_eq_true rfl) ⟨by decide, by decide⟩ ⟨by decide, by decide⟩ dX5_put_1 (fun H locs hH => ?_)
  have hb_1 := (tb_ci_le 8 x 0)
  refine lv_istore_n (lv' := [(3, .int (nI ((tb_ci 8 x 0)))), (0, .ref (tb_ad g (150))), (1, .long (x))]) X.1 X.2.1 dX5_put_4 rfl hl (by decide) rfl (fun ls hl => ?_)
  refine lv_iload_n X.1 X.2.1 dX5_put_5 rfl (lv_at hl 0 rfl) ?_
  refine tb_zne (tgt := 12) X (by omega) dX5_put_6 (by decide) (fun c_1 => ?_) (fun c_1 => ?_)
  · refine lv_iload_n X.1 X.2.1 dX5_put_12 rfl (lv_at hl 0 rfl) ?_
    refine lv_bipush (v := nI (64)) X.1 X.2.1 dX5_put_13 (by decide +kernel) ?_
    refine lv_aload_n X.1 X.2.1 dX5_put_15 rfl (lv_at hl 1 rfl) ?_
    refine tb_get X hH tb_Tc.1 (tb_Tc.2 _ _) rfl inlX5 5 (by decide) wm_28 (v := .ref (tb_ad g (155))) rfl dX5_put_16 ?_
    refine tb_get X hH tb_Pc.1 (tb_Pc.2 _ _) rfl inlX3 0 (by decide) wm_515 (v := .int (z 155 0)) rfl dX5_put_19 ?_
    refine tb_top (x2 := nI (tb_pl z)) (hP.1) ?_
    refine tb_isubN X (by omega) dX5_put_22 ?_
    refine tb_nle (tgt := 29) X (by omega) (by omega) dX5_put_23 (by decide) (fun c_2 => ?_) (fun c_2 => ?_)
    · refine lv_aload_n X.1 X.2.1 dX5_put_29 rfl (lv_at hl 1 rfl) ?_
      refine tb_get X hH tb_Tc.1 (tb_Tc.2 _ _) rfl inlX5 5 (by decide) wm_28 (v := .ref (tb_ad g (155))) rfl dX5_put_30 ?_
      refine lv_lload_n X.1 X.2.1 dX5_put_33 rfl (lv_at hl 2 rfl) ?_
      refine lv_iload_n X.1 X.2.1 dX5_put_34 rfl (lv_at hl 0 rfl) ?_
      refine tb_cVv X hH hl.1 (c_X3_append l g z x ((tb_ci 8 x 0)) (tb_pl z) hP.1 (by omega) (by omega)) ky_X3_append.1 ky_X3_append.2 wm_585 tb_oP rfl rfl (Nat.le_of_ble_eq_true rfl) ⟨by decide, by decide⟩ ⟨by decide, by decide⟩ dX5_put_35 (fun H locs hH => ?_)
      refine lv_aload_n X.1 X.2.1 dX5_put_38 rfl (lv_at hl 1 rfl) ?_
      refine tb_get X hH tb_Tc.1 (tb_Tc.2 _ _) rfl inlX5 5 (by decide) wm_28 (v := .ref (tb_ad g (155))) rfl dX5_put_39 ?_
      refine tb_get X hH tb_Pc.1 (tb_Pc.2 _ _) rfl inlX3 0 (by decide) wm_515 (v := .int ((tb_ap z x (tb_pl z) ((tb_ci 8 x 0)) ((tb_ci 8 x 0))) 155 0)) rfl dX5_put_42 ?_
      exact tb_ri X hr hlk hH ⟨(by rw [sr_X5_put]; simp only [if_neg c_1, if_pos c_2]), (by rw [sz_X5_put]; simp only [if_neg c_1, if_pos c_2])⟩ dX5_put_45
    · refine lv_bipush (v := (-4)) X.1 X.2.1 dX5_put_26 (by decide +kernel) ?_
      exact tb_ri X hr hlk hH ⟨(by rw [sr_X5_put]; simp only [if_neg c_1, if_neg c_2]), (by rw [sz_X5_put]; simp only [if_neg c_1, if_neg c_2])⟩ dX5_put_28
  · refine lv_bipush (v := (-2)) X.1 X.2.1 dX5_put_9 (by decide +kernel) ?_
    exact tb_ri X hr hlk hH ⟨(by rw [sr_X5_put]; simp only [if_pos c_1]), (by rw [sz_X5_put]; simp only [if_pos c_1])⟩ dX5_put_11
def sz_X5_undo_m1 (z : tb_M)  : tb_M := sz_X2_takeBack z 0 (tb_rc z)
def sz_X5_undo (z : tb_M)  : tb_M := if (z 153 0) = 0 then z else (sz_X5_undo_m1 z)
def sr_X5_undo (z : tb_M)  : Int32 := if (z 153 0) = 0 then ((-5)) else ((sz_X5_undo_m1 z) 153 0)
set_option maxHeartbeats 1000000 in
set_option maxRecDepth 100000 in
theorem c_X5_undo (l : Launch) (g : tb_G) (z : tb_M) (hrc : tb_okR z) (hsz : ¬ z 153 0 = 0 → 1 ≤ tb_rc z) : tb_Mi (.int) l yX5_undo cX5_undo 1 4 g z [.ref (tb_ad g 150)] (sr_X5_undo z ) (sz_X5_undo z ) := by
  refine tb_goi (own := RX5) (by decide +kernel) rfl (Nat.le_of_ble_eq_true rfl) ?_
  intro p e s m below meth c ls X hr hlk hH hl
  have hl : lv_has ls 1 [(0, .ref (tb_ad g (150)))] := hl
  refine lv_aload_n X.1 X.2.1 dX5_undo_0 rfl (lv_at hl 0 rfl) ?_
  refine tb_get X hH tb_Tc.1 (tb_Tc.2 _ _) rfl inlX5 4 (by decide) wm_24 (v := .ref (tb_ad g (153))) rfl dX5_undo_1 ?_
  refine tb_get X hH tb_Hc.1 (tb_Hc.2 _ _) rfl inlX2 0 (by decide) wm_516 (v := .int (z 153 0)) rfl dX5_undo_4 ?_
  refine lv_if_ne (tgt := 13) X.1 X.2.1 dX5_undo_7 (by decide) (fun c_1 => ?_) (fun c_1 => ?_)
  · refine lv_aload_n X.1 X.2.1 dX5_undo_13 rfl (lv_at hl 0 rfl) ?_
    refine tb_get X hH tb_Tc.1 (tb_Tc.2 _ _) rfl inlX5 4 (by decide) wm_24 (v := .ref (tb_ad g (153))) rfl dX5_undo_14 ?_
    refine lv_aload_n X.1 X.2.1 dX5_undo_17 rfl (lv_at hl 0 rfl) ?_
    refine tb_get X hH tb_Tc.1 (tb_Tc.2 _ _) rfl inlX5 0 (by decide) wm_16 (v := .ref (tb_ad g (0))) rfl dX5_undo_18 ?_
    refine tb_cVv X hH hl.1 (c_X2_takeBack l g z 0 tb_D0 (tb_rc z) hrc.1 (Nat.lt_trans hrc.2 (by decide)) (hsz (by assumption))) ky_X2_takeBack.1 ky_X2_takeBack.2 wm_614 tb_oH rfl rfl (Nat.le_of_ble_eq_true rfl) ⟨by decide, by decide⟩ ⟨by decide, by decide⟩ dX5_undo_21 (fun H locs hH => ?_)
    have hH : tb_H g s.heap (sz_X5_undo_m1 z) H locs := hH
    refine lv_aload_n X.1 X.2.1 dX5_undo_24 rfl (lv_at hl 0 rfl) ?_
    refine tb_get X hH tb_Tc.1 (tb_Tc.2 _ _) rfl inlX5 4 (by decide) wm_24 (v := .ref (tb_ad g (153))) rfl dX5_undo_25 ?_
    refine tb_get X hH tb_Hc.1 (tb_Hc.2 _ _) rfl inlX2 0 (by decide) wm_516 (v := .int ((sz_X5_undo_m1 z) 153 0)) rfl dX5_undo_28 ?_
    exact tb_ri X hr hlk hH ⟨(by rw [sr_X5_undo]; simp only [if_neg c_1]), (by rw [sz_X5_undo]; simp only [if_neg c_1])⟩ dX5_undo_31
  · refine lv_bipush (v := (-5)) X.1 X.2.1 dX5_undo_10 (by decide +kernel) ?_
    exact tb_ri X hr hlk hH ⟨(by rw [sr_X5_undo]; simp only [if_pos c_1]), (by rw [sz_X5_undo]; simp only [if_pos c_1])⟩ dX5_undo_12
set_option maxHeartbeats 1000000 in
set_option maxRecDepth 100000 in
theorem c_X5_save_bad (l : Launch) (g : tb_G) (z : tb_M) (x : Int32) (hx : ¬ (¬ (x < nI 0) ∧ (¬ (nI 1 < x)))) : tb_Mi (.int) l yX5_save cX5_save 2 1 g z [.ref (tb_ad g 150), .int x] ((-2)) (z) := by
  refine tb_goi (own := RX5) (by decide +kernel) rfl (Nat.le_of_ble_eq_true rfl) ?_
  intro p e s m below meth c ls X hr hlk hH hl
  have hl : lv_has ls 2 [(0, .ref (tb_ad g (150))), (1, .int (x))] := hl
  refine lv_iload_n X.1 X.2.1 dX5_save_0 rfl (lv_at hl 1 rfl) ?_
  refine lv_iconst (v := nI (0)) X.1 X.2.1 dX5_save_1 (by decide +kernel) ?_
  refine lv_iconst (v := nI (1)) X.1 X.2.1 dX5_save_2 (by decide +kernel) ?_
  refine tb_cSi X hH hl.1 (c_X5_isWithin l g z x (nI (0)) (nI (1))) ky_X5_isWithin.1 ky_X5_isWithin.2 wm_115 rfl rfl (Nat.le_of_ble_eq_true rfl) ⟨by decide, by decide⟩ ⟨by decide, by decide⟩ dX5_save_3 (fun H locs hH => ?_)
  refine tb_jbne (tgt := 12) X dX5_save_6 (by decide) (fun c => (hx c : False).elim) (fun _ => ?_)
  refine lv_bipush (v := (-2)) X.1 X.2.1 dX5_save_9 (by decide +kernel) ?_
  exact tb_ri X hr hlk hH ⟨rfl, rfl⟩ dX5_save_11
def sz_X5_save_m1 (z : tb_M) (q : Nat) : tb_M := sz_X1_copyFrom_m6 z (30 + 15 * q) 0
set_option maxHeartbeats 1000000 in
set_option maxRecDepth 100000 in
theorem c_X5_save (l : Launch) (g : tb_G) (z : tb_M) (q : Nat) (hq : q < 2) : tb_Mi (.int) l yX5_save cX5_save 2 3 g z [.ref (tb_ad g 150), .int (nI q)] ((tb_up (sz_X5_save_m1 z q) 152 q (nI 1)) 0 5) (tb_up (sz_X5_save_m1 z q) 152 q (nI 1)) := by
  refine tb_goi (own := RX5) (by decide +kernel) rfl (Nat.le_of_ble_eq_true rfl) ?_
  intro p e s m below meth c ls X hr hlk hH hl
  have hl : lv_has ls 2 [(0, .ref (tb_ad g (150))), (1, .int (nI (q)))] := hl
  refine lv_iload_n X.1 X.2.1 dX5_save_0 rfl (lv_at hl 1 rfl) ?_
  refine lv_iconst (v := nI (0)) X.1 X.2.1 dX5_save_1 (by decide +kernel) ?_
  refine lv_iconst (v := nI (1)) X.1 X.2.1 dX5_save_2 (by decide +kernel) ?_
  refine tb_cSi X hH hl.1 (c_X5_isWithin l g z (nI (q)) (nI (0)) (nI (1))) ky_X5_isWithin.1 ky_X5_isWithin.2 wm_115 rfl rfl (Nat.le_of_ble_eq_true rfl) ⟨by decide, by decide⟩ ⟨by decide, by decide⟩ dX5_save_3 (fun H locs hH => ?_)
  refine tb_jbne (tgt := 12) X dX5_save_6 (by decide) (fun _ => ?_) (fun c => (c ⟨nI_nlt (by omega) (by omega), nI_nlt (by omega) (by omega)⟩ : False).elim)
  refine lv_aload_n X.1 X.2.1 dX5_save_12 rfl (lv_at hl 0 rfl) ?_
  refine tb_get X hH tb_Tc.1 (tb_Tc.2 _ _) rfl inlX5 2 (by decide) wm_18 (v := .ref (tb_ad g (151))) rfl dX5_save_13 ?_
  refine lv_iload_n X.1 X.2.1 dX5_save_16 rfl (lv_at hl 1 rfl) ?_
  refine tb_aalS X hH (q) rfl (by omega) dX5_save_17 ?_
  refine lv_aload_n X.1 X.2.1 dX5_save_18 rfl (lv_at hl 0 rfl) ?_
  refine tb_get X hH tb_Tc.1 (tb_Tc.2 _ _) rfl inlX5 0 (by decide) wm_16 (v := .ref (tb_ad g (0))) rfl dX5_save_19 ?_
  refine tb_cVv X hH hl.1 (c_X1_copyFrom l g z (30 + 15 * q) (tb_DS (j := q) (by omega)) 0 tb_D0) ky_X1_copyFrom.1 ky_X1_copyFrom.2 wm_539 (tb_oD (tb_DS (j := q) (by omega))) rfl rfl (Nat.le_of_ble_eq_true rfl) ⟨by decide, by decide⟩ ⟨by decide, by decide⟩ dX5_save_22 (fun H locs hH => ?_)
  have hH : tb_H g s.heap (sz_X5_save_m1 z q) H locs := hH
  refine lv_aload_n X.1 X.2.1 dX5_save_25 rfl (lv_at hl 0 rfl) ?_
  refine tb_get X hH tb_Tc.1 (tb_Tc.2 _ _) rfl inlX5 3 (by decide) wm_20 (v := .ref (tb_ad g (152))) rfl dX5_save_26 ?_
  refine lv_iload_n X.1 X.2.1 dX5_save_29 rfl (lv_at hl 1 rfl) ?_
  refine lv_iconst (v := nI (1)) X.1 X.2.1 dX5_save_30 (by decide +kernel) ?_
  refine tb_zst X hH (q) rfl (by omega) dX5_save_31 (fun H locs hH => ?_)
  refine lv_aload_n X.1 X.2.1 dX5_save_32 rfl (lv_at hl 0 rfl) ?_
  refine tb_get X hH tb_Tc.1 (tb_Tc.2 _ _) rfl inlX5 0 (by decide) wm_16 (v := .ref (tb_ad g (0))) rfl dX5_save_33 ?_
  refine tb_get X hH (tb_Dc tb_D0).1 ((tb_Dc tb_D0).2 _ _) rfl inlX1 5 (by decide) wm_177 (v := .int ((tb_up (sz_X5_save_m1 z q) 152 q (nI 1)) 0 5)) rfl dX5_save_36 ?_
  exact tb_ri X hr hlk hH ⟨rfl, rfl⟩ dX5_save_39
set_option maxHeartbeats 1000000 in
set_option maxRecDepth 100000 in
theorem c_X5_restore_bad (l : Launch) (g : tb_G) (z : tb_M) (x : Int32) (hx : ¬ (¬ (x < nI 0) ∧ (¬ (nI 1 < x)))) : tb_Mi (.int) l yX5_restore cX5_restore 2 1 g z [.ref (tb_ad g 150), .int x] ((-2)) (z) := by
  refine tb_goi (own := RX5) (by decide +kernel) rfl (Nat.le_of_ble_eq_true rfl) ?_
  intro p e s m below meth c ls X hr hlk hH hl
  have hl : lv_has ls 2 [(0, .ref (tb_ad g (150))), (1, .int (x))] := hl
  refine lv_iload_n X.1 X.2.1 dX5_restore_0 rfl (lv_at hl 1 rfl) ?_
  refine lv_iconst (v := nI (0)) X.1 X.2.1 dX5_restore_1 (by decide +kernel) ?_
  refine lv_iconst (v := nI (1)) X.1 X.2.1 dX5_restore_2 (by decide +kernel) ?_
  refine tb_cSi X hH hl.1 (c_X5_isWithin l g z x (nI (0)) (nI (1))) ky_X5_isWithin.1 ky_X5_isWithin.2 wm_115 rfl rfl (Nat.le_of_ble_eq_true rfl) ⟨by decide, by decide⟩ ⟨by decide, by decide⟩ dX5_restore_3 (fun H locs hH => ?_)
  refine tb_jbne (tgt := 12) X dX5_restore_6 (by decide) (fun c => (hx c : False).elim) (fun _ => ?_)
  refine lv_bipush (v := (-2)) X.1 X.2.1 dX5_restore_9 (by decide +kernel) ?_
  exact tb_ri X hr hlk hH ⟨rfl, rfl⟩ dX5_restore_11
def sz_X5_restore_m1 (z : tb_M) (q : Nat) : tb_M := sz_X2_record z 0 (tb_rc z)
def sz_X5_restore_m2 (z : tb_M) (q : Nat) : tb_M := sz_X1_copyFrom_m6 (sz_X5_restore_m1 z q) 0 (30 + 15 * q)
def sz_X5_restore (z : tb_M) (q : Nat) : tb_M := if (z 152 q) = 0 then z else (sz_X5_restore_m2 z q)
def sr_X5_restore (z : tb_M) (q : Nat) : Int32 := if (z 152 q) = 0 then ((-5)) else ((sz_X5_restore_m2 z q) 0 5)
set_option maxHeartbeats 1000000 in
set_option maxRecDepth 100000 in
theorem c_X5_restore (l : Launch) (g : tb_G) (z : tb_M) (q : Nat) (hq : q < 2) (hrc : tb_okR z) : tb_Mi (.int) l yX5_restore cX5_restore 2 4 g z [.ref (tb_ad g 150), .int (nI q)] (sr_X5_restore z q) (sz_X5_restore z q) := by
  refine tb_goi (own := RX5) (by decide +kernel) rfl (Nat.le_of_ble_eq_true rfl) ?_
  intro p e s m below meth c ls X hr hlk hH hl
  have hl : lv_has ls 2 [(0, .ref (tb_ad g (150))), (1, .int (nI (q)))] := hl
  refine lv_iload_n X.1 X.2.1 dX5_restore_0 rfl (lv_at hl 1 rfl) ?_
  refine lv_iconst (v := nI (0)) X.1 X.2.1 dX5_restore_1 (by decide +kernel) ?_
  refine lv_iconst (v := nI (1)) X.1 X.2.1 dX5_restore_2 (by decide +kernel) ?_
  refine tb_cSi X hH hl.1 (c_X5_isWithin l g z (nI (q)) (nI (0)) (nI (1))) ky_X5_isWithin.1 ky_X5_isWithin.2 wm_115 rfl rfl (Nat.le_of_ble_eq_true rfl) ⟨by decide, by decide⟩ ⟨by decide, by decide⟩ dX5_restore_3 (fun H locs hH => ?_)
  refine tb_jbne (tgt := 12) X dX5_restore_6 (by decide) (fun _ => ?_) (fun c => (c ⟨nI_nlt (by omega) (by omega), nI_nlt (by omega) (by omega)⟩ : False).elim)
  refine lv_aload_n X.1 X.2.1 dX5_restore_12 rfl (lv_at hl 0 rfl) ?_
  refine tb_get X hH tb_Tc.1 (tb_Tc.2 _ _) rfl inlX5 3 (by decide) wm_20 (v := .ref (tb_ad g (152))) rfl dX5_restore_13 ?_
  refine lv_iload_n X.1 X.2.1 dX5_restore_16 rfl (lv_at hl 1 rfl) ?_
  refine tb_zld X hH (q) rfl (by omega) dX5_restore_17 ?_
  refine lv_if_ne (tgt := 24) X.1 X.2.1 dX5_restore_18 (by decide) (fun c_1 => ?_) (fun c_1 => ?_)
  · refine lv_aload_n X.1 X.2.1 dX5_restore_24 rfl (lv_at hl 0 rfl) ?_
    refine tb_get X hH tb_Tc.1 (tb_Tc.2 _ _) rfl inlX5 4 (by decide) wm_24 (v := .ref (tb_ad g (153))) rfl dX5_restore_25 ?_
    refine lv_aload_n X.1 X.2.1 dX5_restore_28 rfl (lv_at hl 0 rfl) ?_
    refine tb_get X hH tb_Tc.1 (tb_Tc.2 _ _) rfl inlX5 0 (by decide) wm_16 (v := .ref (tb_ad g (0))) rfl dX5_restore_29 ?_
    refine tb_cVv X hH hl.1 (c_X2_record l g z 0 tb_D0 (tb_rc z) hrc.1 (Nat.lt_trans hrc.2 (by decide))) ky_X2_record.1 ky_X2_record.2 wm_116 tb_oH rfl rfl (Nat.le_of_ble_eq_true rfl) ⟨by decide, by decide⟩ ⟨by decide, by decide⟩ dX5_restore_32 (fun H locs hH => ?_)
    have hH : tb_H g s.heap (sz_X5_restore_m1 z q) H locs := hH
    refine lv_aload_n X.1 X.2.1 dX5_restore_35 rfl (lv_at hl 0 rfl) ?_
    refine tb_get X hH tb_Tc.1 (tb_Tc.2 _ _) rfl inlX5 0 (by decide) wm_16 (v := .ref (tb_ad g (0))) rfl dX5_restore_36 ?_
    refine lv_aload_n X.1 X.2.1 dX5_restore_39 rfl (lv_at hl 0 rfl) ?_
    refine tb_get X hH tb_Tc.1 (tb_Tc.2 _ _) rfl inlX5 2 (by decide) wm_18 (v := .ref (tb_ad g (151))) rfl dX5_restore_40 ?_
    refine lv_iload_n X.1 X.2.1 dX5_restore_43 rfl (lv_at hl 1 rfl) ?_
    refine tb_aalS X hH (q) rfl (by omega) dX5_restore_44 ?_
    refine tb_cVv X hH hl.1 (c_X1_copyFrom l g (sz_X5_restore_m1 z q) 0 tb_D0 (30 + 15 * q) (tb_DS (j := q) (by omega))) ky_X1_copyFrom.1 ky_X1_copyFrom.2 wm_539 (tb_oD tb_D0) rfl rfl (Nat.le_of_ble_eq_true rfl) ⟨by decide, by decide⟩ ⟨by decide, by decide⟩ dX5_restore_45 (fun H locs hH => ?_)
    have hH : tb_H g s.heap (sz_X5_restore_m2 z q) H locs := hH
    refine lv_aload_n X.1 X.2.1 dX5_restore_48 rfl (lv_at hl 0 rfl) ?_
    refine tb_get X hH tb_Tc.1 (tb_Tc.2 _ _) rfl inlX5 0 (by decide) wm_16 (v := .ref (tb_ad g (0))) rfl dX5_restore_49 ?_
    refine tb_get X hH (tb_Dc tb_D0).1 ((tb_Dc tb_D0).2 _ _) rfl inlX1 5 (by decide) wm_177 (v := .int ((sz_X5_restore_m2 z q) 0 5)) rfl dX5_restore_52 ?_
    exact tb_ri X hr hlk hH ⟨(by rw [sr_X5_restore]; simp only [if_neg c_1]), (by rw [sz_X5_restore]; simp only [if_neg c_1])⟩ dX5_restore_55
  · refine lv_bipush (v := (-5)) X.1 X.2.1 dX5_restore_21 (by decide +kernel) ?_
    exact tb_ri X hr hlk hH ⟨(by rw [sr_X5_restore]; simp only [if_pos c_1]), (by rw [sz_X5_restore]; simp only [if_pos c_1])⟩ dX5_restore_23
def sz_X5_ifStarted_m1 (z : tb_M) (q : Prop) [Decidable q] : tb_M := sz_X1_startBy (sz_X1_copyFrom_m6 z 15 0) 15 (nI (if q then 2 else 0))
def sr_X5_ifStarted (z : tb_M) (q : Prop) [Decidable q] : Int32 := ((sz_X5_ifStarted_m1 z q) 15 5) + ((nI (10)) * (((sr_X1_badSlots (sz_X5_ifStarted_m1 z q) 15)) - ((sr_X1_badSlots (sz_X5_ifStarted_m1 z q) 0))))
set_option maxHeartbeats 1000000 in
set_option maxRecDepth 100000 in
theorem c_X5_ifStarted (l : Launch) (g : tb_G) (z : tb_M) (q : Prop) [Decidable q] (hS : tb_okS (sz_X1_copyFrom_m6 z 15 0) 15) : tb_Mi (.int) l yX5_ifStarted cX5_ifStarted 2 5 g z [.ref (tb_ad g 150), .int (tb_b q)] (sr_X5_ifStarted z q) (sz_X5_ifStarted_m1 z q) := by
  refine tb_goi (own := RX5) (by decide +kernel) rfl (Nat.le_of_ble_eq_true rfl) ?_
  intro p e s m below meth c ls X hr hlk hH hl
  have hl : lv_has ls 2 [(0, .ref (tb_ad g (150))), (1, .int (tb_b (q)))] := hl
  refine lv_aload_n X.1 X.2.1 dX5_ifStarted_0 rfl (lv_at hl 0 rfl) ?_
  refine tb_get X hH tb_Tc.1 (tb_Tc.2 _ _) rfl inlX5 1 (by decide) wm_17 (v := .ref (tb_ad g (15))) rfl dX5_ifStarted_1 ?_
  refine lv_aload_n X.1 X.2.1 dX5_ifStarted_4 rfl (lv_at hl 0 rfl) ?_
  refine tb_get X hH tb_Tc.1 (tb_Tc.2 _ _) rfl inlX5 0 (by decide) wm_16 (v := .ref (tb_ad g (0))) rfl dX5_ifStarted_5 ?_
  refine tb_cVv X hH hl.1 (c_X1_copyFrom l g z 15 tb_D15 0 tb_D0) ky_X1_copyFrom.1 ky_X1_copyFrom.2 wm_539 (tb_oD tb_D15) rfl rfl (Nat.le_of_ble_eq_true rfl) ⟨by decide, by decide⟩ ⟨by decide, by decide⟩ dX5_ifStarted_8 (fun H locs hH => ?_)
  refine lv_aload_n X.1 X.2.1 dX5_ifStarted_11 rfl (lv_at hl 0 rfl) ?_
  refine tb_get X hH tb_Tc.1 (tb_Tc.2 _ _) rfl inlX5 1 (by decide) wm_17 (v := .ref (tb_ad g (15))) rfl dX5_ifStarted_12 ?_
  refine lv_iload_n X.1 X.2.1 dX5_ifStarted_15 rfl (lv_at hl 1 rfl) ?_
  have J_1 : ∀ (H : Heap) (locs : List Loc) (ls : Array Slot) (vq1 : Int32), vq1 = (nI (if q then 2 else 0)) → tb_H g s.heap (sz_X1_copyFrom_m6 z 15 0) H locs → lv_has ls 2 [(0, .ref (tb_ad g (150))), (1, .int (tb_b (q)))] → W p l e (tb_rm 5) s m ([.ref (tb_ad g 150), .int (tb_b q)] : List Value).toArray below meth c H locs 0 0 (MQ below (va_Qi (fun r9 u9 => r9 = sr_X5_ifStarted z q ∧ u9 = sz_X5_ifStarted_m1 z q) (tb_B g) (tb_A g)) ([.ref (tb_ad g 150), .int (tb_b q)] : List Value).toArray s 0 0 (tb_A g)) (F0 m 24 ls [.int vq1, .ref (tb_ad g (15))]) := by
    intro H locs ls vq1 evq1 hH hl
    subst evq1
    refine tb_cVv X hH hl.1 (c_X1_startBy l g (sz_X1_copyFrom_m6 z 15 0) 15 tb_D15 (nI (if q then 2 else 0)) hS) ky_X1_startBy.1 ky_X1_startBy.2 wm_356 (tb_oD tb_D15) rfl rfl (Nat.le_of_ble_eq_true rfl) ⟨by decide, by decide⟩ ⟨by decide, by decide⟩ dX5_ifStarted_24 (fun H locs hH => ?_)
    have hH : tb_H g s.heap (sz_X5_ifStarted_m1 z q) H locs := hH
    refine lv_aload_n X.1 X.2.1 dX5_ifStarted_27 rfl (lv_at hl 0 rfl) ?_
    refine tb_get X hH tb_Tc.1 (tb_Tc.2 _ _) rfl inlX5 1 (by decide) wm_17 (v := .ref (tb_ad g (15))) rfl dX5_ifStarted_28 ?_
    refine tb_get X hH (tb_Dc tb_D15).1 ((tb_Dc tb_D15).2 _ _) rfl inlX1 5 (by decide) wm_177 (v := .int ((sz_X5_ifStarted_m1 z q) 15 5)) rfl dX5_ifStarted_31 ?_
    refine lv_bipush (v := nI (10)) X.1 X.2.1 dX5_ifStarted_34 (by decide +kernel) ?_
    refine lv_aload_n X.1 X.2.1 dX5_ifStarted_36 rfl (lv_at hl 0 rfl) ?_
    refine tb_get X hH tb_Tc.1 (tb_Tc.2 _ _) rfl inlX5 1 (by decide) wm_17 (v := .ref (tb_ad g (15))) rfl dX5_ifStarted_37 ?_
    refine tb_cVi X hH hl.1 (c_X1_badSlots l g (sz_X5_ifStarted_m1 z q) 15 tb_D15) ky_X1_badSlots.1 ky_X1_badSlots.2 wm_540 (tb_oD tb_D15) rfl rfl (Nat.le_of_ble_eq_true rfl) ⟨by decide, by decide⟩ ⟨by decide, by decide⟩ dX5_ifStarted_40 (fun H locs hH => ?_)
    refine lv_aload_n X.1 X.2.1 dX5_ifStarted_43 rfl (lv_at hl 0 rfl) ?_
    refine tb_get X hH tb_Tc.1 (tb_Tc.2 _ _) rfl inlX5 0 (by decide) wm_16 (v := .ref (tb_ad g (0))) rfl dX5_ifStarted_44 ?_
    refine tb_cVi X hH hl.1 (c_X1_badSlots l g (sz_X5_ifStarted_m1 z q) 0 tb_D0) ky_X1_badSlots.1 ky_X1_badSlots.2 wm_540 (tb_oD tb_D0) rfl rfl (Nat.le_of_ble_eq_true rfl) ⟨by decide, by decide⟩ ⟨by decide, by decide⟩ dX5_ifStarted_47 (fun H locs hH => ?_)
    refine lv_isub X.1 X.2.1 dX5_ifStarted_50 ?_
    refine lv_imul X.1 X.2.1 dX5_ifStarted_51 ?_
    refine lv_iadd X.1 X.2.1 dX5_ifStarted_52 ?_
    exact tb_ri X hr hlk hH ⟨(by rw [sr_X5_ifStarted]), rfl⟩ dX5_ifStarted_53
  refine tb_jbeq (tgt := 23) X dX5_ifStarted_16 (by decide) (fun c_1 => ?_) (fun c_1 => ?_)
  · refine lv_iconst (v := nI (0)) X.1 X.2.1 dX5_ifStarted_23 (by decide +kernel) ?_
    exact J_1 _ _ _ _ (by simp only [if_neg c_1]) hH (lv_sub hl [0, 1] rfl)
  · refine lv_iconst (v := nI (2)) X.1 X.2.1 dX5_ifStarted_19 (by decide +kernel) ?_
    refine lv_goto (tgt := 24) X.1 X.2.1 dX5_ifStarted_20 (by decide) ?_
    exact J_1 _ _ _ _ (by simp only [if_pos c_1]) hH (lv_sub hl [0, 1] rfl)
set_option maxHeartbeats 1000000 in
set_option maxRecDepth 100000 in
theorem c_X5_ifPassed_bad (l : Launch) (g : tb_G) (z : tb_M) (x : Int32) (w : Int32) (hx : ¬ (¬ (x < nI 1) ∧ (¬ (nI 500 < x)))) : tb_Mi (.int) l yX5_ifPassed cX5_ifPassed 4 1 g z [.ref (tb_ad g 150), .int x, .int w] ((-2)) (z) := by
  refine tb_goi (own := RX5) (by decide +kernel) rfl (Nat.le_of_ble_eq_true rfl) ?_
  intro p e s m below meth c ls X hr hlk hH hl
  have hl : lv_has ls 4 [(0, .ref (tb_ad g (150))), (1, .int (x)), (2, .int (w))] := hl
  refine lv_iload_n X.1 X.2.1 dX5_ifPassed_0 rfl (lv_at hl 1 rfl) ?_
  refine lv_iconst (v := nI (1)) X.1 X.2.1 dX5_ifPassed_1 (by decide +kernel) ?_
  refine lv_sipush (v := nI (500)) X.1 X.2.1 dX5_ifPassed_2 (by decide +kernel) ?_
  refine tb_cSi X hH hl.1 (c_X5_isWithin l g z x (nI (1)) (nI (500))) ky_X5_isWithin.1 ky_X5_isWithin.2 wm_115 rfl rfl (Nat.le_of_ble_eq_true rfl) ⟨by decide, by decide⟩ ⟨by decide, by decide⟩ dX5_ifPassed_5 (fun H locs hH => ?_)
  refine tb_jbeq (tgt := 20) X dX5_ifPassed_8 (by decide) (fun _ => ?_) (fun c => (hx c : False).elim)
  refine lv_bipush (v := (-2)) X.1 X.2.1 dX5_ifPassed_20 (by decide +kernel) ?_
  exact tb_ri X hr hlk hH ⟨rfl, rfl⟩ dX5_ifPassed_22
def sz_X5_ifPassed (z : tb_M) (t : Nat) (w : Int32) : tb_M := if (¬ (w < (nI (0))) ∧ (¬ ((nI (3)) < w))) then (tb_lpZ (sz_X1_copyFrom_m6 z 15 0) 15 t) else z
def sr_X5_ifPassed (z : tb_M) (t : Nat) (w : Int32) : Int32 := if (¬ (w < (nI (0))) ∧ (¬ ((nI (3)) < w))) then (if w = nI 0 then ((tb_lpN (sz_X1_copyFrom_m6 z 15 0) 15 t)) else (if w = nI 1 then ((tb_lpZ (sz_X1_copyFrom_m6 z 15 0) 15 t) 15 5) else (if w = nI 2 then ((tb_lpZ (sz_X1_copyFrom_m6 z 15 0) 15 t) ((tb_at 15 0)) 0) else ((tb_lpZ (sz_X1_copyFrom_m6 z 15 0) 15 t) ((tb_at 15 1)) 0)))) else ((-2))
set_option maxHeartbeats 1000000 in
set_option maxRecDepth 100000 in
theorem c_X5_ifPassed (l : Launch) (g : tb_G) (z : tb_M) (t : Nat) (w : Int32) (ht : 1 ≤ t ∧ t ≤ 500) (hW : ∀ i, i < t → tb_okT (tb_lpZ (sz_X1_copyFrom_m6 z 15 0) 15 i) 15) : tb_Mi (.int) l yX5_ifPassed cX5_ifPassed 4 6 g z [.ref (tb_ad g 150), .int (nI t), .int w] (sr_X5_ifPassed z t w) (sz_X5_ifPassed z t w) := by
  refine tb_goi (own := RX5) (by decide +kernel) rfl (Nat.le_of_ble_eq_true rfl) ?_
  intro p e s m below meth c ls X hr hlk hH hl
  have hl : lv_has ls 4 [(0, .ref (tb_ad g (150))), (1, .int (nI (t))), (2, .int (w))] := hl
  refine lv_iload_n X.1 X.2.1 dX5_ifPassed_0 rfl (lv_at hl 1 rfl) ?_
  refine lv_iconst (v := nI (1)) X.1 X.2.1 dX5_ifPassed_1 (by decide +kernel) ?_
  refine lv_sipush (v := nI (500)) X.1 X.2.1 dX5_ifPassed_2 (by decide +kernel) ?_
  refine tb_cSi X hH hl.1 (c_X5_isWithin l g z (nI (t)) (nI (1)) (nI (500))) ky_X5_isWithin.1 ky_X5_isWithin.2 wm_115 rfl rfl (Nat.le_of_ble_eq_true rfl) ⟨by decide, by decide⟩ ⟨by decide, by decide⟩ dX5_ifPassed_5 (fun H locs hH => ?_)
  refine tb_jbeq (tgt := 20) X dX5_ifPassed_8 (by decide) (fun c => (c ⟨nI_nlt (by omega) (by omega), nI_nlt (by omega) (by omega)⟩ : False).elim) (fun _ => ?_)
  refine lv_iload_n X.1 X.2.1 dX5_ifPassed_11 rfl (lv_at hl 2 rfl) ?_
  refine lv_iconst (v := nI (0)) X.1 X.2.1 dX5_ifPassed_12 (by decide +kernel) ?_
  refine lv_iconst (v := nI (3)) X.1 X.2.1 dX5_ifPassed_13 (by decide +kernel) ?_
  refine tb_cSi X hH hl.1 (c_X5_isWithin l g z w (nI (0)) (nI (3))) ky_X5_isWithin.1 ky_X5_isWithin.2 wm_115 rfl rfl (Nat.le_of_ble_eq_true rfl) ⟨by decide, by decide⟩ ⟨by decide, by decide⟩ dX5_ifPassed_14 (fun H locs hH => ?_)
  refine tb_jbne (tgt := 23) X dX5_ifPassed_17 (by decide) (fun c_1 => ?_) (fun c_1 => ?_)
  · refine lv_aload_n X.1 X.2.1 dX5_ifPassed_23 rfl (lv_at hl 0 rfl) ?_
    refine tb_get X hH tb_Tc.1 (tb_Tc.2 _ _) rfl inlX5 1 (by decide) wm_17 (v := .ref (tb_ad g (15))) rfl dX5_ifPassed_24 ?_
    refine lv_aload_n X.1 X.2.1 dX5_ifPassed_27 rfl (lv_at hl 0 rfl) ?_
    refine tb_get X hH tb_Tc.1 (tb_Tc.2 _ _) rfl inlX5 0 (by decide) wm_16 (v := .ref (tb_ad g (0))) rfl dX5_ifPassed_28 ?_
    refine tb_cVv X hH hl.1 (c_X1_copyFrom l g z 15 tb_D15 0 tb_D0) ky_X1_copyFrom.1 ky_X1_copyFrom.2 wm_539 (tb_oD tb_D15) rfl rfl (Nat.le_of_ble_eq_true rfl) ⟨by decide, by decide⟩ ⟨by decide, by decide⟩ dX5_ifPassed_31 (fun H locs hH => ?_)
    refine lv_aload_n X.1 X.2.1 dX5_ifPassed_34 rfl (lv_at hl 0 rfl) ?_
    refine tb_get X hH tb_Tc.1 (tb_Tc.2 _ _) rfl inlX5 1 (by decide) wm_17 (v := .ref (tb_ad g (15))) rfl dX5_ifPassed_35 ?_
    refine lv_iload_n X.1 X.2.1 dX5_ifPassed_38 rfl (lv_at hl 1 rfl) ?_
    refine tb_cVi X hH hl.1 (c_X1_letPass l g (sz_X1_copyFrom_m6 z 15 0) 15 tb_D15 t (by omega) hW) ky_X1_letPass.1 ky_X1_letPass.2 wm_425 (tb_oD tb_D15) rfl rfl (Nat.le_of_ble_eq_true rfl) ⟨by decide, by decide⟩ ⟨by decide, by decide⟩ dX5_ifPassed_39 (fun H locs hH => ?_)
    refine lv_istore_n (lv' := [(3, .int ((tb_lpN (sz_X1_copyFrom_m6 z 15 0) 15 t))), (0, .ref (tb_ad g (150))), (1, .int (nI (t))), (2, .int (w))]) X.1 X.2.1 dX5_ifPassed_42 rfl hl (by decide) rfl (fun ls hl => ?_)
    refine lv_iload_n X.1 X.2.1 dX5_ifPassed_43 rfl (lv_at hl 3 rfl) ?_
    by_cases c_2 : w = nI 0
    · refine lv_tableIn (off := 28) (tgt := 72) X.1 X.2.1 dX5_ifPassed_44 (by rw [c_2]; decide +kernel) (by rw [c_2]; decide +kernel) (by rw [c_2]; decide +kernel) (by decide) ?_
      refine lv_iload_n X.1 X.2.1 dX5_ifPassed_72 rfl (lv_at hl 0 rfl) ?_
      exact tb_ri X hr hlk hH ⟨(by rw [sr_X5_ifPassed]; simp only [if_pos c_1, if_pos c_2]), (by rw [sz_X5_ifPassed]; simp only [if_pos c_1])⟩ dX5_ifPassed_73
    · by_cases c_3 : w = nI 1
      · refine lv_tableIn (off := 30) (tgt := 74) X.1 X.2.1 dX5_ifPassed_44 (by rw [c_3]; decide +kernel) (by rw [c_3]; decide +kernel) (by rw [c_3]; decide +kernel) (by decide) ?_
        refine lv_aload_n X.1 X.2.1 dX5_ifPassed_74 rfl (lv_at hl 1 rfl) ?_
        refine tb_get X hH tb_Tc.1 (tb_Tc.2 _ _) rfl inlX5 1 (by decide) wm_17 (v := .ref (tb_ad g (15))) rfl dX5_ifPassed_75 ?_
        refine tb_get X hH (tb_Dc tb_D15).1 ((tb_Dc tb_D15).2 _ _) rfl inlX1 5 (by decide) wm_177 (v := .int ((tb_lpZ (sz_X1_copyFrom_m6 z 15 0) 15 t) 15 5)) rfl dX5_ifPassed_78 ?_
        exact tb_ri X hr hlk hH ⟨(by rw [sr_X5_ifPassed]; simp only [if_pos c_1, if_neg c_2, if_pos c_3]), (by rw [sz_X5_ifPassed]; simp only [if_pos c_1])⟩ dX5_ifPassed_81
      · by_cases c_4 : w = nI 2
        · refine lv_tableIn (off := 38) (tgt := 82) X.1 X.2.1 dX5_ifPassed_44 (by rw [c_4]; decide +kernel) (by rw [c_4]; decide +kernel) (by rw [c_4]; decide +kernel) (by decide) ?_
          refine lv_aload_n X.1 X.2.1 dX5_ifPassed_82 rfl (lv_at hl 1 rfl) ?_
          refine tb_get X hH tb_Tc.1 (tb_Tc.2 _ _) rfl inlX5 1 (by decide) wm_17 (v := .ref (tb_ad g (15))) rfl dX5_ifPassed_83 ?_
          refine lv_iconst (v := nI (0)) X.1 X.2.1 dX5_ifPassed_86 (by decide +kernel) ?_
          refine tb_cVr X hH hl.1 (c_X1_areaAt l g (tb_lpZ (sz_X1_copyFrom_m6 z 15 0) 15 t) 15 tb_D15 0 (by first | assumption | omega | decide)) ky_X1_areaAt.1 ky_X1_areaAt.2 wm_204 (tb_oD tb_D15) rfl rfl (Nat.le_of_ble_eq_true rfl) ⟨by decide, by decide⟩ ⟨by decide, by decide⟩ dX5_ifPassed_87 (fun H locs hH => ?_)
          refine tb_get X hH (tb_Ac (tb_isat tb_D15 0)).1 ((tb_Ac (tb_isat tb_D15 0)).2 _ _) rfl inlX0 0 (by decide) wm_245 (v := .int ((tb_lpZ (sz_X1_copyFrom_m6 z 15 0) 15 t) ((tb_at 15 0)) 0)) rfl dX5_ifPassed_90 ?_
          exact tb_ri X hr hlk hH ⟨(by rw [sr_X5_ifPassed]; simp only [if_pos c_1, if_neg c_2, if_neg c_3, if_pos c_4]), (by rw [sz_X5_ifPassed]; simp only [if_pos c_1])⟩ dX5_ifPassed_93
        · refine lv_tableOut (tgt := 94) X.1 X.2.1 dX5_ifPassed_44 (tb_out2 c_2 c_3 c_4) (by decide) ?_
          refine lv_aload_n X.1 X.2.1 dX5_ifPassed_94 rfl (lv_at hl 1 rfl) ?_
          refine tb_get X hH tb_Tc.1 (tb_Tc.2 _ _) rfl inlX5 1 (by decide) wm_17 (v := .ref (tb_ad g (15))) rfl dX5_ifPassed_95 ?_
          refine lv_iconst (v := nI (1)) X.1 X.2.1 dX5_ifPassed_98 (by decide +kernel) ?_
          refine tb_cVr X hH hl.1 (c_X1_areaAt l g (tb_lpZ (sz_X1_copyFrom_m6 z 15 0) 15 t) 15 tb_D15 1 (by first | assumption | omega | decide)) ky_X1_areaAt.1 ky_X1_areaAt.2 wm_204 (tb_oD tb_D15) rfl rfl (Nat.le_of_ble_eq_true rfl) ⟨by decide, by decide⟩ ⟨by decide, by decide⟩ dX5_ifPassed_99 (fun H locs hH => ?_)
          refine tb_get X hH (tb_Ac (tb_isat tb_D15 1)).1 ((tb_Ac (tb_isat tb_D15 1)).2 _ _) rfl inlX0 0 (by decide) wm_245 (v := .int ((tb_lpZ (sz_X1_copyFrom_m6 z 15 0) 15 t) ((tb_at 15 1)) 0)) rfl dX5_ifPassed_102 ?_
          exact tb_ri X hr hlk hH ⟨(by rw [sr_X5_ifPassed]; simp only [if_pos c_1, if_neg c_2, if_neg c_3, if_neg c_4]), (by rw [sz_X5_ifPassed]; simp only [if_pos c_1])⟩ dX5_ifPassed_105
  · refine lv_bipush (v := (-2)) X.1 X.2.1 dX5_ifPassed_20 (by decide +kernel) ?_
    exact tb_ri X hr hlk hH ⟨(by rw [sr_X5_ifPassed]; simp only [if_neg c_1]), (by rw [sz_X5_ifPassed]; simp only [if_neg c_1])⟩ dX5_ifPassed_22
set_option maxHeartbeats 1000000 in
set_option maxRecDepth 100000 in
theorem c_X5_nextStart (l : Launch) (g : tb_G) (z : tb_M) (hW : ∀ i, i < 2000 → tb_okT (tb_lpZ (sz_X1_copyFrom_m6 z 15 0) 15 i) 15) : tb_Mi (.int) l yX5_nextStart cX5_nextStart 2 3 g z [.ref (tb_ad g 150)] (tb_nsR (sz_X1_copyFrom_m6 z 15 0) 15 2000 0) (tb_nsZ (sz_X1_copyFrom_m6 z 15 0) 15 2000 0) := by
  refine tb_goi (own := RX5) (by decide +kernel) rfl (Nat.le_of_ble_eq_true rfl) ?_
  intro p e s m below meth c ls X hr hlk hH hl
  have hl : lv_has ls 2 [(0, .ref (tb_ad g (150)))] := hl
  refine lv_aload_n X.1 X.2.1 dX5_nextStart_0 rfl (lv_at hl 0 rfl) ?_
  refine tb_get X hH tb_Tc.1 (tb_Tc.2 _ _) rfl inlX5 1 (by decide) wm_17 (v := .ref (tb_ad g (15))) rfl dX5_nextStart_1 ?_
  refine lv_aload_n X.1 X.2.1 dX5_nextStart_4 rfl (lv_at hl 0 rfl) ?_
  refine tb_get X hH tb_Tc.1 (tb_Tc.2 _ _) rfl inlX5 0 (by decide) wm_16 (v := .ref (tb_ad g (0))) rfl dX5_nextStart_5 ?_
  refine tb_cVv X hH hl.1 (c_X1_copyFrom l g z 15 tb_D15 0 tb_D0) ky_X1_copyFrom.1 ky_X1_copyFrom.2 wm_539 (tb_oD tb_D15) rfl rfl (Nat.le_of_ble_eq_true rfl) ⟨by decide, by decide⟩ ⟨by decide, by decide⟩ dX5_nextStart_8 (fun H locs hH => ?_)
  refine lv_iconst (v := nI (1)) X.1 X.2.1 dX5_nextStart_11 (by decide +kernel) ?_
  refine lv_istore_n (lv' := [(1, .int (nI (1))), (0, .ref (tb_ad g (150)))]) X.1 X.2.1 dX5_nextStart_12 rfl hl (by decide) rfl (fun ls hl => ?_)
  have L_13 : ∀ (k : Nat) (i : Nat), i + k = 2000 → tb_nsR (sz_X1_copyFrom_m6 z 15 0) 15 2000 0 = tb_nsR (sz_X1_copyFrom_m6 z 15 0) 15 k i → tb_nsZ (sz_X1_copyFrom_m6 z 15 0) 15 2000 0 = tb_nsZ (sz_X1_copyFrom_m6 z 15 0) 15 k i → ∀ (H : Heap) (locs : List Loc) (ls : Array Slot), tb_H g s.heap (tb_lpZ (sz_X1_copyFrom_m6 z 15 0) 15 i) H locs → lv_has ls 2 [(0, .ref (tb_ad g (150))), (1, .int (nI (i + 1)))] → W p l e (tb_rm 3) s m ([.ref (tb_ad g 150)] : List Value).toArray below meth c H locs 0 0 (MQ below (va_Qi (fun r9 u9 => r9 = tb_nsR (sz_X1_copyFrom_m6 z 15 0) 15 2000 0 ∧ u9 = tb_nsZ (sz_X1_copyFrom_m6 z 15 0) 15 2000 0) (tb_B g) (tb_A g)) ([.ref (tb_ad g 150)] : List Value).toArray s 0 0 (tb_A g)) (F0 m 13 ls []) := by
    intro k
    induction k with
    | zero =>
      intro i hik hR hZ H locs ls hH hl
      refine lv_iload_n X.1 X.2.1 dX5_nextStart_13 rfl (lv_at hl 1 rfl) ?_
      refine lv_sipush (v := nI (2000)) X.1 X.2.1 dX5_nextStart_14 (by decide +kernel) ?_
      refine tb_ngt (tgt := 38) X (by omega) (by omega) dX5_nextStart_17 (by decide) (fun _ => ?_) (fun c => ((by omega) : False).elim)
      refine lv_bipush (v := (-6)) X.1 X.2.1 dX5_nextStart_38 (by decide +kernel) ?_
      exact tb_ri X hr hlk hH ⟨(by rw [hR, tb_nsR]), (by rw [hZ, tb_nsZ])⟩ dX5_nextStart_40
    | succ k ih_13 =>
      intro i hik hR hZ H locs ls hH hl
      refine lv_iload_n X.1 X.2.1 dX5_nextStart_13 rfl (lv_at hl 1 rfl) ?_
      refine lv_sipush (v := nI (2000)) X.1 X.2.1 dX5_nextStart_14 (by decide +kernel) ?_
      refine tb_ngt (tgt := 38) X (by omega) (by omega) dX5_nextStart_17 (by decide) (fun c => ((by omega) : False).elim) (fun _ => ?_)
      refine lv_aload_n X.1 X.2.1 dX5_nextStart_20 rfl (lv_at hl 0 rfl) ?_
      refine tb_get X hH tb_Tc.1 (tb_Tc.2 _ _) rfl inlX5 1 (by decide) wm_17 (v := .ref (tb_ad g (15))) rfl dX5_nextStart_21 ?_
      refine tb_cVi X hH hl.1 (c_X1_needsStartInTick l g (tb_lpZ (sz_X1_copyFrom_m6 z 15 0) 15 i) 15 tb_D15 (hW i (by omega))) ky_X1_needsStartInTick.1 ky_X1_needsStartInTick.2 wm_564 (tb_oD tb_D15) rfl rfl (Nat.le_of_ble_eq_true rfl) ⟨by decide, by decide⟩ ⟨by decide, by decide⟩ dX5_nextStart_24 (fun H locs hH => ?_)
      refine tb_jbeq (tgt := 32) X dX5_nextStart_27 (by decide) (fun c_1 => ?_) (fun c_1 => ?_)
      · refine lv_iinc (v := nI ((i + 1) + 1)) (lv' := [(1, .int (nI ((i + 1) + 1))), (0, .ref (tb_ad g (150)))]) X.1 X.2.1 dX5_nextStart_32 hl (k := 1) rfl (nI_add _ _) (by decide) rfl (fun ls hl => ?_)
        refine lv_goto (tgt := 13) X.1 X.2.1 dX5_nextStart_35 (by decide) ?_
        exact ih_13 (i + 1) (by omega) (by rw [hR, tb_nsR, if_neg c_1]) (by rw [hZ, tb_nsZ, if_neg c_1]) _ _ _ (by rw [tb_lpZ_f c_1]; exact hH) (lv_sub hl [1, 0] rfl)
      · refine lv_iload_n X.1 X.2.1 dX5_nextStart_30 rfl (lv_at hl 1 rfl) ?_
        exact tb_ri X hr hlk hH ⟨(by rw [hR, tb_nsR, if_pos c_1]), (by rw [hZ, tb_nsZ, if_pos c_1])⟩ dX5_nextStart_31
  exact L_13 2000 0 rfl rfl rfl _ _ _ hH (lv_sub hl [1, 0] rfl)
set_option maxHeartbeats 1000000 in
set_option maxRecDepth 100000 in
theorem c_X5_set_bad (l : Launch) (g : tb_G) (z : tb_M) (x : Int32) (y : Int32) (hx : ¬ (¬ (x < nI 0) ∧ (¬ (nI 2 < x)))) : tb_Mi (.int) l yX5_set cX5_set 4 1 g z [.ref (tb_ad g 150), .int x, .int y] ((-2)) (z) := by
  refine tb_goi (own := RX5) (by decide +kernel) rfl (Nat.le_of_ble_eq_true rfl) ?_
  intro p e s m below meth c ls X hr hlk hH hl
  have hl : lv_has ls 4 [(0, .ref (tb_ad g (150))), (1, .int (x)), (2, .int (y))] := hl
  refine lv_iload_n X.1 X.2.1 dX5_set_0 rfl (lv_at hl 1 rfl) ?_
  refine lv_iconst (v := nI (0)) X.1 X.2.1 dX5_set_1 (by decide +kernel) ?_
  refine lv_iconst (v := nI (2)) X.1 X.2.1 dX5_set_2 (by decide +kernel) ?_
  refine tb_cSi X hH hl.1 (c_X5_isWithin l g z x (nI (0)) (nI (2))) ky_X5_isWithin.1 ky_X5_isWithin.2 wm_115 rfl rfl (Nat.le_of_ble_eq_true rfl) ⟨by decide, by decide⟩ ⟨by decide, by decide⟩ dX5_set_3 (fun H locs hH => ?_)
  refine tb_jbeq (tgt := 22) X dX5_set_6 (by decide) (fun _ => ?_) (fun c => (hx c : False).elim)
  refine lv_bipush (v := (-2)) X.1 X.2.1 dX5_set_22 (by decide +kernel) ?_
  exact tb_ri X hr hlk hH ⟨rfl, rfl⟩ dX5_set_24
def sz_X5_set_m1 (z : tb_M) (q : Nat) (y : Int32) : tb_M := sz_X2_record z 0 (tb_rc z)
def sz_X5_set (z : tb_M) (q : Nat) (y : Int32) : tb_M := if (¬ (y < (nI (1))) ∧ (¬ ((tb_mx q) < y))) then (tb_up (sz_X5_set_m1 z q y) 1 q y) else z
def sr_X5_set (z : tb_M) (q : Nat) (y : Int32) : Int32 := if (¬ (y < (nI (1))) ∧ (¬ ((tb_mx q) < y))) then ((sz_X5_set_m1 z q y) 1 q) else ((-2))
set_option maxHeartbeats 1000000 in
set_option maxRecDepth 100000 in
theorem c_X5_set (l : Launch) (g : tb_G) (z : tb_M) (q : Nat) (y : Int32) (hq : q < 3) (hrc : tb_okR z) : tb_Mi (.int) l yX5_set cX5_set 4 4 g z [.ref (tb_ad g 150), .int (nI q), .int y] (sr_X5_set z q y) (sz_X5_set z q y) := by
  refine tb_goi (own := RX5) (by decide +kernel) rfl (Nat.le_of_ble_eq_true rfl) ?_
  intro p e s m below meth c ls X hr hlk hH hl
  have hl : lv_has ls 4 [(0, .ref (tb_ad g (150))), (1, .int (nI (q))), (2, .int (y))] := hl
  obtain ⟨t9, hZ9, hT9⟩ := X.2.2.2.2.1.2.2.2
  refine lv_iload_n X.1 X.2.1 dX5_set_0 rfl (lv_at hl 1 rfl) ?_
  refine lv_iconst (v := nI (0)) X.1 X.2.1 dX5_set_1 (by decide +kernel) ?_
  refine lv_iconst (v := nI (2)) X.1 X.2.1 dX5_set_2 (by decide +kernel) ?_
  refine tb_cSi X hH hl.1 (c_X5_isWithin l g z (nI (q)) (nI (0)) (nI (2))) ky_X5_isWithin.1 ky_X5_isWithin.2 wm_115 rfl rfl (Nat.le_of_ble_eq_true rfl) ⟨by decide, by decide⟩ ⟨by decide, by decide⟩ dX5_set_3 (fun H locs hH => ?_)
  refine tb_jbeq (tgt := 22) X dX5_set_6 (by decide) (fun c => (c ⟨nI_nlt (by omega) (by omega), nI_nlt (by omega) (by omega)⟩ : False).elim) (fun _ => ?_)
  refine lv_iload_n X.1 X.2.1 dX5_set_9 rfl (lv_at hl 2 rfl) ?_
  refine lv_iconst (v := nI (1)) X.1 X.2.1 dX5_set_10 (by decide +kernel) ?_
  refine va_gets X.1 X.2.1 hZ9 hH.2 X.2.2.2.1 (X.2.2.1 _ wm_113) (fun _ h => h) dX5_set_11 ?_
  refine lv_iload_n X.1 X.2.1 dX5_set_14 rfl (lv_at hl 1 rfl) ?_
  refine va_ti X.1 X.2.1 hT9 hH.2 (vp_in_nI (by omega) (by decide)) (v := .int (tb_mx q)) (tb_most_v (by omega)) dX5_set_15 ?_
  refine tb_cSi X hH hl.1 (c_X5_isWithin l g z y (nI (1)) (tb_mx q)) ky_X5_isWithin.1 ky_X5_isWithin.2 wm_115 rfl rfl (Nat.le_of_ble_eq_true rfl) ⟨by decide, by decide⟩ ⟨by decide, by decide⟩ dX5_set_16 (fun H locs hH => ?_)
  refine tb_jbne (tgt := 25) X dX5_set_19 (by decide) (fun c_1 => ?_) (fun c_1 => ?_)
  · refine lv_aload_n X.1 X.2.1 dX5_set_25 rfl (lv_at hl 0 rfl) ?_
    refine tb_get X hH tb_Tc.1 (tb_Tc.2 _ _) rfl inlX5 4 (by decide) wm_24 (v := .ref (tb_ad g (153))) rfl dX5_set_26 ?_
    refine lv_aload_n X.1 X.2.1 dX5_set_29 rfl (lv_at hl 0 rfl) ?_
    refine tb_get X hH tb_Tc.1 (tb_Tc.2 _ _) rfl inlX5 0 (by decide) wm_16 (v := .ref (tb_ad g (0))) rfl dX5_set_30 ?_
    refine tb_cVv X hH hl.1 (c_X2_record l g z 0 tb_D0 (tb_rc z) hrc.1 (Nat.lt_trans hrc.2 (by decide))) ky_X2_record.1 ky_X2_record.2 wm_116 tb_oH rfl rfl (Nat.le_of_ble_eq_true rfl) ⟨by decide, by decide⟩ ⟨by decide, by decide⟩ dX5_set_33 (fun H locs hH => ?_)
    have hH : tb_H g s.heap (sz_X5_set_m1 z q y) H locs := hH
    refine lv_aload_n X.1 X.2.1 dX5_set_36 rfl (lv_at hl 0 rfl) ?_
    refine tb_get X hH tb_Tc.1 (tb_Tc.2 _ _) rfl inlX5 0 (by decide) wm_16 (v := .ref (tb_ad g (0))) rfl dX5_set_37 ?_
    refine tb_get X hH (tb_Dc tb_D0).1 ((tb_Dc tb_D0).2 _ _) rfl inlX1 0 (by decide) wm_114 (v := .ref (tb_ad g (1))) rfl dX5_set_40 ?_
    refine lv_iload_n X.1 X.2.1 dX5_set_43 rfl (lv_at hl 1 rfl) ?_
    refine tb_ald X hH (tb_iset tb_D0) (q) rfl (by omega) (by first | decide | omega) dX5_set_44 ?_
    refine lv_istore_n (lv' := [(3, .int ((sz_X5_set_m1 z q y) 1 q)), (0, .ref (tb_ad g (150))), (1, .int (nI (q))), (2, .int (y))]) X.1 X.2.1 dX5_set_45 rfl hl (by decide) rfl (fun ls hl => ?_)
    refine lv_aload_n X.1 X.2.1 dX5_set_46 rfl (lv_at hl 1 rfl) ?_
    refine tb_get X hH tb_Tc.1 (tb_Tc.2 _ _) rfl inlX5 0 (by decide) wm_16 (v := .ref (tb_ad g (0))) rfl dX5_set_47 ?_
    refine tb_get X hH (tb_Dc tb_D0).1 ((tb_Dc tb_D0).2 _ _) rfl inlX1 0 (by decide) wm_114 (v := .ref (tb_ad g (1))) rfl dX5_set_50 ?_
    refine lv_iload_n X.1 X.2.1 dX5_set_53 rfl (lv_at hl 2 rfl) ?_
    refine lv_iload_n X.1 X.2.1 dX5_set_54 rfl (lv_at hl 3 rfl) ?_
    refine tb_ast X hH (tb_iset tb_D0) (q) rfl (by omega) (by first | decide | omega) dX5_set_55 (fun H locs hH => ?_)
    refine lv_iload_n X.1 X.2.1 dX5_set_56 rfl (lv_at hl 0 rfl) ?_
    exact tb_ri X hr hlk hH ⟨(by rw [sr_X5_set]; simp only [if_pos c_1]), (by rw [sz_X5_set]; simp only [if_pos c_1])⟩ dX5_set_57
  · refine lv_bipush (v := (-2)) X.1 X.2.1 dX5_set_22 (by decide +kernel) ?_
    exact tb_ri X hr hlk hH ⟨(by rw [sr_X5_set]; simp only [if_neg c_1]), (by rw [sz_X5_set]; simp only [if_neg c_1])⟩ dX5_set_24
def sz_X5_fillAll (z : tb_M) (sl : Nat) : tb_M := if ((tb_ff (sr_X3_digitAt z) (tb_tl (tb_pl z)) (tb_pl z) 0)) = ((-6)) then (if (z ((tb_at 0 sl)) 0) = (nI (1)) then (if (((tb_pl z) / 2)) ≤ (tb_len z (tb_at 0 sl) - tb_fl z (tb_at 0 sl)) then (tb_up (tb_fz (sz_X2_record z 0 (tb_rc z)) (tb_at 0 sl) (tb_fl z (tb_at 0 sl)) (tb_pl z / 2)) 155 0 (nI (0))) else z) else z) else z
def sr_X5_fillAll (z : tb_M) (sl : Nat) : Int32 := if ((tb_ff (sr_X3_digitAt z) (tb_tl (tb_pl z)) (tb_pl z) 0)) = ((-6)) then (if (z ((tb_at 0 sl)) 0) = (nI (1)) then (if (((tb_pl z) / 2)) ≤ (tb_len z (tb_at 0 sl) - tb_fl z (tb_at 0 sl)) then ((tb_up (tb_fz (sz_X2_record z 0 (tb_rc z)) (tb_at 0 sl) (tb_fl z (tb_at 0 sl)) (tb_pl z / 2)) 155 0 (nI (0))) ((tb_at 0 sl)) 5) else ((-4))) else ((-5))) else ((-3))
set_option maxHeartbeats 1000000 in
set_option maxRecDepth 100000 in
theorem c_X5_fillAll (l : Launch) (g : tb_G) (z : tb_M) (sl : Nat) (hsl : sl < 2) (hP : tb_okP z) (hF : tb_okF z (tb_at 0 sl)) (hrc : tb_okR z) : tb_Mi (.int) l yX5_fillAll cX5_fillAll 5 4 g z [.ref (tb_ad g 150), .int (nI sl)] (sr_X5_fillAll z sl) (sz_X5_fillAll z sl) := by
  refine tb_goi (own := RX5) (by decide +kernel) rfl (Nat.le_of_ble_eq_true rfl) ?_
  intro p e s m below meth c ls X hr hlk hH hl
  have hl : lv_has ls 5 [(0, .ref (tb_ad g (150))), (1, .int (nI (sl)))] := hl
  have hF2 := hF.1.2
  have hF3 := hF.2.2
  have hP2 := hP.2
  refine lv_iload_n X.1 X.2.1 dX5_fillAll_0 rfl (lv_at hl 1 rfl) ?_
  refine tb_cSi X hH hl.1 (c_X5_isSlot l g z (nI (sl))) ky_X5_isSlot.1 ky_X5_isSlot.2 wm_179 rfl rfl (Nat.le_of_ble_eq_true rfl) ⟨by decide, by decide⟩ ⟨by decide, by decide⟩ dX5_fillAll_1 (fun H locs hH => ?_)
  refine tb_jbne (tgt := 9) X dX5_fillAll_4 (by decide) (fun _ => ?_) (fun c => (c ⟨nI_nlt (by omega) (by omega), nI_nlt (by omega) (by omega)⟩ : False).elim)
  refine lv_aload_n X.1 X.2.1 dX5_fillAll_9 rfl (lv_at hl 0 rfl) ?_
  refine tb_get X hH tb_Tc.1 (tb_Tc.2 _ _) rfl inlX5 5 (by decide) wm_28 (v := .ref (tb_ad g (155))) rfl dX5_fillAll_10 ?_
  refine tb_cVi X hH hl.1 (c_X3_firstFault l g z (tb_pl z) hP.1 hP.2) ky_X3_firstFault.1 ky_X3_firstFault.2 wm_272 tb_oP rfl rfl (Nat.le_of_ble_eq_true rfl) ⟨by decide, by decide⟩ ⟨by decide, by decide⟩ dX5_fillAll_13 (fun H locs hH => ?_)
  refine lv_bipush (v := (-6)) X.1 X.2.1 dX5_fillAll_16 (by decide +kernel) ?_
  refine lv_icmp_eq (tgt := 24) X.1 X.2.1 dX5_fillAll_18 (by decide) (fun c_1 => ?_) (fun c_1 => ?_)
  · refine lv_aload_n X.1 X.2.1 dX5_fillAll_24 rfl (lv_at hl 0 rfl) ?_
    refine tb_get X hH tb_Tc.1 (tb_Tc.2 _ _) rfl inlX5 0 (by decide) wm_16 (v := .ref (tb_ad g (0))) rfl dX5_fillAll_25 ?_
    refine lv_iload_n X.1 X.2.1 dX5_fillAll_28 rfl (lv_at hl 1 rfl) ?_
    refine tb_cVr X hH hl.1 (c_X1_areaAt l g z 0 tb_D0 sl (by omega)) ky_X1_areaAt.1 ky_X1_areaAt.2 wm_204 (tb_oD tb_D0) rfl rfl (Nat.le_of_ble_eq_true rfl) ⟨by decide, by decide⟩ ⟨by decide, by decide⟩ dX5_fillAll_29 (fun H locs hH => ?_)
    refine lv_astore_n (lv' := [(2, .ref (tb_ad g ((tb_at 0 sl)))), (0, .ref (tb_ad g (150))), (1, .int (nI (sl)))]) X.1 X.2.1 dX5_fillAll_32 rfl hl (by decide) rfl (fun ls hl => ?_)
    refine lv_aload_n X.1 X.2.1 dX5_fillAll_33 rfl (lv_at hl 0 rfl) ?_
    refine tb_get X hH (tb_Ac (tb_isat tb_D0 sl)).1 ((tb_Ac (tb_isat tb_D0 sl)).2 _ _) rfl inlX0 0 (by decide) wm_245 (v := .int (z ((tb_at 0 sl)) 0)) rfl dX5_fillAll_34 ?_
    refine lv_iconst (v := nI (1)) X.1 X.2.1 dX5_fillAll_37 (by decide +kernel) ?_
    refine lv_icmp_eq (tgt := 44) X.1 X.2.1 dX5_fillAll_38 (by decide) (fun c_2 => ?_) (fun c_2 => ?_)
    · refine lv_aload_n X.1 X.2.1 dX5_fillAll_44 rfl (lv_at hl 1 rfl) ?_
      refine tb_get X hH tb_Tc.1 (tb_Tc.2 _ _) rfl inlX5 5 (by decide) wm_28 (v := .ref (tb_ad g (155))) rfl dX5_fillAll_45 ?_
      refine tb_cVi X hH hl.1 (c_X3_words l g z (tb_pl z) hP.1 hP.2) ky_X3_words.1 ky_X3_words.2 wm_281 tb_oP rfl rfl (Nat.le_of_ble_eq_true rfl) ⟨by decide, by decide⟩ ⟨by decide, by decide⟩ dX5_fillAll_48 (fun H locs hH => ?_)
      refine lv_istore_n (lv' := [(3, .int (nI (((tb_pl z) / 2)))), (2, .ref (tb_ad g ((tb_at 0 sl)))), (0, .ref (tb_ad g (150))), (1, .int (nI (sl)))]) X.1 X.2.1 dX5_fillAll_51 rfl hl (by decide) rfl (fun ls hl => ?_)
      refine lv_iload_n X.1 X.2.1 dX5_fillAll_52 rfl (lv_at hl 0 rfl) ?_
      refine lv_aload_n X.1 X.2.1 dX5_fillAll_53 rfl (lv_at hl 1 rfl) ?_
      refine tb_cVi X hH hl.1 (c_X0_lacking l g z ((tb_at 0 sl)) (tb_isat tb_D0 sl)) ky_X0_lacking.1 ky_X0_lacking.2 wm_247 (tb_oA (tb_isat tb_D0 sl)) rfl rfl (Nat.le_of_ble_eq_true rfl) ⟨by decide, by decide⟩ ⟨by decide, by decide⟩ dX5_fillAll_54 (fun H locs hH => ?_)
      refine tb_top (x2 := nI (tb_len z (tb_at 0 sl) - tb_fl z (tb_at 0 sl))) (tb_lackN hF) ?_
      refine tb_nle (tgt := 63) X (by omega) (by omega) dX5_fillAll_57 (by decide) (fun c_3 => ?_) (fun c_3 => ?_)
      · refine lv_aload_n X.1 X.2.1 dX5_fillAll_63 rfl (lv_at hl 2 rfl) ?_
        refine tb_get X hH tb_Tc.1 (tb_Tc.2 _ _) rfl inlX5 4 (by decide) wm_24 (v := .ref (tb_ad g (153))) rfl dX5_fillAll_64 ?_
        refine lv_aload_n X.1 X.2.1 dX5_fillAll_67 rfl (lv_at hl 2 rfl) ?_
        refine tb_get X hH tb_Tc.1 (tb_Tc.2 _ _) rfl inlX5 0 (by decide) wm_16 (v := .ref (tb_ad g (0))) rfl dX5_fillAll_68 ?_
        refine tb_cVv X hH hl.1 (c_X2_record l g z 0 tb_D0 (tb_rc z) hrc.1 (Nat.lt_trans hrc.2 (by decide))) ky_X2_record.1 ky_X2_record.2 wm_116 tb_oH rfl rfl (Nat.le_of_ble_eq_true rfl) ⟨by decide, by decide⟩ ⟨by decide, by decide⟩ dX5_fillAll_71 (fun H locs hH => ?_)
        refine lv_iconst (v := nI (0)) X.1 X.2.1 dX5_fillAll_74 (by decide +kernel) ?_
        refine lv_istore (lv' := [(4, .int (nI (0))), (3, .int (nI (((tb_pl z) / 2)))), (2, .ref (tb_ad g ((tb_at 0 sl)))), (0, .ref (tb_ad g (150))), (1, .int (nI (sl)))]) X.1 X.2.1 dX5_fillAll_75 hl (by decide) rfl (fun ls hl => ?_)
        have L_77 : ∀ (k : Nat) (i : Nat), i + k = tb_pl z / 2 → ∀ (H : Heap) (locs : List Loc) (ls : Array Slot), tb_H g s.heap (tb_fz (sz_X2_record z 0 (tb_rc z)) (tb_at 0 sl) (tb_fl z (tb_at 0 sl)) i) H locs → lv_has ls 5 [(0, .ref (tb_ad g (150))), (1, .int (nI (sl))), (2, .ref (tb_ad g ((tb_at 0 sl)))), (3, .int (nI (tb_pl z / 2))), (4, .int (nI (i)))] → W p l e (tb_rm 4) s m ([.ref (tb_ad g 150), .int (nI sl)] : List Value).toArray below meth c H locs 0 0 (MQ below (va_Qi (fun r9 u9 => r9 = sr_X5_fillAll z sl ∧ u9 = sz_X5_fillAll z sl) (tb_B g) (tb_A g)) ([.ref (tb_ad g 150), .int (nI sl)] : List Value).toArray s 0 0 (tb_A g)) (F0 m 77 ls []) := by
          intro k
          induction k with
          | zero =>
            intro i hik H locs ls hH hl
            obtain rfl : i = tb_pl z / 2 := by omega
            refine lv_iload X.1 X.2.1 dX5_fillAll_77 (lv_at hl 4 rfl) ?_
            refine lv_iload_n X.1 X.2.1 dX5_fillAll_79 rfl (lv_at hl 3 rfl) ?_
            refine tb_nge (tgt := 102) X (by omega) (by omega) dX5_fillAll_80 (by decide) (fun _ => ?_) (fun c => ((by omega) : False).elim)
            refine lv_aload_n X.1 X.2.1 dX5_fillAll_102 rfl (lv_at hl 0 rfl) ?_
            refine tb_get X hH tb_Tc.1 (tb_Tc.2 _ _) rfl inlX5 5 (by decide) wm_28 (v := .ref (tb_ad g (155))) rfl dX5_fillAll_103 ?_
            refine tb_cVv X hH hl.1 (c_X3_clear l g (tb_fz (sz_X2_record z 0 (tb_rc z)) (tb_at 0 sl) (tb_fl z (tb_at 0 sl)) (tb_pl z / 2))) ky_X3_clear.1 ky_X3_clear.2 wm_289 tb_oP rfl rfl (Nat.le_of_ble_eq_true rfl) ⟨by decide, by decide⟩ ⟨by decide, by decide⟩ dX5_fillAll_106 (fun H locs hH => ?_)
            refine lv_aload_n X.1 X.2.1 dX5_fillAll_109 rfl (lv_at hl 2 rfl) ?_
            refine tb_get X hH (tb_Ac (tb_isat tb_D0 sl)).1 ((tb_Ac (tb_isat tb_D0 sl)).2 _ _) rfl inlX0 5 (by decide) wm_246 (v := .int ((tb_up (tb_fz (sz_X2_record z 0 (tb_rc z)) (tb_at 0 sl) (tb_fl z (tb_at 0 sl)) (tb_pl z / 2)) 155 0 (nI (0))) ((tb_at 0 sl)) 5)) rfl dX5_fillAll_110 ?_
            exact tb_ri X hr hlk hH ⟨(by rw [sr_X5_fillAll]; simp only [if_pos c_1, if_pos c_2, if_pos c_3]), (by rw [sz_X5_fillAll]; simp only [if_pos c_1, if_pos c_2, if_pos c_3])⟩ dX5_fillAll_113
          | succ k ih_77 =>
            intro i hik H locs ls hH hl
            refine lv_iload X.1 X.2.1 dX5_fillAll_77 (lv_at hl 4 rfl) ?_
            refine lv_iload_n X.1 X.2.1 dX5_fillAll_79 rfl (lv_at hl 3 rfl) ?_
            refine tb_nge (tgt := 102) X (by omega) (by omega) dX5_fillAll_80 (by decide) (fun c => ((by omega) : False).elim) (fun _ => ?_)
            refine lv_aload_n X.1 X.2.1 dX5_fillAll_83 rfl (lv_at hl 2 rfl) ?_
            refine lv_aload_n X.1 X.2.1 dX5_fillAll_84 rfl (lv_at hl 0 rfl) ?_
            refine tb_get X hH tb_Tc.1 (tb_Tc.2 _ _) rfl inlX5 5 (by decide) wm_28 (v := .ref (tb_ad g (155))) rfl dX5_fillAll_85 ?_
            refine lv_iload X.1 X.2.1 dX5_fillAll_88 (lv_at hl 4 rfl) ?_
            refine tb_cVi X hH hl.1 (c_X3_wordAt l g (tb_fz (sz_X2_record z 0 (tb_rc z)) (tb_at 0 sl) (tb_fl z (tb_at 0 sl)) i) i (by omega)) ky_X3_wordAt.1 ky_X3_wordAt.2 wm_285 tb_oP rfl rfl (Nat.le_of_ble_eq_true rfl) ⟨by decide, by decide⟩ ⟨by decide, by decide⟩ dX5_fillAll_90 (fun H locs hH => ?_)
            refine tb_cVv X hH hl.1 (c_X0_addWord l g (tb_fz (sz_X2_record z 0 (tb_rc z)) (tb_at 0 sl) (tb_fl z (tb_at 0 sl)) i) ((tb_at 0 sl)) (tb_isat tb_D0 sl) ((sr_X3_wordAt (tb_fz (sz_X2_record z 0 (tb_rc z)) (tb_at 0 sl) (tb_fl z (tb_at 0 sl)) i) i)) (tb_fl z (tb_at 0 sl) + i) (tb_fz_5 (by rw [tb_rec_at]; exact hF.2.1) i) (by omega)) ky_X0_addWord.1 ky_X0_addWord.2 wm_251 (tb_oA (tb_isat tb_D0 sl)) rfl rfl (Nat.le_of_ble_eq_true rfl) ⟨by decide, by decide⟩ ⟨by decide, by decide⟩ dX5_fillAll_93 (fun H locs hH => ?_)
            refine lv_iinc (v := nI (i + 1)) (lv' := [(4, .int (nI (i + 1))), (0, .ref (tb_ad g (150))), (1, .int (nI (sl))), (2, .ref (tb_ad g ((tb_at 0 sl)))), (3, .int (nI (tb_pl z / 2)))]) X.1 X.2.1 dX5_fillAll_96 hl (k := 4) rfl (nI_add _ _) (by decide) rfl (fun ls hl => ?_)
            refine lv_goto (tgt := 77) X.1 X.2.1 dX5_fillAll_99 (by decide) ?_
            exact ih_77 (i + 1) (by omega) _ _ _ hH (lv_sub hl [1, 2, 3, 4, 0] rfl)
        exact L_77 (tb_pl z / 2) 0 (by omega) _ _ _ hH (lv_sub hl [3, 4, 2, 1, 0] rfl)
      · refine lv_bipush (v := (-4)) X.1 X.2.1 dX5_fillAll_60 (by decide +kernel) ?_
        exact tb_ri X hr hlk hH ⟨(by rw [sr_X5_fillAll]; simp only [if_pos c_1, if_pos c_2, if_neg c_3]), (by rw [sz_X5_fillAll]; simp only [if_pos c_1, if_pos c_2, if_neg c_3])⟩ dX5_fillAll_62
    · refine lv_bipush (v := (-5)) X.1 X.2.1 dX5_fillAll_41 (by decide +kernel) ?_
      exact tb_ri X hr hlk hH ⟨(by rw [sr_X5_fillAll]; simp only [if_pos c_1, if_neg c_2]), (by rw [sz_X5_fillAll]; simp only [if_pos c_1, if_neg c_2])⟩ dX5_fillAll_43
  · refine lv_bipush (v := (-3)) X.1 X.2.1 dX5_fillAll_21 (by decide +kernel) ?_
    exact tb_ri X hr hlk hH ⟨(by rw [sr_X5_fillAll]; simp only [if_neg c_1]), (by rw [sz_X5_fillAll]; simp only [if_neg c_1])⟩ dX5_fillAll_23
