/-! CONSTRUCTORS of the small classes -/
def tc_a0 : va_E := .inr (0, [.int (nI 0), .int (nI 0), .int (nI 0), .int (nI 0), .int (nI 0), .int (nI 0), .null, .null])
def tc_pA (g : tb_G) (h0 : Nat) (w : va_W) : Prop := ∃ (q1 q2 : Nat) (f : Nat → Int32), w = [(h0, .inr (0, [.int (nI 0), .int (nI 0), .int (nI 0), .int (nI 0), .int (nI 0), .int (nI 0), .ref q1, .ref q2])), (q1, .inl (g.2.2.2.1, 32, .inl f)), (q2, .inl (g.2.2.2.1, 8, .inl (fun _ => nI 0)))] ∧ ∀ j, j < 32 → f j = nI 255
set_option maxHeartbeats 1000000 in
set_option maxRecDepth 100000 in
theorem k_X0_init (l : Launch) (g : tb_G) : tc_M l yX0_init cX0_init 2 1 2 40 g tc_a0 (tc_pA g) := by
  refine tc_go (own := RX0) (by decide +kernel) rfl (by decide) ?_
  intro p e s m below meth c ls A h0 X hr hlk hnm hA hH hl
  refine lv_aload_n X.1 X.2.1 dX0_init_0 rfl (lv_at hl 0 rfl) ?_
  refine tc_obj X hl.1 wm_49 (Nat.le_of_ble_eq_true rfl) ⟨by decide, by decide⟩ dX0_init_1 ?_
  refine lv_aload_n X.1 X.2.1 dX0_init_4 rfl (lv_at hl 0 rfl) ?_
  refine lv_iconst (v := nI 0) X.1 X.2.1 dX0_init_5 (by decide +kernel) ?_
  refine tc_put X hH inlX0 tyX0 tyX0_ok nmX0 0 rfl rfl 0 (by decide) wm_50 rfl (ty := .int) (by decide +kernel) rfl rfl (Nat.le_of_ble_eq_true rfl) dX0_init_6 (fun H locs hH => ?_)
  refine lv_aload_n X.1 X.2.1 dX0_init_9 rfl (lv_at hl 0 rfl) ?_
  refine lv_bipush (v := nI 32) X.1 X.2.1 dX0_init_10 (by decide +kernel) ?_
  refine tc_newi X hA hH (N := 32) (by decide) rfl ⟨by decide, by decide⟩ dX0_init_12 (fun q1 H hH => ?_)
  refine W.widen (k := 1) (n := 32) (by omega) (by omega) ?_
  refine tc_putF X hH inlX0 tyX0 tyX0_ok nmX0 0 rfl rfl 6 (by decide) wm_51 rfl hnm rfl (ty := .array .int) (by decide +kernel) rfl rfl (Nat.le_of_ble_eq_true rfl) dX0_init_14 (fun H locs hH => ?_)
  refine lv_aload_n X.1 X.2.1 dX0_init_17 rfl (lv_at hl 0 rfl) ?_
  refine lv_bipush (v := nI 8) X.1 X.2.1 dX0_init_18 (by decide +kernel) ?_
  refine tc_newi X hA hH (N := 8) (by decide) rfl ⟨by decide, by decide⟩ dX0_init_20 (fun q2 H hH => ?_)
  refine W.widen (k := 2) (n := 40) (by omega) (by omega) ?_
  refine tc_putF X hH inlX0 tyX0 tyX0_ok nmX0 0 rfl rfl 7 (by decide) wm_52 rfl hnm rfl (ty := .array .int) (by decide +kernel) rfl rfl (Nat.le_of_ble_eq_true rfl) dX0_init_22 (fun H locs hH => ?_)
  refine lv_iconst (v := nI 0) X.1 X.2.1 dX0_init_25 (by decide +kernel) ?_
  refine lv_istore_n (lv' := [(1, .int (nI 0)), (0, .ref h0)]) X.1 X.2.1 dX0_init_26 rfl hl (by decide) rfl (fun ls hl => ?_)
  have L : ∀ (k i : Nat), i + k = 32 → ∀ (f : Nat → Int32), (∀ j, j < i → f j = nI 255) → ∀ (H : Heap) (locs : List Loc) (ls : Array Slot), tc_H g A s.heap [(h0, .inr (0, [.int (nI 0), .int (nI 0), .int (nI 0), .int (nI 0), .int (nI 0), .int (nI 0), .ref q1, .ref q2])), (q1, .inl (g.2.2.2.1, 32, .inl f)), (q2, .inl (g.2.2.2.1, 8, .inl (fun _ => nI 0)))] H locs → lv_has ls 2 [(1, .int (nI i)), (0, .ref h0)] → W p l e (tc_rm 1 2 40) s m #[.ref h0] below meth c H locs 2 40 (MQ below (va_Qv (fun w : va_W => tc_pA g h0 w) (tc_B g A) A) #[.ref h0] s 2 40 A) (F0 m 27 ls []) := by
    intro k
    induction k with
    | zero =>
      intro i hik f hf H locs ls hH hl
      refine lv_iload_n X.1 X.2.1 dX0_init_27 rfl (lv_at hl 0 rfl) ?_
      refine lv_bipush (v := nI 32) X.1 X.2.1 dX0_init_28 (by decide +kernel) ?_
      refine lv_icmp_ge (tgt := 48) X.1 X.2.1 dX0_init_30 (by decide) (fun _ => ?_) (fun h => (h (nI_le (by omega) (by omega)) : False).elim)
      exact tc_rv X hr hlk hH ⟨q1, q2, f, rfl, fun j hj => hf j (by omega)⟩ dX0_init_48
    | succ k ih =>
      intro i hik f hf H locs ls hH hl
      refine lv_iload_n X.1 X.2.1 dX0_init_27 rfl (lv_at hl 0 rfl) ?_
      refine lv_bipush (v := nI 32) X.1 X.2.1 dX0_init_28 (by decide +kernel) ?_
      refine lv_icmp_ge (tgt := 48) X.1 X.2.1 dX0_init_30 (by decide) (fun h => (nI_ge (by omega) (by decide) h : False).elim) (fun _ => ?_)
      refine lv_aload_n X.1 X.2.1 dX0_init_33 rfl (lv_at hl 1 rfl) ?_
      refine tc_get X hH inlX0 0 rfl rfl 6 (by decide) wm_51 (v := .ref q1) rfl dX0_init_34 ?_
      refine lv_iload_n X.1 X.2.1 dX0_init_37 rfl (lv_at hl 0 rfl) ?_
      refine lv_sipush (v := nI 255) X.1 X.2.1 dX0_init_38 (by decide +kernel) ?_
      refine tc_ast X hH 1 rfl i rfl (by omega) (by decide) dX0_init_41 (fun H locs hH => ?_)
      refine lv_iinc (v := nI (i + 1)) (lv' := [(1, .int (nI (i + 1))), (0, .ref h0)]) X.1 X.2.1 dX0_init_42 hl (k := 0) rfl (nI_add _ _) (by decide) rfl (fun ls hl => ?_)
      refine lv_goto (tgt := 27) X.1 X.2.1 dX0_init_45 (by decide) ?_
      refine ih (i + 1) (by omega) (upd f i (nI 255)) (fun j hj => ?_) H locs ls hH hl
      unfold upd
      by_cases h : j = i
      · rw [if_pos h]
      · rw [if_neg h]
        exact hf j (by omega)
  exact L 32 0 (by decide) (fun _ => nI 0) (fun j hj => absurd hj (Nat.not_lt_zero j)) H locs ls hH hl
def tc_s0 : va_E := .inr (4, [.int (nI 0), .int (nI 0), .int (nI 0), .null, .null, .null])
def tc_pS (g : tb_G) (h0 : Nat) (w : va_W) : Prop := ∃ (q1 q2 q3 : Nat), w = [(h0, .inr (4, [.int (nI 0), .int (nI 0), .int (nI 0), .ref q1, .ref q2, .ref q3])), (q1, .inl (g.2.2.2.1, 12, .inl (fun _ => nI 0))), (q2, .inl (g.2.2.2.1, 12, .inl (fun _ => nI 0))), (q3, .inl (g.2.2.2.1, 12, .inl (fun _ => nI 0)))]
set_option maxHeartbeats 1000000 in
set_option maxRecDepth 100000 in
theorem k_X4_init (l : Launch) (g : tb_G) : tc_M l yX4_init cX4_init 1 1 3 36 g tc_s0 (tc_pS g) := by
  refine tc_go (own := RX4) (by decide +kernel) rfl (by decide) ?_
  intro p e s m below meth c ls A h0 X hr hlk hnm hA hH hl
  refine lv_aload_n X.1 X.2.1 dX4_init_0 rfl (lv_at hl 0 rfl) ?_
  refine tc_obj X hl.1 wm_55 (Nat.le_of_ble_eq_true rfl) ⟨by decide, by decide⟩ dX4_init_1 ?_
  refine lv_aload_n X.1 X.2.1 dX4_init_4 rfl (lv_at hl 0 rfl) ?_
  refine lv_bipush (v := nI 12) X.1 X.2.1 dX4_init_5 (by decide +kernel) ?_
  refine tc_newi X hA hH (N := 12) (by decide) rfl ⟨by decide, by decide⟩ dX4_init_7 (fun q1 H hH => ?_)
  refine W.widen (k := 1) (n := 12) (by omega) (by omega) ?_
  refine tc_putF X hH inlX4 tyX4 tyX4_ok nmX4 0 rfl rfl 3 (by decide) wm_56 rfl hnm rfl (ty := .array .int) (by decide +kernel) rfl rfl (Nat.le_of_ble_eq_true rfl) dX4_init_9 (fun H locs hH => ?_)
  refine lv_aload_n X.1 X.2.1 dX4_init_12 rfl (lv_at hl 0 rfl) ?_
  refine lv_bipush (v := nI 12) X.1 X.2.1 dX4_init_13 (by decide +kernel) ?_
  refine tc_newi X hA hH (N := 12) (by decide) rfl ⟨by decide, by decide⟩ dX4_init_15 (fun q2 H hH => ?_)
  refine W.widen (k := 2) (n := 24) (by omega) (by omega) ?_
  refine tc_putF X hH inlX4 tyX4 tyX4_ok nmX4 0 rfl rfl 4 (by decide) wm_57 rfl hnm rfl (ty := .array .int) (by decide +kernel) rfl rfl (Nat.le_of_ble_eq_true rfl) dX4_init_17 (fun H locs hH => ?_)
  refine lv_aload_n X.1 X.2.1 dX4_init_20 rfl (lv_at hl 0 rfl) ?_
  refine lv_bipush (v := nI 12) X.1 X.2.1 dX4_init_21 (by decide +kernel) ?_
  refine tc_newi X hA hH (N := 12) (by decide) rfl ⟨by decide, by decide⟩ dX4_init_23 (fun q3 H hH => ?_)
  refine W.widen (k := 3) (n := 36) (by omega) (by omega) ?_
  refine tc_putF X hH inlX4 tyX4 tyX4_ok nmX4 0 rfl rfl 5 (by decide) wm_58 rfl hnm rfl (ty := .array .int) (by decide +kernel) rfl rfl (Nat.le_of_ble_eq_true rfl) dX4_init_25 (fun H locs hH => ?_)
  exact tc_rv X hr hlk hH ⟨q1, q2, q3, rfl⟩ dX4_init_28
def tc_p0 : va_E := .inr (3, [.int (nI 0), .null])
def tc_pP (g : tb_G) (h0 : Nat) (w : va_W) : Prop := ∃ q1 : Nat, w = [(h0, .inr (3, [.int (nI 0), .ref q1])), (q1, .inl (g.2.2.2.1, 64, .inl (fun _ => nI 0)))]
set_option maxHeartbeats 1000000 in
set_option maxRecDepth 100000 in
theorem k_X3_init (l : Launch) (g : tb_G) : tc_M l yX3_init cX3_init 1 1 1 64 g tc_p0 (tc_pP g) := by
  refine tc_go (own := RX3) (by decide +kernel) rfl (by decide) ?_
  intro p e s m below meth c ls A h0 X hr hlk hnm hA hH hl
  refine lv_aload_n X.1 X.2.1 dX3_init_0 rfl (lv_at hl 0 rfl) ?_
  refine tc_obj X hl.1 wm_93 (Nat.le_of_ble_eq_true rfl) ⟨by decide, by decide⟩ dX3_init_1 ?_
  refine lv_aload_n X.1 X.2.1 dX3_init_4 rfl (lv_at hl 0 rfl) ?_
  refine lv_bipush (v := nI 64) X.1 X.2.1 dX3_init_5 (by decide +kernel) ?_
  refine tc_newi X hA hH (N := 64) (by decide) rfl ⟨by decide, by decide⟩ dX3_init_7 (fun q1 H hH => ?_)
  refine W.widen (k := 1) (n := 64) (by omega) (by omega) ?_
  refine tc_putF X hH inlX3 tyX3 tyX3_ok nmX3 0 rfl rfl 1 (by decide) wm_94 rfl hnm rfl (ty := .array .int) (by decide +kernel) rfl rfl (Nat.le_of_ble_eq_true rfl) dX3_init_9 (fun H locs hH => ?_)
  exact tc_rv X hr hlk hH ⟨q1, rfl⟩ dX3_init_12
