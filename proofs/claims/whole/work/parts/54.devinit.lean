/-! THE DEVICE'S CONSTRUCTOR itself -/
abbrev tc_eI (g : tb_G) (n : Nat) (f : Nat → Int32) : va_E := .inl (g.2.2.2.1, n, .inl f)
abbrev tc_eA (q1 q2 : Nat) : va_E := .inr (0, [.int (nI 0), .int (nI 0), .int (nI 0), .int (nI 0), .int (nI 0), .int (nI 0), .ref q1, .ref q2])
abbrev tc_eD (x0 x1 x2 x3 x4 : Value) (r : Int32) : va_E := .inr (1, [x0, x1, x2, x3, x4, .int r, .int (nI 0), .int (nI 0), .int (nI 0), .int (nI 0)])
def tc_d0 : va_E := tc_eD .null .null .null .null .null (nI 0)
def tc_ga (g : tb_G) (ad : Nat → Nat) : tb_G := (g.1, g.2.1, ad, g.2.2.2)
def tc_15 {α : Type} (x0 x1 x2 x3 x4 x5 x6 x7 x8 x9 x10 x11 x12 x13 x14 : α) : Nat → α := fun k => match k with
  | 0 => x0
  | 1 => x1
  | 2 => x2
  | 3 => x3
  | 4 => x4
  | 5 => x5
  | 6 => x6
  | 7 => x7
  | 8 => x8
  | 9 => x9
  | 10 => x10
  | 11 => x11
  | 12 => x12
  | 13 => x13
  | _ => x14
def tc_0 : Nat → Int32 := fun _ => nI 0
/-- what a new device's cells hold -/
def tc_Z (z : Nat → Nat → Int32) : Prop := z 1 0 = nI 3 ∧ z 1 1 = nI 10 ∧ z 1 2 = nI 20 ∧ z 0 5 = nI 2 ∧ (∀ j, 6 ≤ j → j < 10 → z 0 j = nI 0) ∧ (∀ k, (k = 2 ∨ k = 5) → (∀ p, p < 6 → z k p = nI 0) ∧ (∀ i, i < 32 → z (k + 1) i = nI 255) ∧ ∀ i, i < 8 → z (k + 2) i = nI 0) ∧ (∀ p, p < 3 → z 11 p = nI 0) ∧ (∀ k, 12 ≤ k → k < 15 → ∀ i, i < 12 → z k i = nI 0) ∧ (z 8 0 = nI 3 ∧ z 8 2 = nI 2 ∧ z 8 3 = tb_sm (z 9) 2 ∧ z 9 0 = nI 0 ∧ z 9 1 = nI 0 ∧ ∀ i, 2 ≤ i → i < 32 → z 9 i = nI 255)
def tc_pD (g : tb_G) (h0 : Nat) (w : va_W) : Prop := ∃ (ad : Nat → Nat) (z : Nat → Nat → Int32), w = (List.range 15).map (fun c => (ad c, tb_d (tc_ga g ad) 0 c (z c))) ∧ ad 0 = h0 ∧ tc_Z z
set_option maxHeartbeats 1000000 in
set_option maxRecDepth 100000 in
theorem k_X1_init (l : Launch) (g : tb_G) : tc_M l yX1_init cX1_init 1 3 14 189 g tc_d0 (tc_pD g) := by
  refine tc_go (own := RX1) (by decide +kernel) rfl (by decide) ?_
  intro p e s m below meth c ls A h0 X hr hlk hnm hA hH hl
  refine lv_aload_n X.1 X.2.1 dX1_init_0 rfl (lv_at hl 0 rfl) ?_
  refine tc_obj X hl.1 wm_32 (Nat.le_of_ble_eq_true rfl) ⟨by decide, by decide⟩ dX1_init_1 ?_
  refine lv_aload_n X.1 X.2.1 dX1_init_4 rfl (lv_at hl 0 rfl) ?_
  refine lv_iconst (v := nI 3) X.1 X.2.1 dX1_init_5 (by decide +kernel) ?_
  refine tc_newi X hA hH (N := 3) (by decide) rfl ⟨by decide, by decide⟩ dX1_init_6 (fun a1 H hH => ?_)
  refine W.widen (k := 1) (n := 3) (by omega) (by omega) ?_
  refine lv_dup X.1 X.2.1 dX1_init_8 rfl ?_
  refine lv_iconst (v := nI 0) X.1 X.2.1 dX1_init_9 (by decide +kernel) ?_
  refine lv_iconst (v := nI 3) X.1 X.2.1 dX1_init_10 (by decide +kernel) ?_
  refine tc_ast X hH 1 rfl 0 rfl (by decide) (by decide) dX1_init_11 (fun H locs hH => ?_)
  refine lv_dup X.1 X.2.1 dX1_init_12 rfl ?_
  refine lv_iconst (v := nI 1) X.1 X.2.1 dX1_init_13 (by decide +kernel) ?_
  refine lv_bipush (v := nI 10) X.1 X.2.1 dX1_init_14 (by decide +kernel) ?_
  refine tc_ast X hH 1 rfl 1 rfl (by decide) (by decide) dX1_init_16 (fun H locs hH => ?_)
  refine lv_dup X.1 X.2.1 dX1_init_17 rfl ?_
  refine lv_iconst (v := nI 2) X.1 X.2.1 dX1_init_18 (by decide +kernel) ?_
  refine lv_bipush (v := nI 20) X.1 X.2.1 dX1_init_19 (by decide +kernel) ?_
  refine tc_ast X hH 1 rfl 2 rfl (by decide) (by decide) dX1_init_21 (fun H locs hH => ?_)
  obtain ⟨f1, hf1⟩ : ∃ f : Nat → Int32, upd (upd (upd (fun _ => nI 0) 0 (nI 3)) 1 (nI 10)) 2 (nI 20) = f := ⟨_, rfl⟩
  have hH : tc_H g A s.heap [(h0, tc_d0), (a1, tc_eI g 3 (upd (upd (upd (fun _ => nI 0) 0 (nI 3)) 1 (nI 10)) 2 (nI 20)))] H locs := hH
  rw [hf1] at hH
  refine tc_putF X hH inlX1 tyX1 tyX1_ok nmX1 0 rfl rfl 0 (by decide) wm_34 rfl hnm rfl (ty := .array .int) (by decide +kernel) rfl rfl (Nat.le_of_ble_eq_true rfl) dX1_init_22 (fun H locs hH => ?_)
  have hH : tc_H g A s.heap [(h0, tc_eD (.ref a1) .null .null .null .null (nI 0)), (a1, tc_eI g 3 f1)] H locs := hH
  refine lv_aload_n X.1 X.2.1 dX1_init_25 rfl (lv_at hl 0 rfl) ?_
  refine tc_new (ci := 0) X hA hH inlX0 tyX0 tyX0_ok wm_35 wm_36 wm_37 rfl [.int (nI 0), .int (nI 0), .int (nI 0), .int (nI 0), .int (nI 0), .int (nI 0), .null, .null] (fun j hj => by rcases (show j = 0 ∨ j = 1 ∨ j = 2 ∨ j = 3 ∨ j = 4 ∨ j = 5 ∨ j = 6 ∨ j = 7 by omega) with rfl | rfl | rfl | rfl | rfl | rfl | rfl | rfl <;> rfl) ⟨by decide, by decide⟩ dX1_init_26 (fun a2 H hH => ?_)
  refine W.widen (k := 2) (n := 11) (by omega) (by omega) ?_
  refine lv_dup X.1 X.2.1 dX1_init_29 rfl ?_
  refine tc_call X hA hH hl.1 (k_X0_init l g) ky_X0_init.1 rfl ky_X0_init.2 wm_46 2 rfl [(h0, tc_eD (.ref a1) .null .null .null .null (nI 0)), (a1, tc_eI g 3 f1)] [0, 1] rfl rfl (by decide) (Nat.le_of_ble_eq_true rfl) ⟨by decide, by decide⟩ ⟨by decide, by decide⟩ dX1_init_30 (fun w1 H locs hw hH => ?_)
  refine W.widen (k := 4) (n := 51) (by omega) (by omega) ?_
  obtain ⟨a3, a4, f3, rfl, hf3⟩ := hw
  have hH : tc_H g A s.heap [(h0, tc_eD (.ref a1) .null .null .null .null (nI 0)), (a1, tc_eI g 3 f1), (a2, tc_eA a3 a4), (a3, tc_eI g 32 f3), (a4, tc_eI g 8 (fun _ => nI 0))] H locs := hH
  refine tc_putF X hH inlX1 tyX1 tyX1_ok nmX1 0 rfl rfl 1 (by decide) wm_38 rfl hnm rfl (ty := .object "TrialBoots$Area") (by decide +kernel) rfl rfl (Nat.le_of_ble_eq_true rfl) dX1_init_33 (fun H locs hH => ?_)
  have hH : tc_H g A s.heap [(h0, tc_eD (.ref a1) (.ref a2) .null .null .null (nI 0)), (a1, tc_eI g 3 f1), (a2, tc_eA a3 a4), (a3, tc_eI g 32 f3), (a4, tc_eI g 8 (fun _ => nI 0))] H locs := hH
  refine lv_aload_n X.1 X.2.1 dX1_init_36 rfl (lv_at hl 0 rfl) ?_
  refine tc_new (ci := 0) X hA hH inlX0 tyX0 tyX0_ok wm_35 wm_36 wm_37 rfl [.int (nI 0), .int (nI 0), .int (nI 0), .int (nI 0), .int (nI 0), .int (nI 0), .null, .null] (fun j hj => by rcases (show j = 0 ∨ j = 1 ∨ j = 2 ∨ j = 3 ∨ j = 4 ∨ j = 5 ∨ j = 6 ∨ j = 7 by omega) with rfl | rfl | rfl | rfl | rfl | rfl | rfl | rfl <;> rfl) ⟨by decide, by decide⟩ dX1_init_37 (fun a5 H hH => ?_)
  refine W.widen (k := 5) (n := 59) (by omega) (by omega) ?_
  refine lv_dup X.1 X.2.1 dX1_init_40 rfl ?_
  refine tc_call X hA hH hl.1 (k_X0_init l g) ky_X0_init.1 rfl ky_X0_init.2 wm_46 5 rfl [(h0, tc_eD (.ref a1) (.ref a2) .null .null .null (nI 0)), (a1, tc_eI g 3 f1), (a2, tc_eA a3 a4), (a3, tc_eI g 32 f3), (a4, tc_eI g 8 (fun _ => nI 0))] [0, 1, 2, 3, 4] rfl rfl (by decide) (Nat.le_of_ble_eq_true rfl) ⟨by decide, by decide⟩ ⟨by decide, by decide⟩ dX1_init_41 (fun w1 H locs hw hH => ?_)
  refine W.widen (k := 7) (n := 99) (by omega) (by omega) ?_
  obtain ⟨a6, a7, f6, rfl, hf6⟩ := hw
  have hH : tc_H g A s.heap [(h0, tc_eD (.ref a1) (.ref a2) .null .null .null (nI 0)), (a1, tc_eI g 3 f1), (a2, tc_eA a3 a4), (a3, tc_eI g 32 f3), (a4, tc_eI g 8 (fun _ => nI 0)), (a5, tc_eA a6 a7), (a6, tc_eI g 32 f6), (a7, tc_eI g 8 (fun _ => nI 0))] H locs := hH
  refine tc_putF X hH inlX1 tyX1 tyX1_ok nmX1 0 rfl rfl 2 (by decide) wm_39 rfl hnm rfl (ty := .object "TrialBoots$Area") (by decide +kernel) rfl rfl (Nat.le_of_ble_eq_true rfl) dX1_init_44 (fun H locs hH => ?_)
  have hH : tc_H g A s.heap [(h0, tc_eD (.ref a1) (.ref a2) (.ref a5) .null .null (nI 0)), (a1, tc_eI g 3 f1), (a2, tc_eA a3 a4), (a3, tc_eI g 32 f3), (a4, tc_eI g 8 (fun _ => nI 0)), (a5, tc_eA a6 a7), (a6, tc_eI g 32 f6), (a7, tc_eI g 8 (fun _ => nI 0))] H locs := hH
  refine lv_aload_n X.1 X.2.1 dX1_init_47 rfl (lv_at hl 0 rfl) ?_
  refine tc_new (ci := 0) X hA hH inlX0 tyX0 tyX0_ok wm_35 wm_36 wm_37 rfl [.int (nI 0), .int (nI 0), .int (nI 0), .int (nI 0), .int (nI 0), .int (nI 0), .null, .null] (fun j hj => by rcases (show j = 0 ∨ j = 1 ∨ j = 2 ∨ j = 3 ∨ j = 4 ∨ j = 5 ∨ j = 6 ∨ j = 7 by omega) with rfl | rfl | rfl | rfl | rfl | rfl | rfl | rfl <;> rfl) ⟨by decide, by decide⟩ dX1_init_48 (fun a8 H hH => ?_)
  refine W.widen (k := 8) (n := 107) (by omega) (by omega) ?_
  refine lv_dup X.1 X.2.1 dX1_init_51 rfl ?_
  refine tc_call X hA hH hl.1 (k_X0_init l g) ky_X0_init.1 rfl ky_X0_init.2 wm_46 8 rfl [(h0, tc_eD (.ref a1) (.ref a2) (.ref a5) .null .null (nI 0)), (a1, tc_eI g 3 f1), (a2, tc_eA a3 a4), (a3, tc_eI g 32 f3), (a4, tc_eI g 8 (fun _ => nI 0)), (a5, tc_eA a6 a7), (a6, tc_eI g 32 f6), (a7, tc_eI g 8 (fun _ => nI 0))] [0, 1, 2, 3, 4, 5, 6, 7] rfl rfl (by decide) (Nat.le_of_ble_eq_true rfl) ⟨by decide, by decide⟩ ⟨by decide, by decide⟩ dX1_init_52 (fun w1 H locs hw hH => ?_)
  refine W.widen (k := 10) (n := 147) (by omega) (by omega) ?_
  obtain ⟨a9, a10, f9, rfl, hf9⟩ := hw
  have hH : tc_H g A s.heap [(h0, tc_eD (.ref a1) (.ref a2) (.ref a5) .null .null (nI 0)), (a1, tc_eI g 3 f1), (a2, tc_eA a3 a4), (a3, tc_eI g 32 f3), (a4, tc_eI g 8 (fun _ => nI 0)), (a5, tc_eA a6 a7), (a6, tc_eI g 32 f6), (a7, tc_eI g 8 (fun _ => nI 0)), (a8, tc_eA a9 a10), (a9, tc_eI g 32 f9), (a10, tc_eI g 8 (fun _ => nI 0))] H locs := hH
  refine tc_putF X hH inlX1 tyX1 tyX1_ok nmX1 0 rfl rfl 3 (by decide) wm_40 rfl hnm rfl (ty := .object "TrialBoots$Area") (by decide +kernel) rfl rfl (Nat.le_of_ble_eq_true rfl) dX1_init_55 (fun H locs hH => ?_)
  have hH : tc_H g A s.heap [(h0, tc_eD (.ref a1) (.ref a2) (.ref a5) (.ref a8) .null (nI 0)), (a1, tc_eI g 3 f1), (a2, tc_eA a3 a4), (a3, tc_eI g 32 f3), (a4, tc_eI g 8 (fun _ => nI 0)), (a5, tc_eA a6 a7), (a6, tc_eI g 32 f6), (a7, tc_eI g 8 (fun _ => nI 0)), (a8, tc_eA a9 a10), (a9, tc_eI g 32 f9), (a10, tc_eI g 8 (fun _ => nI 0))] H locs := hH
  refine lv_aload_n X.1 X.2.1 dX1_init_58 rfl (lv_at hl 0 rfl) ?_
  refine tc_new (ci := 4) X hA hH inlX4 tyX4 tyX4_ok wm_41 wm_42 wm_43 rfl [.int (nI 0), .int (nI 0), .int (nI 0), .null, .null, .null] (fun j hj => by rcases (show j = 0 ∨ j = 1 ∨ j = 2 ∨ j = 3 ∨ j = 4 ∨ j = 5 by omega) with rfl | rfl | rfl | rfl | rfl | rfl <;> rfl) ⟨by decide, by decide⟩ dX1_init_59 (fun a11 H hH => ?_)
  refine W.widen (k := 11) (n := 153) (by omega) (by omega) ?_
  refine lv_dup X.1 X.2.1 dX1_init_62 rfl ?_
  refine tc_callN X hA hH hl.1 (k_X4_init l g) ky_X4_init.1 rfl ky_X4_init.2 X.2.2.2.2.1.2.2.1 11 rfl [(h0, tc_eD (.ref a1) (.ref a2) (.ref a5) (.ref a8) .null (nI 0)), (a1, tc_eI g 3 f1), (a2, tc_eA a3 a4), (a3, tc_eI g 32 f3), (a4, tc_eI g 8 (fun _ => nI 0)), (a5, tc_eA a6 a7), (a6, tc_eI g 32 f6), (a7, tc_eI g 8 (fun _ => nI 0)), (a8, tc_eA a9 a10), (a9, tc_eI g 32 f9), (a10, tc_eI g 8 (fun _ => nI 0))] [0, 1, 2, 3, 4, 5, 6, 7, 8, 9, 10] rfl rfl (by decide) (Nat.le_of_ble_eq_true rfl) ⟨by decide, by decide⟩ ⟨by decide, by decide⟩ dX1_init_63 (fun w1 H locs hw hH => ?_)
  refine W.widen (k := 14) (n := 189) (by omega) (by omega) ?_
  obtain ⟨a12, a13, a14, rfl⟩ := hw
  have hH : tc_H g A s.heap [(h0, tc_eD (.ref a1) (.ref a2) (.ref a5) (.ref a8) .null (nI 0)), (a1, tc_eI g 3 f1), (a2, tc_eA a3 a4), (a3, tc_eI g 32 f3), (a4, tc_eI g 8 (fun _ => nI 0)), (a5, tc_eA a6 a7), (a6, tc_eI g 32 f6), (a7, tc_eI g 8 (fun _ => nI 0)), (a8, tc_eA a9 a10), (a9, tc_eI g 32 f9), (a10, tc_eI g 8 (fun _ => nI 0)), (a11, .inr (4, [.int (nI 0), .int (nI 0), .int (nI 0), .ref a12, .ref a13, .ref a14])), (a12, tc_eI g 12 (fun _ => nI 0)), (a13, tc_eI g 12 (fun _ => nI 0)), (a14, tc_eI g 12 (fun _ => nI 0))] H locs := hH
  refine tc_putF X hH inlX1 tyX1 tyX1_ok nmX1 0 rfl rfl 4 (by decide) wm_44 rfl hnm rfl (ty := .object "TrialBoots$Starts") (by decide +kernel) rfl rfl (Nat.le_of_ble_eq_true rfl) dX1_init_66 (fun H locs hH => ?_)
  have hH : tc_H g A s.heap [(h0, tc_eD (.ref a1) (.ref a2) (.ref a5) (.ref a8) (.ref a11) (nI 0)), (a1, tc_eI g 3 f1), (a2, tc_eA a3 a4), (a3, tc_eI g 32 f3), (a4, tc_eI g 8 (fun _ => nI 0)), (a5, tc_eA a6 a7), (a6, tc_eI g 32 f6), (a7, tc_eI g 8 (fun _ => nI 0)), (a8, tc_eA a9 a10), (a9, tc_eI g 32 f9), (a10, tc_eI g 8 (fun _ => nI 0)), (a11, .inr (4, [.int (nI 0), .int (nI 0), .int (nI 0), .ref a12, .ref a13, .ref a14])), (a12, tc_eI g 12 (fun _ => nI 0)), (a13, tc_eI g 12 (fun _ => nI 0)), (a14, tc_eI g 12 (fun _ => nI 0))] H locs := hH
  refine lv_aload_n X.1 X.2.1 dX1_init_69 rfl (lv_at hl 0 rfl) ?_
  refine lv_iconst (v := nI 2) X.1 X.2.1 dX1_init_70 (by decide +kernel) ?_
  refine tc_put X hH inlX1 tyX1 tyX1_ok nmX1 0 rfl rfl 5 (by decide) wm_45 rfl (ty := .int) (by decide +kernel) rfl rfl (Nat.le_of_ble_eq_true rfl) dX1_init_71 (fun H locs hH => ?_)
  have hH : tc_H g A s.heap [(h0, tc_eD (.ref a1) (.ref a2) (.ref a5) (.ref a8) (.ref a11) (nI 2)), (a1, tc_eI g 3 f1), (a2, tc_eA a3 a4), (a3, tc_eI g 32 f3), (a4, tc_eI g 8 (fun _ => nI 0)), (a5, tc_eA a6 a7), (a6, tc_eI g 32 f6), (a7, tc_eI g 8 (fun _ => nI 0)), (a8, tc_eA a9 a10), (a9, tc_eI g 32 f9), (a10, tc_eI g 8 (fun _ => nI 0)), (a11, .inr (4, [.int (nI 0), .int (nI 0), .int (nI 0), .ref a12, .ref a13, .ref a14])), (a12, tc_eI g 12 (fun _ => nI 0)), (a13, tc_eI g 12 (fun _ => nI 0)), (a14, tc_eI g 12 (fun _ => nI 0))] H locs := hH
  refine lv_aload_n X.1 X.2.1 dX1_init_74 rfl (lv_at hl 0 rfl) ?_
  refine tc_get X hH inlX1 0 rfl rfl 3 (by decide) wm_40 (v := .ref a8) rfl dX1_init_75 ?_
  refine tc_gold (gS := tc_ga g (fun k => if k = 2 then a8 else if k = 3 then a9 else a10)) (z := fun k j => if k = 3 then f9 j else nI 0) X hA hH hl.1 wm_59 ⟨rfl, rfl, rfl⟩ [8, 9, 10] rfl rfl [(h0, tc_eD (.ref a1) (.ref a2) (.ref a5) (.ref a8) (.ref a11) (nI 2)), (a1, tc_eI g 3 f1), (a2, tc_eA a3 a4), (a3, tc_eI g 32 f3), (a4, tc_eI g 8 (fun _ => nI 0)), (a5, tc_eA a6 a7), (a6, tc_eI g 32 f6), (a7, tc_eI g 8 (fun _ => nI 0)), (a11, .inr (4, [.int (nI 0), .int (nI 0), .int (nI 0), .ref a12, .ref a13, .ref a14])), (a12, tc_eI g 12 (fun _ => nI 0)), (a13, tc_eI g 12 (fun _ => nI 0)), (a14, tc_eI g 12 (fun _ => nI 0))] [0, 1, 2, 3, 4, 5, 6, 7, 11, 12, 13, 14] rfl rfl (by decide) (Nat.le_of_ble_eq_true rfl) ⟨by decide, by decide⟩ ⟨by decide, by decide⟩ dX1_init_78 (fun H locs hH => ?_)
  obtain ⟨zG, hzG⟩ : ∃ u : tb_M, sz_X0_takeGoldenImage (fun k j => if k = 3 then f9 j else nI 0) 2 = u := ⟨_, rfl⟩
  rw [hzG] at hH
  obtain ⟨hP, hD, hS⟩ := hH
  refine tc_rv (ws := (List.range 15).map (fun c => (tc_15 h0 a1 a2 a3 a4 a5 a6 a7 a8 a9 a10 a11 a12 a13 a14 c, tb_d (tc_ga g (tc_15 h0 a1 a2 a3 a4 a5 a6 a7 a8 a9 a10 a11 a12 a13 a14)) 0 c (tc_15 (fun j => if j = 5 then nI 2 else nI 0) f1 tc_0 f3 tc_0 tc_0 f6 tc_0 (zG 2) (zG 3) (zG 4) tc_0 tc_0 tc_0 tc_0 c)))) X hr hlk ⟨hP.sub [0, 1, 2, 3, 4, 5, 6, 7, 12, 13, 14, 8, 9, 10, 11] rfl, hD.sub [0, 1, 2, 3, 4, 5, 6, 7, 12, 13, 14, 8, 9, 10, 11] rfl rfl, hS⟩ ⟨tc_15 h0 a1 a2 a3 a4 a5 a6 a7 a8 a9 a10 a11 a12 a13 a14, tc_15 (fun j => if j = 5 then nI 2 else nI 0) f1 tc_0 f3 tc_0 tc_0 f6 tc_0 (zG 2) (zG 3) (zG 4) tc_0 tc_0 tc_0 tc_0, rfl, rfl, ?_⟩ dX1_init_81
  have e1 : ∀ k j, zG k j = (tb_up (tb_up (tb_up (tb_up (tb_up (tb_up (tb_up (tb_up (tb_up (tb_up (tb_up (tb_up (fun k j => if k = 3 then f9 j else nI 0) 2 0 (nI 1)) 2 1 (nI 0)) 2 2 (nI 2)) 2 3 (nI 0)) 2 4 (nI 0)) 2 5 (nI 0)) (2 + 1) 0 (nI 0)) 2 5 (nI (0 + 1))) (2 + 1) 1 (nI 0)) 2 5 (nI (1 + 1))) 2 3 tb_gs) 2 0 (nI 3)) k j := fun k j => by rw [← hzG, tb_take_e]
  have g3 : ∀ i, zG 3 i = if i = 1 then nI 0 else if i = 0 then nI 0 else f9 i := fun i => by
    rw [e1]
    rw [tb_up_k _ _ _ (by decide), tb_up_k _ _ _ (by decide), tb_up_k _ _ _ (by decide), tb_up_e, tb_up_k _ _ _ (by decide), tb_up_e, tb_up_k _ _ _ (by decide), tb_up_k _ _ _ (by decide), tb_up_k _ _ _ (by decide), tb_up_k _ _ _ (by decide), tb_up_k _ _ _ (by decide), tb_up_k _ _ _ (by decide), if_pos rfl]
  refine ⟨by rw [← hf1]; rfl, by rw [← hf1]; rfl, by rw [← hf1]; rfl, rfl, fun j h1 h2 => if_neg (by omega), fun k hk => ?_, fun p _ => rfl, fun k h1 h2 i hi => ?_, ?_, ?_, ?_, ?_, ?_, ?_⟩
  · rcases hk with rfl | rfl
    · exact ⟨fun p _ => rfl, hf3, fun _ _ => rfl⟩
    · exact ⟨fun p _ => rfl, hf6, fun _ _ => rfl⟩
  · rcases (show k = 12 ∨ k = 13 ∨ k = 14 by omega) with rfl | rfl | rfl <;> rfl
  · show zG 2 0 = nI 3
    rw [e1]
    exact tb_up_s _ _ _ _
  · show zG 2 2 = nI 2
    rw [e1]
    rfl
  · show zG 2 3 = tb_sm (zG 3) 2
    have : tb_sm (zG 3) 2 = tb_gs := tb_sm_c (fun i hi => by
      rw [g3]
      rcases (show i = 0 ∨ i = 1 by omega) with rfl | rfl
      · rfl
      · rfl)
    rw [this, e1, tb_up_j _ _ _ (by decide)]
    exact tb_up_s _ _ _ _
  · show zG 3 0 = nI 0
    rw [g3]
    rfl
  · show zG 3 1 = nI 0
    rw [g3]
    rfl
  · intro i h1 h2
    show zG 3 i = nI 255
    rw [g3, if_neg (by omega), if_neg (by omega)]
    exact hf9 i h2
