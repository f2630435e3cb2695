/-! THE MODEL'S CONSTRUCTOR itself -/
def tc_N (r w : Nat) (f : Nat → Int32) : Prop := f 0 = nI 3 ∧ f 1 = nI 10 ∧ f 2 = nI 20 ∧ f 3 = nI 2 ∧ (∀ r' w', w' < 32 → (r' < r ∨ r' = r ∧ w' < w) → f (11 + 46 * r' + (14 + w')) = nI 255) ∧ ∀ j, 4 ≤ j → j < 139 → (∀ r' w', w' < 32 → (r' < r ∨ r' = r ∧ w' < w) → j ≠ 11 + 46 * r' + (14 + w')) → f j = nI 0
theorem tc_N_s {r w : Nat} {f : Nat → Int32} (h : tc_N r w f) (hw : w < 32) : tc_N r (w + 1) (upd f (11 + 46 * r + (14 + w)) (nI 255)) := by
  obtain ⟨h0, h1, h2, h3, h4, h5⟩ := h
  have u : ∀ j, upd f (11 + 46 * r + (14 + w)) (nI 255) j = if j = 11 + 46 * r + (14 + w) then nI 255 else f j := fun j => rfl
  refine ⟨by rw [u, if_neg (by omega), h0], by rw [u, if_neg (by omega), h1], by rw [u, if_neg (by omega), h2], by rw [u, if_neg (by omega), h3], fun r' w' hw' hx => ?_, fun j hj hj2 hx => ?_⟩
  · rw [u]
    by_cases e : 11 + 46 * r' + (14 + w') = 11 + 46 * r + (14 + w)
    · rw [if_pos e]
    · rw [if_neg e]
      exact h4 r' w' hw' (by omega)
  · rw [u, if_neg (hx r w hw (by omega))]
    exact h5 j hj hj2 (fun r' w' hw' hy => hx r' w' hw' (by omega))
theorem tc_N_n {r : Nat} {f : Nat → Int32} (h : tc_N r 32 f) : tc_N (r + 1) 0 f := by
  obtain ⟨h0, h1, h2, h3, h4, h5⟩ := h
  exact ⟨h0, h1, h2, h3, fun r' w' hw' hx => h4 r' w' hw' (by omega), fun j hj hj2 hx => h5 j hj hj2 (fun r' w' hw' hy => hx r' w' hw' (by omega))⟩
theorem tc_N_e {f : Nat → Int32} (h : tc_N 2 0 f) : tc_ZM f := by
  obtain ⟨h0, h1, h2, h3, h4, h5⟩ := h
  exact ⟨h0, h1, h2, h3, fun r hr w hw => h4 r w hw (Or.inl hr), fun j hj hj2 hx => h5 j hj hj2 (fun r' w' hw' hy => hx r' (by omega) w' hw')⟩
set_option maxHeartbeats 1000000 in
set_option maxRecDepth 100000 in
theorem k_X6_init (l : Launch) (g : tb_G) : tc_M l yX6_init cX6_init 3 1 6 1456 g tc_m0 (tc_pM g) := by
  refine tc_go (own := RX6) (by decide +kernel) rfl (by decide) ?_
  intro p e s m below meth c ls A h0 X hr hlk hnm hA hH hl
  refine lv_aload_n X.1 X.2.1 dX6_init_0 rfl (lv_at hl 0 rfl) ?_
  refine tc_obj X hl.1 wm_98 (Nat.le_of_ble_eq_true rfl) ⟨by decide, by decide⟩ dX6_init_1 ?_
  refine lv_aload_n X.1 X.2.1 dX6_init_4 rfl (lv_at hl 0 rfl) ?_
  refine lv_sipush (v := nI 139) X.1 X.2.1 dX6_init_5 (by decide +kernel) ?_
  refine tc_newi X hA hH (N := 139) (by decide) rfl ⟨by decide, by decide⟩ dX6_init_8 (fun a1 H hH => ?_)
  refine W.widen (k := 1) (n := 139) (by omega) (by omega) ?_
  refine tc_putF X hH inlX6 tyX6 tyX6_ok nmX6 0 rfl rfl 0 (by decide) wm_99 rfl hnm rfl (ty := .array .int) (by decide +kernel) rfl rfl (Nat.le_of_ble_eq_true rfl) dX6_init_10 (fun H locs hH => ?_)
  refine lv_aload_n X.1 X.2.1 dX6_init_13 rfl (lv_at hl 0 rfl) ?_
  refine lv_sipush (v := nI 139) X.1 X.2.1 dX6_init_14 (by decide +kernel) ?_
  refine tc_newi X hA hH (N := 139) (by decide) rfl ⟨by decide, by decide⟩ dX6_init_17 (fun a2 H hH => ?_)
  refine W.widen (k := 2) (n := 278) (by omega) (by omega) ?_
  refine tc_putF X hH inlX6 tyX6 tyX6_ok nmX6 0 rfl rfl 1 (by decide) wm_100 rfl hnm rfl (ty := .array .int) (by decide +kernel) rfl rfl (Nat.le_of_ble_eq_true rfl) dX6_init_19 (fun H locs hH => ?_)
  refine lv_aload_n X.1 X.2.1 dX6_init_22 rfl (lv_at hl 0 rfl) ?_
  refine lv_sipush (v := nI 834) X.1 X.2.1 dX6_init_23 (by decide +kernel) ?_
  refine tc_newi X hA hH (N := 834) (by decide) rfl ⟨by decide, by decide⟩ dX6_init_26 (fun a3 H hH => ?_)
  refine W.widen (k := 3) (n := 1112) (by omega) (by omega) ?_
  refine tc_putF X hH inlX6 tyX6 tyX6_ok nmX6 0 rfl rfl 2 (by decide) wm_101 rfl hnm rfl (ty := .array .int) (by decide +kernel) rfl rfl (Nat.le_of_ble_eq_true rfl) dX6_init_28 (fun H locs hH => ?_)
  refine lv_aload_n X.1 X.2.1 dX6_init_31 rfl (lv_at hl 0 rfl) ?_
  refine lv_sipush (v := nI 278) X.1 X.2.1 dX6_init_32 (by decide +kernel) ?_
  refine tc_newi X hA hH (N := 278) (by decide) rfl ⟨by decide, by decide⟩ dX6_init_35 (fun a4 H hH => ?_)
  refine W.widen (k := 4) (n := 1390) (by omega) (by omega) ?_
  refine tc_putF X hH inlX6 tyX6 tyX6_ok nmX6 0 rfl rfl 4 (by decide) wm_102 rfl hnm rfl (ty := .array .int) (by decide +kernel) rfl rfl (Nat.le_of_ble_eq_true rfl) dX6_init_37 (fun H locs hH => ?_)
  refine lv_aload_n X.1 X.2.1 dX6_init_40 rfl (lv_at hl 0 rfl) ?_
  refine lv_iconst (v := nI 2) X.1 X.2.1 dX6_init_41 (by decide +kernel) ?_
  refine tc_newi X hA hH (N := 2) (by decide) rfl ⟨by decide, by decide⟩ dX6_init_42 (fun a5 H hH => ?_)
  refine W.widen (k := 5) (n := 1392) (by omega) (by omega) ?_
  refine tc_putF X hH inlX6 tyX6 tyX6_ok nmX6 0 rfl rfl 5 (by decide) wm_103 rfl hnm rfl (ty := .array .int) (by decide +kernel) rfl rfl (Nat.le_of_ble_eq_true rfl) dX6_init_44 (fun H locs hH => ?_)
  refine lv_aload_n X.1 X.2.1 dX6_init_47 rfl (lv_at hl 0 rfl) ?_
  refine lv_bipush (v := nI 64) X.1 X.2.1 dX6_init_48 (by decide +kernel) ?_
  refine tc_newi X hA hH (N := 64) (by decide) rfl ⟨by decide, by decide⟩ dX6_init_50 (fun a6 H hH => ?_)
  refine W.widen (k := 6) (n := 1456) (by omega) (by omega) ?_
  refine tc_putF X hH inlX6 tyX6 tyX6_ok nmX6 0 rfl rfl 6 (by decide) wm_104 rfl hnm rfl (ty := .array .int) (by decide +kernel) rfl rfl (Nat.le_of_ble_eq_true rfl) dX6_init_52 (fun H locs hH => ?_)
  have hH : tc_H g A s.heap (tc_wM g h0 a1 a2 a3 a4 a5 a6 (fun _ => nI 0)) H locs := hH
  refine lv_aload_n X.1 X.2.1 dX6_init_55 rfl (lv_at hl 0 rfl) ?_
  refine tc_get X hH inlX6 0 rfl rfl 0 (by decide) wm_99 (v := .ref a1) rfl dX6_init_56 ?_
  refine lv_iconst (v := nI 0) X.1 X.2.1 dX6_init_59 (by decide +kernel) ?_
  refine lv_iconst (v := nI 3) X.1 X.2.1 dX6_init_60 (by decide +kernel) ?_
  refine tc_ast X hH 1 rfl 0 rfl (by decide) (by decide) dX6_init_61 (fun H locs hH => ?_)
  have hH : tc_H g A s.heap (tc_wM g h0 a1 a2 a3 a4 a5 a6 (upd (fun _ => nI 0) 0 (nI 3))) H locs := hH
  refine lv_aload_n X.1 X.2.1 dX6_init_62 rfl (lv_at hl 0 rfl) ?_
  refine tc_get X hH inlX6 0 rfl rfl 0 (by decide) wm_99 (v := .ref a1) rfl dX6_init_63 ?_
  refine lv_iconst (v := nI 1) X.1 X.2.1 dX6_init_66 (by decide +kernel) ?_
  refine lv_bipush (v := nI 10) X.1 X.2.1 dX6_init_67 (by decide +kernel) ?_
  refine tc_ast X hH 1 rfl 1 rfl (by decide) (by decide) dX6_init_69 (fun H locs hH => ?_)
  have hH : tc_H g A s.heap (tc_wM g h0 a1 a2 a3 a4 a5 a6 (upd (upd (fun _ => nI 0) 0 (nI 3)) 1 (nI 10))) H locs := hH
  refine lv_aload_n X.1 X.2.1 dX6_init_70 rfl (lv_at hl 0 rfl) ?_
  refine tc_get X hH inlX6 0 rfl rfl 0 (by decide) wm_99 (v := .ref a1) rfl dX6_init_71 ?_
  refine lv_iconst (v := nI 2) X.1 X.2.1 dX6_init_74 (by decide +kernel) ?_
  refine lv_bipush (v := nI 20) X.1 X.2.1 dX6_init_75 (by decide +kernel) ?_
  refine tc_ast X hH 1 rfl 2 rfl (by decide) (by decide) dX6_init_77 (fun H locs hH => ?_)
  have hH : tc_H g A s.heap (tc_wM g h0 a1 a2 a3 a4 a5 a6 (upd (upd (upd (fun _ => nI 0) 0 (nI 3)) 1 (nI 10)) 2 (nI 20))) H locs := hH
  refine lv_aload_n X.1 X.2.1 dX6_init_78 rfl (lv_at hl 0 rfl) ?_
  refine tc_get X hH inlX6 0 rfl rfl 0 (by decide) wm_99 (v := .ref a1) rfl dX6_init_79 ?_
  refine lv_iconst (v := nI 3) X.1 X.2.1 dX6_init_82 (by decide +kernel) ?_
  refine lv_iconst (v := nI 2) X.1 X.2.1 dX6_init_83 (by decide +kernel) ?_
  refine tc_ast X hH 1 rfl 3 rfl (by decide) (by decide) dX6_init_84 (fun H locs hH => ?_)
  have hH : tc_H g A s.heap (tc_wM g h0 a1 a2 a3 a4 a5 a6 (upd (upd (upd (upd (fun _ => nI 0) 0 (nI 3)) 1 (nI 10)) 2 (nI 20)) 3 (nI 2))) H locs := hH
  refine lv_iconst (v := nI 0) X.1 X.2.1 dX6_init_85 (by decide +kernel) ?_
  refine lv_istore_n (lv' := [(1, .int (nI 0)), (0, .ref h0)]) X.1 X.2.1 dX6_init_86 rfl hl (by decide) rfl (fun ls hl => ?_)
  have LI : ∀ (r : Nat), r < 2 → (∀ (f : Nat → Int32), tc_N r 32 f → ∀ (H : Heap) (locs : List Loc) (ls : Array Slot), tc_H g A s.heap (tc_wM g h0 a1 a2 a3 a4 a5 a6 f) H locs → lv_has ls 3 [(0, .ref h0), (1, .int (nI r))] → W p l e (tc_rm 1 6 1456) s m #[.ref h0] below meth c H locs 6 1456 (MQ below (va_Qv (fun w : va_W => tc_pM g h0 w) (tc_B g A) A) #[.ref h0] s 6 1456 A) (F0 m 118 ls [])) → ∀ (k w : Nat), w + k = 32 → ∀ (f : Nat → Int32), tc_N r w f → ∀ (H : Heap) (locs : List Loc) (ls : Array Slot), tc_H g A s.heap (tc_wM g h0 a1 a2 a3 a4 a5 a6 f) H locs → lv_has ls 3 [(0, .ref h0), (1, .int (nI r)), (2, .int (nI w))] → W p l e (tc_rm 1 6 1456) s m #[.ref h0] below meth c H locs 6 1456 (MQ below (va_Qv (fun w : va_W => tc_pM g h0 w) (tc_B g A) A) #[.ref h0] s 6 1456 A) (F0 m 94 ls []) := by
    intro r hr2 K k
    induction k with
    | zero =>
      intro w hwk f hf H locs ls hH hl
      have hw : w = 32 := by omega
      subst hw
      refine lv_iload_n X.1 X.2.1 dX6_init_94 rfl (lv_at hl 2 rfl) ?_
      refine lv_bipush (v := nI 32) X.1 X.2.1 dX6_init_95 (by decide +kernel) ?_
      refine lv_icmp_ge (tgt := 118) X.1 X.2.1 dX6_init_97 (by decide) (fun _ => ?_) (fun h => (h (nI_le (by omega) (by omega)) : False).elim)
      exact K f hf H locs ls hH (lv_sub hl [0, 1] rfl)
    | succ k ih =>
      intro w hwk f hf H locs ls hH hl
      refine lv_iload_n X.1 X.2.1 dX6_init_94 rfl (lv_at hl 2 rfl) ?_
      refine lv_bipush (v := nI 32) X.1 X.2.1 dX6_init_95 (by decide +kernel) ?_
      refine lv_icmp_ge (tgt := 118) X.1 X.2.1 dX6_init_97 (by decide) (fun h => (nI_ge (by omega) (by decide) h : False).elim) (fun _ => ?_)
      refine lv_aload_n X.1 X.2.1 dX6_init_100 rfl (lv_at hl 0 rfl) ?_
      refine lv_iload_n X.1 X.2.1 dX6_init_101 rfl (lv_at hl 1 rfl) ?_
      refine lv_bipush (v := nI 14) X.1 X.2.1 dX6_init_102 (by decide +kernel) ?_
      refine lv_iload_n X.1 X.2.1 dX6_init_104 rfl (lv_at hl 2 rfl) ?_
      refine lv_iadd X.1 X.2.1 dX6_init_105 ?_
      rw [nI_add]
      refine lv_sipush (v := nI 255) X.1 X.2.1 dX6_init_106 (by decide +kernel) ?_
      refine tc_setp X hA hH hl.1 wm_105 (by omega) (Nat.le_of_ble_eq_true rfl) ⟨by decide, by decide⟩ ⟨by decide, by decide⟩ dX6_init_109 (fun H locs hH => ?_)
      refine lv_iinc (v := nI (w + 1)) (lv' := [(2, .int (nI (w + 1))), (0, .ref h0), (1, .int (nI r))]) X.1 X.2.1 dX6_init_112 hl (k := 2) rfl (nI_add _ _) (by decide) rfl (fun ls hl => ?_)
      refine lv_goto (tgt := 94) X.1 X.2.1 dX6_init_115 (by decide) ?_
      exact ih (w + 1) (by omega) _ (tc_N_s hf (by omega)) H locs ls hH (lv_sub hl [1, 2, 0] rfl)
  have LO : ∀ (k r : Nat), r + k = 2 → ∀ (f : Nat → Int32), tc_N r 0 f → ∀ (H : Heap) (locs : List Loc) (ls : Array Slot), tc_H g A s.heap (tc_wM g h0 a1 a2 a3 a4 a5 a6 f) H locs → lv_has ls 3 [(0, .ref h0), (1, .int (nI r))] → W p l e (tc_rm 1 6 1456) s m #[.ref h0] below meth c H locs 6 1456 (MQ below (va_Qv (fun w : va_W => tc_pM g h0 w) (tc_B g A) A) #[.ref h0] s 6 1456 A) (F0 m 87 ls []) := by
    intro k
    induction k with
    | zero =>
      intro r hrk f hf H locs ls hH hl
      have h2 : r = 2 := by omega
      subst h2
      refine lv_iload_n X.1 X.2.1 dX6_init_87 rfl (lv_at hl 1 rfl) ?_
      refine lv_iconst (v := nI 2) X.1 X.2.1 dX6_init_88 (by decide +kernel) ?_
      refine lv_icmp_ge (tgt := 124) X.1 X.2.1 dX6_init_89 (by decide) (fun _ => ?_) (fun h => (h (nI_le (by omega) (by omega)) : False).elim)
      exact tc_rv X hr hlk hH ⟨a1, a2, a3, a4, a5, a6, f, rfl, tc_N_e hf⟩ dX6_init_124
    | succ k ih =>
      intro r hrk f hf H locs ls hH hl
      refine lv_iload_n X.1 X.2.1 dX6_init_87 rfl (lv_at hl 1 rfl) ?_
      refine lv_iconst (v := nI 2) X.1 X.2.1 dX6_init_88 (by decide +kernel) ?_
      refine lv_icmp_ge (tgt := 124) X.1 X.2.1 dX6_init_89 (by decide) (fun h => (nI_ge (by omega) (by decide) h : False).elim) (fun _ => ?_)
      refine lv_iconst (v := nI 0) X.1 X.2.1 dX6_init_92 (by decide +kernel) ?_
      refine lv_istore_n (lv' := [(2, .int (nI 0)), (0, .ref h0), (1, .int (nI r))]) X.1 X.2.1 dX6_init_93 rfl hl (by decide) rfl (fun ls hl => ?_)
      refine LI r (by omega) (fun f hf H locs ls hH hl => ?_) 32 0 (by decide) f hf H locs ls hH (lv_sub hl [1, 2, 0] rfl)
      refine lv_iinc (v := nI (r + 1)) (lv' := [(1, .int (nI (r + 1))), (0, .ref h0)]) X.1 X.2.1 dX6_init_118 hl (k := 1) rfl (nI_add _ _) (by decide) rfl (fun ls hl => ?_)
      refine lv_goto (tgt := 87) X.1 X.2.1 dX6_init_121 (by decide) ?_
      exact ih (r + 1) (by omega) f (tc_N_n hf) H locs ls hH (lv_sub hl [1, 0] rfl)
  refine LO 2 0 (by decide) _ ⟨rfl, rfl, rfl, rfl, fun r' w' _ hx => absurd hx (by omega), fun j h1 h2 _ => ?_⟩ H locs ls hH (lv_sub hl [1, 0] rfl)
  unfold upd
  rw [if_neg (by omega), if_neg (by omega), if_neg (by omega), if_neg (by omega)]
