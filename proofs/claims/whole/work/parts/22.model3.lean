def sz_X6_starts_m1 (z : tb_M) (x : Int32) : tb_M := if (((z 158 ((11 + (46 * 0)) + 0))) = (nI (2))) then (if ((z 158 ((11 + (46 * 0)) + 4))) = 0 then (tb_up z 158 ((11 + (46 * 0)) + 0) (nI (4))) else z) else z
def sz_X6_starts_m2 (z : tb_M) (x : Int32) : tb_M := if x = (nI (2)) then (if ((((sz_X6_starts_m1 z x) 158 ((11 + (46 * 0)) + 0))) = (nI (1))) then (tb_up (sz_X6_starts_m1 z x) 158 ((11 + (46 * 0)) + 0) (nI (0))) else (sz_X6_starts_m1 z x)) else (sz_X6_starts_m1 z x)
def sz_X6_starts_m3 (z : tb_M) (x : Int32) : tb_M := if ((((sz_X6_starts_m2 z x) 158 ((11 + (46 * 1)) + 0))) = (nI (2))) then (if (((sz_X6_starts_m2 z x) 158 ((11 + (46 * 1)) + 4))) = 0 then (tb_up (sz_X6_starts_m2 z x) 158 ((11 + (46 * 1)) + 0) (nI (4))) else (sz_X6_starts_m2 z x)) else (sz_X6_starts_m2 z x)
def sz_X6_starts_m4 (z : tb_M) (x : Int32) : tb_M := if x = (nI (2)) then (if ((((sz_X6_starts_m3 z x) 158 ((11 + (46 * 1)) + 0))) = (nI (1))) then (tb_up (sz_X6_starts_m3 z x) 158 ((11 + (46 * 1)) + 0) (nI (0))) else (sz_X6_starts_m3 z x)) else (sz_X6_starts_m3 z x)
def sv_X6_starts_v1 (z : tb_M) (x : Int32) : Nat := if ((tb_ch (sz_X6_starts_m4 z x))) = 2 then ((tb_ch (sz_X6_starts_m4 z x))) else (if (sp_X6_isSound (sz_X6_starts_m4 z x) ((tb_ch (sz_X6_starts_m4 z x)))) then ((tb_ch (sz_X6_starts_m4 z x))) else (if ((tb_ch (tb_up (sz_X6_starts_m4 z x) 158 ((11 + (46 * ((tb_ch (sz_X6_starts_m4 z x))))) + 0) (nI (4))))) = 2 then ((tb_ch (tb_up (sz_X6_starts_m4 z x) 158 ((11 + (46 * ((tb_ch (sz_X6_starts_m4 z x))))) + 0) (nI (4))))) else (if (sp_X6_isSound (tb_up (sz_X6_starts_m4 z x) 158 ((11 + (46 * ((tb_ch (sz_X6_starts_m4 z x))))) + 0) (nI (4))) ((tb_ch (tb_up (sz_X6_starts_m4 z x) 158 ((11 + (46 * ((tb_ch (sz_X6_starts_m4 z x))))) + 0) (nI (4)))))) then ((tb_ch (tb_up (sz_X6_starts_m4 z x) 158 ((11 + (46 * ((tb_ch (sz_X6_starts_m4 z x))))) + 0) (nI (4))))) else ((tb_ch (tb_up (tb_up (sz_X6_starts_m4 z x) 158 ((11 + (46 * ((tb_ch (sz_X6_starts_m4 z x))))) + 0) (nI (4))) 158 ((11 + (46 * ((tb_ch (tb_up (sz_X6_starts_m4 z x) 158 ((11 + (46 * ((tb_ch (sz_X6_starts_m4 z x))))) + 0) (nI (4))))))) + 0) (nI (4))))))))
def sz_X6_starts_m5 (z : tb_M) (x : Int32) : tb_M := if ((tb_ch (sz_X6_starts_m4 z x))) = 2 then (sz_X6_starts_m4 z x) else (if (sp_X6_isSound (sz_X6_starts_m4 z x) ((tb_ch (sz_X6_starts_m4 z x)))) then (sz_X6_starts_m4 z x) else (if ((tb_ch (tb_up (sz_X6_starts_m4 z x) 158 ((11 + (46 * ((tb_ch (sz_X6_starts_m4 z x))))) + 0) (nI (4))))) = 2 then (tb_up (sz_X6_starts_m4 z x) 158 ((11 + (46 * ((tb_ch (sz_X6_starts_m4 z x))))) + 0) (nI (4))) else (if (sp_X6_isSound (tb_up (sz_X6_starts_m4 z x) 158 ((11 + (46 * ((tb_ch (sz_X6_starts_m4 z x))))) + 0) (nI (4))) ((tb_ch (tb_up (sz_X6_starts_m4 z x) 158 ((11 + (46 * ((tb_ch (sz_X6_starts_m4 z x))))) + 0) (nI (4)))))) then (tb_up (sz_X6_starts_m4 z x) 158 ((11 + (46 * ((tb_ch (sz_X6_starts_m4 z x))))) + 0) (nI (4))) else (tb_up (tb_up (sz_X6_starts_m4 z x) 158 ((11 + (46 * ((tb_ch (sz_X6_starts_m4 z x))))) + 0) (nI (4))) 158 ((11 + (46 * ((tb_ch (tb_up (sz_X6_starts_m4 z x) 158 ((11 + (46 * ((tb_ch (sz_X6_starts_m4 z x))))) + 0) (nI (4))))))) + 0) (nI (4))))))
def sz_X6_starts_m6 (z : tb_M) (x : Int32) : tb_M := if (sv_X6_starts_v1 z x) = 2 then (sz_X6_starts_m5 z x) else (if ((((sz_X6_starts_m5 z x) 158 ((11 + (46 * (sv_X6_starts_v1 z x))) + 0))) = (nI (2))) then (tb_up (sz_X6_starts_m5 z x) 158 ((11 + (46 * (sv_X6_starts_v1 z x))) + 4) ((((sz_X6_starts_m5 z x) 158 ((11 + (46 * (sv_X6_starts_v1 z x))) + 4))) - (nI (1)))) else (sz_X6_starts_m5 z x))
def sz_X6_starts_m7 (z : tb_M) (x : Int32) : tb_M := tb_up (tb_up (sz_X6_starts_m6 z x) 158 3 (nI (sv_X6_starts_v1 z x))) 158 4 (nI (0))
def sz_X6_starts_m8 (z : tb_M) (x : Int32) : tb_M := tb_up (tb_up (sz_X6_starts_m7 z x) 158 5 (nI (0))) 158 7 (((tb_up (sz_X6_starts_m7 z x) 158 5 (nI (0))) 158 7) + (nI (1)))
def sz_X6_starts_m9 (z : tb_M) (x : Int32) : tb_M := tb_up (sz_X6_starts_m8 z x) 158 8 (((sz_X6_starts_m8 z x) 158 8) + (tb_b (x = (nI (1)))))
theorem tb_st1_e (z : tb_M) (x : Int32) {j : Nat} (h0 : j ≠ (11 + (46 * 0)) + 0) : sz_X6_starts_m1 z x 158 j = z 158 j := by
  unfold sz_X6_starts_m1
  repeat' split
  all_goals first | rfl | exact tb_up_j _ _ _ h0
theorem tb_st2_e (z : tb_M) (x : Int32) {j : Nat} (h0 : j ≠ (11 + (46 * 0)) + 0) : sz_X6_starts_m2 z x 158 j = z 158 j := by
  unfold sz_X6_starts_m2
  repeat' split
  all_goals first | exact tb_st1_e z x h0 | (rw [tb_up_j _ _ _ h0]; exact tb_st1_e z x h0)
theorem tb_st3_e (z : tb_M) (x : Int32) {j : Nat} (h0 : j ≠ (11 + (46 * 0)) + 0) (h1 : j ≠ (11 + (46 * 1)) + 0) : sz_X6_starts_m3 z x 158 j = z 158 j := by
  unfold sz_X6_starts_m3
  repeat' split
  all_goals first | exact tb_st2_e z x h0 | (rw [tb_up_j _ _ _ h1]; exact tb_st2_e z x h0)
theorem tb_st4_e (z : tb_M) (x : Int32) {j : Nat} (h0 : j ≠ (11 + (46 * 0)) + 0) (h1 : j ≠ (11 + (46 * 1)) + 0) : sz_X6_starts_m4 z x 158 j = z 158 j := by
  unfold sz_X6_starts_m4
  repeat' split
  all_goals first | exact tb_st3_e z x h0 h1 | (rw [tb_up_j _ _ _ h1]; exact tb_st3_e z x h0 h1)
theorem tb_stM_ok (z : tb_M) (x : Int32) (hL : ∀ r, r < 2 → tb_okM z r) {r : Nat} (hr : r < 2) : tb_okM (sz_X6_starts_m4 z x) r := tb_okM_c (hL r hr) (tb_st4_e z x (by omega) (by omega))
theorem tb_stv_le (z : tb_M) (x : Int32) : sv_X6_starts_v1 z x ≤ 2 := by
  unfold sv_X6_starts_v1
  repeat' split
  all_goals exact tb_ch_le _
set_option maxHeartbeats 1000000 in
set_option maxRecDepth 100000 in
theorem c_X6_starts (l : Launch) (g : tb_G) (z : tb_M) (x : Int32) (hL : ∀ r, r < 2 → tb_okM z r) : tb_Mv l yX6_starts cX6_starts 3 5 g z [.ref (tb_ad g 157), .int x] (sz_X6_remember (sz_X6_starts_m9 z x) x) := by
  refine tb_gov (own := RX6) (by decide +kernel) rfl (Nat.le_of_ble_eq_true rfl) ?_
  intro p e s m below meth c ls X hr hlk hH hl
  have hl : lv_has ls 3 [(0, .ref (tb_ad g (157))), (1, .int (x))] := hl
  refine lv_iconst (v := nI (0)) X.1 X.2.1 dX6_starts_0 (by decide +kernel) ?_
  refine lv_istore_n (lv' := [(2, .int (nI (0))), (0, .ref (tb_ad g (157))), (1, .int (x))]) X.1 X.2.1 dX6_starts_1 rfl hl (by decide) rfl (fun ls hl => ?_)
  refine lv_iload_n X.1 X.2.1 dX6_starts_2 rfl (lv_at hl 0 rfl) ?_
  refine lv_iconst (v := nI (2)) X.1 X.2.1 dX6_starts_3 (by decide +kernel) ?_
  refine tb_nge (tgt := 59) X (by omega) (by omega) dX6_starts_4 (by decide) (fun c => ((by omega) : False).elim) (fun _ => ?_)
  refine lv_aload_n X.1 X.2.1 dX6_starts_7 rfl (lv_at hl 1 rfl) ?_
  refine lv_iload_n X.1 X.2.1 dX6_starts_8 rfl (lv_at hl 0 rfl) ?_
  refine lv_iconst (v := nI (2)) X.1 X.2.1 dX6_starts_9 (by decide +kernel) ?_
  refine tb_cVi X hH hl.1 (c_X6_isHow l g z 0 (nI (2)) (by first | assumption | omega | decide)) ky_X6_isHow.1 ky_X6_isHow.2 wm_256 tb_oM rfl rfl (Nat.le_of_ble_eq_true rfl) ⟨by decide, by decide⟩ ⟨by decide, by decide⟩ dX6_starts_10 (fun H locs hH => ?_)
  have J_1 : ∀ (H : Heap) (locs : List Loc) (ls : Array Slot) (zq : tb_M), zq = (if (((z 158 ((11 + (46 * 0)) + 0))) = (nI (2))) then (if ((z 158 ((11 + (46 * 0)) + 4))) = 0 then (tb_up z 158 ((11 + (46 * 0)) + 0) (nI (4))) else z) else z) → tb_H g s.heap zq H locs → lv_has ls 3 [(2, .int (nI (0))), (0, .ref (tb_ad g (157))), (1, .int (x))] → W p l e (tb_rm 5) s m ([.ref (tb_ad g 157), .int x] : List Value).toArray below meth c H locs 0 0 (MQ below (va_Qv (fun u9 => u9 = (sz_X6_remember (sz_X6_starts_m9 z x) x)) (tb_B g) (tb_A g)) ([.ref (tb_ad g 157), .int x] : List Value).toArray s 0 0 (tb_A g)) (F0 m 32 ls []) := by
    intro H locs ls zq  ezq  hH hl
    subst ezq
    have hH : tb_H g s.heap (sz_X6_starts_m1 z x) H locs := hH
    refine lv_iload_n X.1 X.2.1 dX6_starts_32 rfl (lv_at hl 2 rfl) ?_
    refine lv_iconst (v := nI (2)) X.1 X.2.1 dX6_starts_33 (by decide +kernel) ?_
    have J_2 : ∀ (H : Heap) (locs : List Loc) (ls : Array Slot) (zq : tb_M), zq = (if x = (nI (2)) then (if ((((sz_X6_starts_m1 z x) 158 ((11 + (46 * 0)) + 0))) = (nI (1))) then (tb_up (sz_X6_starts_m1 z x) 158 ((11 + (46 * 0)) + 0) (nI (0))) else (sz_X6_starts_m1 z x)) else (sz_X6_starts_m1 z x)) → tb_H g s.heap zq H locs → lv_has ls 3 [(2, .int (nI (0))), (0, .ref (tb_ad g (157))), (1, .int (x))] → W p l e (tb_rm 5) s m ([.ref (tb_ad g 157), .int x] : List Value).toArray below meth c H locs 0 0 (MQ below (va_Qv (fun u9 => u9 = (sz_X6_remember (sz_X6_starts_m9 z x) x)) (tb_B g) (tb_A g)) ([.ref (tb_ad g 157), .int x] : List Value).toArray s 0 0 (tb_A g)) (F0 m 53 ls []) := by
      intro H locs ls zq  ezq  hH hl
      subst ezq
      have hH : tb_H g s.heap (sz_X6_starts_m2 z x) H locs := hH
      refine lv_iinc (v := nI (1)) (lv' := [(2, .int (nI (1))), (0, .ref (tb_ad g (157))), (1, .int (x))]) X.1 X.2.1 dX6_starts_53 hl (k := 0) rfl (by decide +kernel) (by decide) rfl (fun ls hl => ?_)
      refine lv_goto (tgt := 2) X.1 X.2.1 dX6_starts_56 (by decide) ?_
      refine lv_iload_n X.1 X.2.1 dX6_starts_2 rfl (lv_at hl 0 rfl) ?_
      refine lv_iconst (v := nI (2)) X.1 X.2.1 dX6_starts_3 (by decide +kernel) ?_
      refine tb_nge (tgt := 59) X (by omega) (by omega) dX6_starts_4 (by decide) (fun c => ((by omega) : False).elim) (fun _ => ?_)
      refine lv_aload_n X.1 X.2.1 dX6_starts_7 rfl (lv_at hl 1 rfl) ?_
      refine lv_iload_n X.1 X.2.1 dX6_starts_8 rfl (lv_at hl 0 rfl) ?_
      refine lv_iconst (v := nI (2)) X.1 X.2.1 dX6_starts_9 (by decide +kernel) ?_
      refine tb_cVi X hH hl.1 (c_X6_isHow l g (sz_X6_starts_m2 z x) 1 (nI (2)) (by first | assumption | omega | decide)) ky_X6_isHow.1 ky_X6_isHow.2 wm_256 tb_oM rfl rfl (Nat.le_of_ble_eq_true rfl) ⟨by decide, by decide⟩ ⟨by decide, by decide⟩ dX6_starts_10 (fun H locs hH => ?_)
      have J_3 : ∀ (H : Heap) (locs : List Loc) (ls : Array Slot) (zq : tb_M), zq = (if ((((sz_X6_starts_m2 z x) 158 ((11 + (46 * 1)) + 0))) = (nI (2))) then (if (((sz_X6_starts_m2 z x) 158 ((11 + (46 * 1)) + 4))) = 0 then (tb_up (sz_X6_starts_m2 z x) 158 ((11 + (46 * 1)) + 0) (nI (4))) else (sz_X6_starts_m2 z x)) else (sz_X6_starts_m2 z x)) → tb_H g s.heap zq H locs → lv_has ls 3 [(2, .int (nI (1))), (0, .ref (tb_ad g (157))), (1, .int (x))] → W p l e (tb_rm 5) s m ([.ref (tb_ad g 157), .int x] : List Value).toArray below meth c H locs 0 0 (MQ below (va_Qv (fun u9 => u9 = (sz_X6_remember (sz_X6_starts_m9 z x) x)) (tb_B g) (tb_A g)) ([.ref (tb_ad g 157), .int x] : List Value).toArray s 0 0 (tb_A g)) (F0 m 32 ls []) := by
        intro H locs ls zq  ezq  hH hl
        subst ezq
        have hH : tb_H g s.heap (sz_X6_starts_m3 z x) H locs := hH
        refine lv_iload_n X.1 X.2.1 dX6_starts_32 rfl (lv_at hl 2 rfl) ?_
        refine lv_iconst (v := nI (2)) X.1 X.2.1 dX6_starts_33 (by decide +kernel) ?_
        have J_4 : ∀ (H : Heap) (locs : List Loc) (ls : Array Slot) (zq : tb_M), zq = (if x = (nI (2)) then (if ((((sz_X6_starts_m3 z x) 158 ((11 + (46 * 1)) + 0))) = (nI (1))) then (tb_up (sz_X6_starts_m3 z x) 158 ((11 + (46 * 1)) + 0) (nI (0))) else (sz_X6_starts_m3 z x)) else (sz_X6_starts_m3 z x)) → tb_H g s.heap zq H locs → lv_has ls 3 [(2, .int (nI (1))), (0, .ref (tb_ad g (157))), (1, .int (x))] → W p l e (tb_rm 5) s m ([.ref (tb_ad g 157), .int x] : List Value).toArray below meth c H locs 0 0 (MQ below (va_Qv (fun u9 => u9 = (sz_X6_remember (sz_X6_starts_m9 z x) x)) (tb_B g) (tb_A g)) ([.ref (tb_ad g 157), .int x] : List Value).toArray s 0 0 (tb_A g)) (F0 m 53 ls []) := by
          intro H locs ls zq  ezq  hH hl
          subst ezq
          have hH : tb_H g s.heap (sz_X6_starts_m4 z x) H locs := hH
          refine lv_iinc (v := nI (2)) (lv' := [(2, .int (nI (2))), (0, .ref (tb_ad g (157))), (1, .int (x))]) X.1 X.2.1 dX6_starts_53 hl (k := 0) rfl (by decide +kernel) (by decide) rfl (fun ls hl => ?_)
          refine lv_goto (tgt := 2) X.1 X.2.1 dX6_starts_56 (by decide) ?_
          refine lv_iload_n X.1 X.2.1 dX6_starts_2 rfl (lv_at hl 0 rfl) ?_
          refine lv_iconst (v := nI (2)) X.1 X.2.1 dX6_starts_3 (by decide +kernel) ?_
          refine tb_nge (tgt := 59) X (by omega) (by omega) dX6_starts_4 (by decide) (fun _ => ?_) (fun c => ((by omega) : False).elim)
          refine lv_aload_n X.1 X.2.1 dX6_starts_59 rfl (lv_at hl 1 rfl) ?_
          refine tb_cVi X hH hl.1 (c_X6_chosen l g (sz_X6_starts_m4 z x)) ky_X6_chosen.1 ky_X6_chosen.2 wm_405 tb_oM rfl rfl (Nat.le_of_ble_eq_true rfl) ⟨by decide, by decide⟩ ⟨by decide, by decide⟩ dX6_starts_60 (fun H locs hH => ?_)
          have hb_1 := (tb_ch_le (sz_X6_starts_m4 z x))
          refine lv_istore_n (lv' := [(2, .int (nI ((tb_ch (sz_X6_starts_m4 z x))))), (0, .ref (tb_ad g (157))), (1, .int (x))]) X.1 X.2.1 dX6_starts_63 rfl hl (by decide) rfl (fun ls hl => ?_)
          refine lv_iload_n X.1 X.2.1 dX6_starts_64 rfl (lv_at hl 0 rfl) ?_
          refine lv_iconst (v := nI (2)) X.1 X.2.1 dX6_starts_65 (by decide +kernel) ?_
          have J_5 : ∀ (H : Heap) (locs : List Loc) (ls : Array Slot) (zq : tb_M) (vq1 : Int32), zq = (if ((tb_ch (sz_X6_starts_m4 z x))) = 2 then (sz_X6_starts_m4 z x) else (if (sp_X6_isSound (sz_X6_starts_m4 z x) ((tb_ch (sz_X6_starts_m4 z x)))) then (sz_X6_starts_m4 z x) else (if ((tb_ch (tb_up (sz_X6_starts_m4 z x) 158 ((11 + (46 * ((tb_ch (sz_X6_starts_m4 z x))))) + 0) (nI (4))))) = 2 then (tb_up (sz_X6_starts_m4 z x) 158 ((11 + (46 * ((tb_ch (sz_X6_starts_m4 z x))))) + 0) (nI (4))) else (if (sp_X6_isSound (tb_up (sz_X6_starts_m4 z x) 158 ((11 + (46 * ((tb_ch (sz_X6_starts_m4 z x))))) + 0) (nI (4))) ((tb_ch (tb_up (sz_X6_starts_m4 z x) 158 ((11 + (46 * ((tb_ch (sz_X6_starts_m4 z x))))) + 0) (nI (4)))))) then (tb_up (sz_X6_starts_m4 z x) 158 ((11 + (46 * ((tb_ch (sz_X6_starts_m4 z x))))) + 0) (nI (4))) else (tb_up (tb_up (sz_X6_starts_m4 z x) 158 ((11 + (46 * ((tb_ch (sz_X6_starts_m4 z x))))) + 0) (nI (4))) 158 ((11 + (46 * ((tb_ch (tb_up (sz_X6_starts_m4 z x) 158 ((11 + (46 * ((tb_ch (sz_X6_starts_m4 z x))))) + 0) (nI (4))))))) + 0) (nI (4))))))) → vq1 = (nI (if ((tb_ch (sz_X6_starts_m4 z x))) = 2 then ((tb_ch (sz_X6_starts_m4 z x))) else (if (sp_X6_isSound (sz_X6_starts_m4 z x) ((tb_ch (sz_X6_starts_m4 z x)))) then ((tb_ch (sz_X6_starts_m4 z x))) else (if ((tb_ch (tb_up (sz_X6_starts_m4 z x) 158 ((11 + (46 * ((tb_ch (sz_X6_starts_m4 z x))))) + 0) (nI (4))))) = 2 then ((tb_ch (tb_up (sz_X6_starts_m4 z x) 158 ((11 + (46 * ((tb_ch (sz_X6_starts_m4 z x))))) + 0) (nI (4))))) else (if (sp_X6_isSound (tb_up (sz_X6_starts_m4 z x) 158 ((11 + (46 * ((tb_ch (sz_X6_starts_m4 z x))))) + 0) (nI (4))) ((tb_ch (tb_up (sz_X6_starts_m4 z x) 158 ((11 + (46 * ((tb_ch (sz_X6_starts_m4 z x))))) + 0) (nI (4)))))) then ((tb_ch (tb_up (sz_X6_starts_m4 z x) 158 ((11 + (46 * ((tb_ch (sz_X6_starts_m4 z x))))) + 0) (nI (4))))) else ((tb_ch (tb_up (tb_up (sz_X6_starts_m4 z x) 158 ((11 + (46 * ((tb_ch (sz_X6_starts_m4 z x))))) + 0) (nI (4))) 158 ((11 + (46 * ((tb_ch (tb_up (sz_X6_starts_m4 z x) 158 ((11 + (46 * ((tb_ch (sz_X6_starts_m4 z x))))) + 0) (nI (4))))))) + 0) (nI (4)))))))))) → tb_H g s.heap zq H locs → lv_has ls 3 [(2, .int vq1), (0, .ref (tb_ad g (157))), (1, .int (x))] → W p l e (tb_rm 5) s m ([.ref (tb_ad g 157), .int x] : List Value).toArray below meth c H locs 0 0 (MQ below (va_Qv (fun u9 => u9 = (sz_X6_remember (sz_X6_starts_m9 z x) x)) (tb_B g) (tb_A g)) ([.ref (tb_ad g 157), .int x] : List Value).toArray s 0 0 (tb_A g)) (F0 m 92 ls []) := by
            intro H locs ls zq vq1 ezq evq1 hH hl
            subst ezq
            have hH : tb_H g s.heap (sz_X6_starts_m5 z x) H locs := hH
            subst evq1
            have hl : lv_has ls 3 [(2, .int (nI (sv_X6_starts_v1 z x))), (0, .ref (tb_ad g (157))), (1, .int (x))] := hl
            have hb9 := tb_stv_le z x
            refine lv_iload_n X.1 X.2.1 dX6_starts_92 rfl (lv_at hl 0 rfl) ?_
            refine lv_iconst (v := nI (2)) X.1 X.2.1 dX6_starts_93 (by decide +kernel) ?_
            have J_6 : ∀ (H : Heap) (locs : List Loc) (ls : Array Slot) (zq : tb_M), zq = (if (sv_X6_starts_v1 z x) = 2 then (sz_X6_starts_m5 z x) else (if ((((sz_X6_starts_m5 z x) 158 ((11 + (46 * (sv_X6_starts_v1 z x))) + 0))) = (nI (2))) then (tb_up (sz_X6_starts_m5 z x) 158 ((11 + (46 * (sv_X6_starts_v1 z x))) + 4) ((((sz_X6_starts_m5 z x) 158 ((11 + (46 * (sv_X6_starts_v1 z x))) + 4))) - (nI (1)))) else (sz_X6_starts_m5 z x))) → tb_H g s.heap zq H locs → lv_has ls 3 [(2, .int (nI (sv_X6_starts_v1 z x))), (0, .ref (tb_ad g (157))), (1, .int (x))] → W p l e (tb_rm 5) s m ([.ref (tb_ad g 157), .int x] : List Value).toArray below meth c H locs 0 0 (MQ below (va_Qv (fun u9 => u9 = (sz_X6_remember (sz_X6_starts_m9 z x) x)) (tb_B g) (tb_A g)) ([.ref (tb_ad g 157), .int x] : List Value).toArray s 0 0 (tb_A g)) (F0 m 120 ls []) := by
              intro H locs ls zq  ezq  hH hl
              subst ezq
              have hH : tb_H g s.heap (sz_X6_starts_m6 z x) H locs := hH
              refine lv_aload_n X.1 X.2.1 dX6_starts_120 rfl (lv_at hl 1 rfl) ?_
              refine tb_get X hH tb_Mc.1 (tb_Mc.2 _ _) rfl inlX6 0 (by decide) wm_99 (v := .ref (tb_ad g (158))) rfl dX6_starts_121 ?_
              refine lv_iconst (v := nI (3)) X.1 X.2.1 dX6_starts_124 (by decide +kernel) ?_
              refine lv_iload_n X.1 X.2.1 dX6_starts_125 rfl (lv_at hl 0 rfl) ?_
              refine tb_ast X hH tb_i158 (3) rfl (by decide) (by first | decide | omega) dX6_starts_126 (fun H locs hH => ?_)
              refine lv_aload_n X.1 X.2.1 dX6_starts_127 rfl (lv_at hl 1 rfl) ?_
              refine tb_get X hH tb_Mc.1 (tb_Mc.2 _ _) rfl inlX6 0 (by decide) wm_99 (v := .ref (tb_ad g (158))) rfl dX6_starts_128 ?_
              refine lv_iconst (v := nI (4)) X.1 X.2.1 dX6_starts_131 (by decide +kernel) ?_
              refine lv_iconst (v := nI (0)) X.1 X.2.1 dX6_starts_132 (by decide +kernel) ?_
              refine tb_ast X hH tb_i158 (4) rfl (by decide) (by first | decide | omega) dX6_starts_133 (fun H locs hH => ?_)
              have hH : tb_H g s.heap (sz_X6_starts_m7 z x) H locs := hH
              refine lv_aload_n X.1 X.2.1 dX6_starts_134 rfl (lv_at hl 1 rfl) ?_
              refine tb_get X hH tb_Mc.1 (tb_Mc.2 _ _) rfl inlX6 0 (by decide) wm_99 (v := .ref (tb_ad g (158))) rfl dX6_starts_135 ?_
              refine lv_iconst (v := nI (5)) X.1 X.2.1 dX6_starts_138 (by decide +kernel) ?_
              refine lv_iconst (v := nI (0)) X.1 X.2.1 dX6_starts_139 (by decide +kernel) ?_
              refine tb_ast X hH tb_i158 (5) rfl (by decide) (by first | decide | omega) dX6_starts_140 (fun H locs hH => ?_)
              refine lv_aload_n X.1 X.2.1 dX6_starts_141 rfl (lv_at hl 1 rfl) ?_
              refine tb_get X hH tb_Mc.1 (tb_Mc.2 _ _) rfl inlX6 0 (by decide) wm_99 (v := .ref (tb_ad g (158))) rfl dX6_starts_142 ?_
              refine lv_bipush (v := nI (7)) X.1 X.2.1 dX6_starts_145 (by decide +kernel) ?_
              refine lv_dup2_11 X.1 X.2.1 dX6_starts_147 rfl rfl ?_
              refine tb_ald X hH tb_i158 (7) rfl (by decide) (by first | decide | omega) dX6_starts_148 ?_
              refine lv_iconst (v := nI (1)) X.1 X.2.1 dX6_starts_149 (by decide +kernel) ?_
              refine lv_iadd X.1 X.2.1 dX6_starts_150 ?_
              refine tb_ast X hH tb_i158 (7) rfl (by decide) (by first | decide | omega) dX6_starts_151 (fun H locs hH => ?_)
              have hH : tb_H g s.heap (sz_X6_starts_m8 z x) H locs := hH
              refine lv_aload_n X.1 X.2.1 dX6_starts_152 rfl (lv_at hl 1 rfl) ?_
              refine tb_get X hH tb_Mc.1 (tb_Mc.2 _ _) rfl inlX6 0 (by decide) wm_99 (v := .ref (tb_ad g (158))) rfl dX6_starts_153 ?_
              refine lv_bipush (v := nI (8)) X.1 X.2.1 dX6_starts_156 (by decide +kernel) ?_
              refine lv_dup2_11 X.1 X.2.1 dX6_starts_158 rfl rfl ?_
              refine tb_ald X hH tb_i158 (8) rfl (by decide) (by first | decide | omega) dX6_starts_159 ?_
              refine lv_iload_n X.1 X.2.1 dX6_starts_160 rfl (lv_at hl 2 rfl) ?_
              refine lv_iconst (v := nI (1)) X.1 X.2.1 dX6_starts_161 (by decide +kernel) ?_
              have J_7 : ∀ (H : Heap) (locs : List Loc) (ls : Array Slot) (vq1 : Int32), vq1 = (tb_b (x = (nI (1)))) → tb_H g s.heap (sz_X6_starts_m8 z x) H locs → lv_has ls 3 [(2, .int (nI (sv_X6_starts_v1 z x))), (0, .ref (tb_ad g (157))), (1, .int (x))] → W p l e (tb_rm 5) s m ([.ref (tb_ad g 157), .int x] : List Value).toArray below meth c H locs 0 0 (MQ below (va_Qv (fun u9 => u9 = (sz_X6_remember (sz_X6_starts_m9 z x) x)) (tb_B g) (tb_A g)) ([.ref (tb_ad g 157), .int x] : List Value).toArray s 0 0 (tb_A g)) (F0 m 170 ls [.int vq1, .int ((sz_X6_starts_m8 z x) 158 8), .int (nI (8)), .ref (tb_ad g (158))]) := by
                intro H locs ls vq1 evq1 hH hl
                subst evq1
                refine lv_iadd X.1 X.2.1 dX6_starts_170 ?_
                refine tb_ast X hH tb_i158 (8) rfl (by decide) (by first | decide | omega) dX6_starts_171 (fun H locs hH => ?_)
                have hH : tb_H g s.heap (sz_X6_starts_m9 z x) H locs := hH
                refine lv_aload_n X.1 X.2.1 dX6_starts_172 rfl (lv_at hl 1 rfl) ?_
                refine lv_iload_n X.1 X.2.1 dX6_starts_173 rfl (lv_at hl 2 rfl) ?_
                refine tb_cVv X hH hl.1 (c_X6_remember l g (sz_X6_starts_m9 z x) x) ky_X6_remember.1 ky_X6_remember.2 wm_417 tb_oM rfl rfl (Nat.le_of_ble_eq_true rfl) ⟨by decide, by decide⟩ ⟨by decide, by decide⟩ dX6_starts_174 (fun H locs hH => ?_)
                exact tb_rv X hr hlk hH rfl dX6_starts_177
              refine lv_icmp_ne (tgt := 169) X.1 X.2.1 dX6_starts_162 (by decide) (fun c_15 => ?_) (fun c_15 => ?_)
              · refine lv_iconst (v := nI (0)) X.1 X.2.1 dX6_starts_169 (by decide +kernel) ?_
                exact J_7 _ _ _ _ (tb_b_f c_15).symm hH (lv_sub hl [0, 1, 2] rfl)
              · refine lv_iconst (v := nI (1)) X.1 X.2.1 dX6_starts_165 (by decide +kernel) ?_
                refine lv_goto (tgt := 170) X.1 X.2.1 dX6_starts_166 (by decide) ?_
                exact J_7 _ _ _ _ (tb_b_t c_15).symm hH (lv_sub hl [0, 1, 2] rfl)
            refine tb_neq (tgt := 120) X (by omega) (by omega) dX6_starts_94 (by decide) (fun c_13 => ?_) (fun c_13 => ?_)
            · exact J_6 _ _ _ _ (by simp only [if_pos c_13]) hH (lv_sub hl [0, 1, 2] rfl)
            · refine lv_aload_n X.1 X.2.1 dX6_starts_97 rfl (lv_at hl 1 rfl) ?_
              refine lv_iload_n X.1 X.2.1 dX6_starts_98 rfl (lv_at hl 0 rfl) ?_
              refine lv_iconst (v := nI (2)) X.1 X.2.1 dX6_starts_99 (by decide +kernel) ?_
              refine tb_cVi X hH hl.1 (c_X6_isHow l g (sz_X6_starts_m5 z x) (sv_X6_starts_v1 z x) (nI (2)) (by first | assumption | omega | decide)) ky_X6_isHow.1 ky_X6_isHow.2 wm_256 tb_oM rfl rfl (Nat.le_of_ble_eq_true rfl) ⟨by decide, by decide⟩ ⟨by decide, by decide⟩ dX6_starts_100 (fun H locs hH => ?_)
              refine tb_jbeq (tgt := 120) X dX6_starts_103 (by decide) (fun c_14 => ?_) (fun c_14 => ?_)
              · exact J_6 _ _ _ _ (by simp only [if_neg c_13, if_neg c_14]) hH (lv_sub hl [0, 1, 2] rfl)
              · refine lv_aload_n X.1 X.2.1 dX6_starts_106 rfl (lv_at hl 1 rfl) ?_
                refine lv_iload_n X.1 X.2.1 dX6_starts_107 rfl (lv_at hl 0 rfl) ?_
                refine lv_iconst (v := nI (4)) X.1 X.2.1 dX6_starts_108 (by decide +kernel) ?_
                refine lv_aload_n X.1 X.2.1 dX6_starts_109 rfl (lv_at hl 1 rfl) ?_
                refine lv_iload_n X.1 X.2.1 dX6_starts_110 rfl (lv_at hl 0 rfl) ?_
                refine lv_iconst (v := nI (4)) X.1 X.2.1 dX6_starts_111 (by decide +kernel) ?_
                refine tb_cVi X hH hl.1 (c_X6_part l g (sz_X6_starts_m5 z x) (sv_X6_starts_v1 z x) 4 (by first | assumption | omega | decide)) ky_X6_part.1 ky_X6_part.2 wm_229 tb_oM rfl rfl (Nat.le_of_ble_eq_true rfl) ⟨by decide, by decide⟩ ⟨by decide, by decide⟩ dX6_starts_112 (fun H locs hH => ?_)
                refine lv_iconst (v := nI (1)) X.1 X.2.1 dX6_starts_115 (by decide +kernel) ?_
                refine lv_isub X.1 X.2.1 dX6_starts_116 ?_
                refine tb_cVv X hH hl.1 (c_X6_setPart l g (sz_X6_starts_m5 z x) (sv_X6_starts_v1 z x) 4 ((((sz_X6_starts_m5 z x) 158 ((11 + (46 * (sv_X6_starts_v1 z x))) + 4))) - (nI (1))) (by first | assumption | omega | decide)) ky_X6_setPart.1 ky_X6_setPart.2 wm_105 tb_oM rfl rfl (Nat.le_of_ble_eq_true rfl) ⟨by decide, by decide⟩ ⟨by decide, by decide⟩ dX6_starts_117 (fun H locs hH => ?_)
                exact J_6 _ _ _ _ (by simp only [if_neg c_13, if_pos c_14]) hH (lv_sub hl [0, 1, 2] rfl)
          refine tb_neq (tgt := 92) X (by omega) (by omega) dX6_starts_66 (by decide) (fun c_9 => ?_) (fun c_9 => ?_)
          · exact J_5 _ _ _ _ _ (by simp only [if_pos c_9]) (by simp only [if_pos c_9]) hH (lv_sub hl [0, 1, 2] rfl)
          · refine lv_aload_n X.1 X.2.1 dX6_starts_69 rfl (lv_at hl 1 rfl) ?_
            refine lv_iload_n X.1 X.2.1 dX6_starts_70 rfl (lv_at hl 0 rfl) ?_
            refine tb_cVi X hH hl.1 (c_X6_isSound l g (sz_X6_starts_m4 z x) ((tb_ch (sz_X6_starts_m4 z x))) (by omega) (tb_stM_ok z x hL (by omega))) ky_X6_isSound.1 ky_X6_isSound.2 wm_322 tb_oM rfl rfl (Nat.le_of_ble_eq_true rfl) ⟨by decide, by decide⟩ ⟨by decide, by decide⟩ dX6_starts_71 (fun H locs hH => ?_)
            refine tb_jbne (tgt := 92) X dX6_starts_74 (by decide) (fun c_10 => ?_) (fun c_10 => ?_)
            · exact J_5 _ _ _ _ _ (by simp only [if_neg c_9, if_pos c_10]) (by simp only [if_neg c_9, if_pos c_10]) hH (lv_sub hl [0, 1, 2] rfl)
            · refine lv_aload_n X.1 X.2.1 dX6_starts_77 rfl (lv_at hl 1 rfl) ?_
              refine lv_iload_n X.1 X.2.1 dX6_starts_78 rfl (lv_at hl 0 rfl) ?_
              refine lv_iconst (v := nI (0)) X.1 X.2.1 dX6_starts_79 (by decide +kernel) ?_
              refine lv_iconst (v := nI (4)) X.1 X.2.1 dX6_starts_80 (by decide +kernel) ?_
              refine tb_cVv X hH hl.1 (c_X6_setPart l g (sz_X6_starts_m4 z x) ((tb_ch (sz_X6_starts_m4 z x))) 0 (nI (4)) (by first | assumption | omega | decide)) ky_X6_setPart.1 ky_X6_setPart.2 wm_105 tb_oM rfl rfl (Nat.le_of_ble_eq_true rfl) ⟨by decide, by decide⟩ ⟨by decide, by decide⟩ dX6_starts_81 (fun H locs hH => ?_)
              refine lv_aload_n X.1 X.2.1 dX6_starts_84 rfl (lv_at hl 1 rfl) ?_
              refine tb_cVi X hH hl.1 (c_X6_chosen l g (tb_up (sz_X6_starts_m4 z x) 158 ((11 + (46 * ((tb_ch (sz_X6_starts_m4 z x))))) + 0) (nI (4)))) ky_X6_chosen.1 ky_X6_chosen.2 wm_405 tb_oM rfl rfl (Nat.le_of_ble_eq_true rfl) ⟨by decide, by decide⟩ ⟨by decide, by decide⟩ dX6_starts_85 (fun H locs hH => ?_)
              have hb_2 := (tb_ch_le (tb_up (sz_X6_starts_m4 z x) 158 ((11 + (46 * ((tb_ch (sz_X6_starts_m4 z x))))) + 0) (nI (4))))
              refine lv_istore_n (lv' := [(2, .int (nI ((tb_ch (tb_up (sz_X6_starts_m4 z x) 158 ((11 + (46 * ((tb_ch (sz_X6_starts_m4 z x))))) + 0) (nI (4))))))), (0, .ref (tb_ad g (157))), (1, .int (x))]) X.1 X.2.1 dX6_starts_88 rfl hl (by decide) rfl (fun ls hl => ?_)
              refine lv_goto (tgt := 64) X.1 X.2.1 dX6_starts_89 (by decide) ?_
              refine lv_iload_n X.1 X.2.1 dX6_starts_64 rfl (lv_at hl 0 rfl) ?_
              refine lv_iconst (v := nI (2)) X.1 X.2.1 dX6_starts_65 (by decide +kernel) ?_
              refine tb_neq (tgt := 92) X (by omega) (by omega) dX6_starts_66 (by decide) (fun c_11 => ?_) (fun c_11 => ?_)
              · exact J_5 _ _ _ _ _ (by simp only [if_neg c_9, if_neg c_10, if_pos c_11]) (by simp only [if_neg c_9, if_neg c_10, if_pos c_11]) hH (lv_sub hl [0, 1, 2] rfl)
              · refine lv_aload_n X.1 X.2.1 dX6_starts_69 rfl (lv_at hl 1 rfl) ?_
                refine lv_iload_n X.1 X.2.1 dX6_starts_70 rfl (lv_at hl 0 rfl) ?_
                refine tb_cVi X hH hl.1 (c_X6_isSound l g (tb_up (sz_X6_starts_m4 z x) 158 ((11 + (46 * ((tb_ch (sz_X6_starts_m4 z x))))) + 0) (nI (4))) ((tb_ch (tb_up (sz_X6_starts_m4 z x) 158 ((11 + (46 * ((tb_ch (sz_X6_starts_m4 z x))))) + 0) (nI (4))))) (by omega) (tb_okM_c (tb_stM_ok z x hL (by omega)) (tb_setM_2 _ _ _ (by omega) (by omega)))) ky_X6_isSound.1 ky_X6_isSound.2 wm_322 tb_oM rfl rfl (Nat.le_of_ble_eq_true rfl) ⟨by decide, by decide⟩ ⟨by decide, by decide⟩ dX6_starts_71 (fun H locs hH => ?_)
                refine tb_jbne (tgt := 92) X dX6_starts_74 (by decide) (fun c_12 => ?_) (fun c_12 => ?_)
                · exact J_5 _ _ _ _ _ (by simp only [if_neg c_9, if_neg c_10, if_neg c_11, if_pos c_12]) (by simp only [if_neg c_9, if_neg c_10, if_neg c_11, if_pos c_12]) hH (lv_sub hl [0, 1, 2] rfl)
                · refine lv_aload_n X.1 X.2.1 dX6_starts_77 rfl (lv_at hl 1 rfl) ?_
                  refine lv_iload_n X.1 X.2.1 dX6_starts_78 rfl (lv_at hl 0 rfl) ?_
                  refine lv_iconst (v := nI (0)) X.1 X.2.1 dX6_starts_79 (by decide +kernel) ?_
                  refine lv_iconst (v := nI (4)) X.1 X.2.1 dX6_starts_80 (by decide +kernel) ?_
                  refine tb_cVv X hH hl.1 (c_X6_setPart l g (tb_up (sz_X6_starts_m4 z x) 158 ((11 + (46 * ((tb_ch (sz_X6_starts_m4 z x))))) + 0) (nI (4))) ((tb_ch (tb_up (sz_X6_starts_m4 z x) 158 ((11 + (46 * ((tb_ch (sz_X6_starts_m4 z x))))) + 0) (nI (4))))) 0 (nI (4)) (by first | assumption | omega | decide)) ky_X6_setPart.1 ky_X6_setPart.2 wm_105 tb_oM rfl rfl (Nat.le_of_ble_eq_true rfl) ⟨by decide, by decide⟩ ⟨by decide, by decide⟩ dX6_starts_81 (fun H locs hH => ?_)
                  refine lv_aload_n X.1 X.2.1 dX6_starts_84 rfl (lv_at hl 1 rfl) ?_
                  refine tb_cVi X hH hl.1 (c_X6_chosen l g (tb_up (tb_up (sz_X6_starts_m4 z x) 158 ((11 + (46 * ((tb_ch (sz_X6_starts_m4 z x))))) + 0) (nI (4))) 158 ((11 + (46 * ((tb_ch (tb_up (sz_X6_starts_m4 z x) 158 ((11 + (46 * ((tb_ch (sz_X6_starts_m4 z x))))) + 0) (nI (4))))))) + 0) (nI (4)))) ky_X6_chosen.1 ky_X6_chosen.2 wm_405 tb_oM rfl rfl (Nat.le_of_ble_eq_true rfl) ⟨by decide, by decide⟩ ⟨by decide, by decide⟩ dX6_starts_85 (fun H locs hH => ?_)
                  have hb_3 := (tb_ch_le (tb_up (tb_up (sz_X6_starts_m4 z x) 158 ((11 + (46 * ((tb_ch (sz_X6_starts_m4 z x))))) + 0) (nI (4))) 158 ((11 + (46 * ((tb_ch (tb_up (sz_X6_starts_m4 z x) 158 ((11 + (46 * ((tb_ch (sz_X6_starts_m4 z x))))) + 0) (nI (4))))))) + 0) (nI (4))))
                  refine lv_istore_n (lv' := [(2, .int (nI ((tb_ch (tb_up (tb_up (sz_X6_starts_m4 z x) 158 ((11 + (46 * ((tb_ch (sz_X6_starts_m4 z x))))) + 0) (nI (4))) 158 ((11 + (46 * ((tb_ch (tb_up (sz_X6_starts_m4 z x) 158 ((11 + (46 * ((tb_ch (sz_X6_starts_m4 z x))))) + 0) (nI (4))))))) + 0) (nI (4))))))), (0, .ref (tb_ad g (157))), (1, .int (x))]) X.1 X.2.1 dX6_starts_88 rfl hl (by decide) rfl (fun ls hl => ?_)
                  refine lv_goto (tgt := 64) X.1 X.2.1 dX6_starts_89 (by decide) ?_
                  refine lv_iload_n X.1 X.2.1 dX6_starts_64 rfl (lv_at hl 0 rfl) ?_
                  refine lv_iconst (v := nI (2)) X.1 X.2.1 dX6_starts_65 (by decide +kernel) ?_
                  refine tb_neq (tgt := 92) X (by omega) (by omega) dX6_starts_66 (by decide) (fun _ => ?_) (fun c => (c (tb_ch_3rd c_9 c_11) : False).elim)
                  exact J_5 _ _ _ _ _ (by simp only [if_neg c_9, if_neg c_10, if_neg c_11, if_neg c_12]) (by simp only [if_neg c_9, if_neg c_10, if_neg c_11, if_neg c_12]) hH (lv_sub hl [0, 1, 2] rfl)
        refine lv_icmp_ne (tgt := 53) X.1 X.2.1 dX6_starts_34 (by decide) (fun c_7 => ?_) (fun c_7 => ?_)
        · exact J_4 _ _ _ _ (by simp only [if_neg c_7]) hH (lv_sub hl [0, 1, 2] rfl)
        · refine lv_aload_n X.1 X.2.1 dX6_starts_37 rfl (lv_at hl 1 rfl) ?_
          refine lv_iload_n X.1 X.2.1 dX6_starts_38 rfl (lv_at hl 0 rfl) ?_
          refine lv_iconst (v := nI (1)) X.1 X.2.1 dX6_starts_39 (by decide +kernel) ?_
          refine tb_cVi X hH hl.1 (c_X6_isHow l g (sz_X6_starts_m3 z x) 1 (nI (1)) (by first | assumption | omega | decide)) ky_X6_isHow.1 ky_X6_isHow.2 wm_256 tb_oM rfl rfl (Nat.le_of_ble_eq_true rfl) ⟨by decide, by decide⟩ ⟨by decide, by decide⟩ dX6_starts_40 (fun H locs hH => ?_)
          refine tb_jbeq (tgt := 53) X dX6_starts_43 (by decide) (fun c_8 => ?_) (fun c_8 => ?_)
          · exact J_4 _ _ _ _ (by simp only [if_pos c_7, if_neg c_8]) hH (lv_sub hl [0, 1, 2] rfl)
          · refine lv_aload_n X.1 X.2.1 dX6_starts_46 rfl (lv_at hl 1 rfl) ?_
            refine lv_iload_n X.1 X.2.1 dX6_starts_47 rfl (lv_at hl 0 rfl) ?_
            refine lv_iconst (v := nI (0)) X.1 X.2.1 dX6_starts_48 (by decide +kernel) ?_
            refine lv_iconst (v := nI (0)) X.1 X.2.1 dX6_starts_49 (by decide +kernel) ?_
            refine tb_cVv X hH hl.1 (c_X6_setPart l g (sz_X6_starts_m3 z x) 1 0 (nI (0)) (by first | assumption | omega | decide)) ky_X6_setPart.1 ky_X6_setPart.2 wm_105 tb_oM rfl rfl (Nat.le_of_ble_eq_true rfl) ⟨by decide, by decide⟩ ⟨by decide, by decide⟩ dX6_starts_50 (fun H locs hH => ?_)
            exact J_4 _ _ _ _ (by simp only [if_pos c_7, if_pos c_8]) hH (lv_sub hl [0, 1, 2] rfl)
      refine tb_jbeq (tgt := 32) X dX6_starts_13 (by decide) (fun c_5 => ?_) (fun c_5 => ?_)
      · exact J_3 _ _ _ _ (by simp only [if_neg c_5]) hH (lv_sub hl [0, 1, 2] rfl)
      · refine lv_aload_n X.1 X.2.1 dX6_starts_16 rfl (lv_at hl 1 rfl) ?_
        refine lv_iload_n X.1 X.2.1 dX6_starts_17 rfl (lv_at hl 0 rfl) ?_
        refine lv_iconst (v := nI (4)) X.1 X.2.1 dX6_starts_18 (by decide +kernel) ?_
        refine tb_cVi X hH hl.1 (c_X6_part l g (sz_X6_starts_m2 z x) 1 4 (by first | assumption | omega | decide)) ky_X6_part.1 ky_X6_part.2 wm_229 tb_oM rfl rfl (Nat.le_of_ble_eq_true rfl) ⟨by decide, by decide⟩ ⟨by decide, by decide⟩ dX6_starts_19 (fun H locs hH => ?_)
        refine lv_if_ne (tgt := 32) X.1 X.2.1 dX6_starts_22 (by decide) (fun c_6 => ?_) (fun c_6 => ?_)
        · exact J_3 _ _ _ _ (by simp only [if_pos c_5, if_neg c_6]) hH (lv_sub hl [0, 1, 2] rfl)
        · refine lv_aload_n X.1 X.2.1 dX6_starts_25 rfl (lv_at hl 1 rfl) ?_
          refine lv_iload_n X.1 X.2.1 dX6_starts_26 rfl (lv_at hl 0 rfl) ?_
          refine lv_iconst (v := nI (0)) X.1 X.2.1 dX6_starts_27 (by decide +kernel) ?_
          refine lv_iconst (v := nI (4)) X.1 X.2.1 dX6_starts_28 (by decide +kernel) ?_
          refine tb_cVv X hH hl.1 (c_X6_setPart l g (sz_X6_starts_m2 z x) 1 0 (nI (4)) (by first | assumption | omega | decide)) ky_X6_setPart.1 ky_X6_setPart.2 wm_105 tb_oM rfl rfl (Nat.le_of_ble_eq_true rfl) ⟨by decide, by decide⟩ ⟨by decide, by decide⟩ dX6_starts_29 (fun H locs hH => ?_)
          exact J_3 _ _ _ _ (by simp only [if_pos c_5, if_pos c_6]) hH (lv_sub hl [0, 1, 2] rfl)
    refine lv_icmp_ne (tgt := 53) X.1 X.2.1 dX6_starts_34 (by decide) (fun c_3 => ?_) (fun c_3 => ?_)
    · exact J_2 _ _ _ _ (by simp only [if_neg c_3]) hH (lv_sub hl [0, 1, 2] rfl)
    · refine lv_aload_n X.1 X.2.1 dX6_starts_37 rfl (lv_at hl 1 rfl) ?_
      refine lv_iload_n X.1 X.2.1 dX6_starts_38 rfl (lv_at hl 0 rfl) ?_
      refine lv_iconst (v := nI (1)) X.1 X.2.1 dX6_starts_39 (by decide +kernel) ?_
      refine tb_cVi X hH hl.1 (c_X6_isHow l g (sz_X6_starts_m1 z x) 0 (nI (1)) (by first | assumption | omega | decide)) ky_X6_isHow.1 ky_X6_isHow.2 wm_256 tb_oM rfl rfl (Nat.le_of_ble_eq_true rfl) ⟨by decide, by decide⟩ ⟨by decide, by decide⟩ dX6_starts_40 (fun H locs hH => ?_)
      refine tb_jbeq (tgt := 53) X dX6_starts_43 (by decide) (fun c_4 => ?_) (fun c_4 => ?_)
      · exact J_2 _ _ _ _ (by simp only [if_pos c_3, if_neg c_4]) hH (lv_sub hl [0, 1, 2] rfl)
      · refine lv_aload_n X.1 X.2.1 dX6_starts_46 rfl (lv_at hl 1 rfl) ?_
        refine lv_iload_n X.1 X.2.1 dX6_starts_47 rfl (lv_at hl 0 rfl) ?_
        refine lv_iconst (v := nI (0)) X.1 X.2.1 dX6_starts_48 (by decide +kernel) ?_
        refine lv_iconst (v := nI (0)) X.1 X.2.1 dX6_starts_49 (by decide +kernel) ?_
        refine tb_cVv X hH hl.1 (c_X6_setPart l g (sz_X6_starts_m1 z x) 0 0 (nI (0)) (by first | assumption | omega | decide)) ky_X6_setPart.1 ky_X6_setPart.2 wm_105 tb_oM rfl rfl (Nat.le_of_ble_eq_true rfl) ⟨by decide, by decide⟩ ⟨by decide, by decide⟩ dX6_starts_50 (fun H locs hH => ?_)
        exact J_2 _ _ _ _ (by simp only [if_pos c_3, if_pos c_4]) hH (lv_sub hl [0, 1, 2] rfl)
  refine tb_jbeq (tgt := 32) X dX6_starts_13 (by decide) (fun c_1 => ?_) (fun c_1 => ?_)
  · exact J_1 _ _ _ _ (by simp only [if_neg c_1]) hH (lv_sub hl [0, 1, 2] rfl)
  · refine lv_aload_n X.1 X.2.1 dX6_starts_16 rfl (lv_at hl 1 rfl) ?_
    refine lv_iload_n X.1 X.2.1 dX6_starts_17 rfl (lv_at hl 0 rfl) ?_
    refine lv_iconst (v := nI (4)) X.1 X.2.1 dX6_starts_18 (by decide +kernel) ?_
    refine tb_cVi X hH hl.1 (c_X6_part l g z 0 4 (by first | assumption | omega | decide)) ky_X6_part.1 ky_X6_part.2 wm_229 tb_oM rfl rfl (Nat.le_of_ble_eq_true rfl) ⟨by decide, by decide⟩ ⟨by decide, by decide⟩ dX6_starts_19 (fun H locs hH => ?_)
    refine lv_if_ne (tgt := 32) X.1 X.2.1 dX6_starts_22 (by decide) (fun c_2 => ?_) (fun c_2 => ?_)
    · exact J_1 _ _ _ _ (by simp only [if_pos c_1, if_neg c_2]) hH (lv_sub hl [0, 1, 2] rfl)
    · refine lv_aload_n X.1 X.2.1 dX6_starts_25 rfl (lv_at hl 1 rfl) ?_
      refine lv_iload_n X.1 X.2.1 dX6_starts_26 rfl (lv_at hl 0 rfl) ?_
      refine lv_iconst (v := nI (0)) X.1 X.2.1 dX6_starts_27 (by decide +kernel) ?_
      refine lv_iconst (v := nI (4)) X.1 X.2.1 dX6_starts_28 (by decide +kernel) ?_
      refine tb_cVv X hH hl.1 (c_X6_setPart l g z 0 0 (nI (4)) (by first | assumption | omega | decide)) ky_X6_setPart.1 ky_X6_setPart.2 wm_105 tb_oM rfl rfl (Nat.le_of_ble_eq_true rfl) ⟨by decide, by decide⟩ ⟨by decide, by decide⟩ dX6_starts_29 (fun H locs hH => ?_)
      exact J_1 _ _ _ _ (by simp only [if_pos c_1, if_pos c_2]) hH (lv_sub hl [0, 1, 2] rfl)
abbrev sp_X6_isOnTrial (z : tb_M)  : Prop := ¬ ((tb_rnM z) = 2) ∧ ((((z 158 ((11 + (46 * (tb_rnM z))) + 0))) = (nI (2))))
set_option maxHeartbeats 1000000 in
set_option maxRecDepth 100000 in
theorem c_X6_isOnTrial (l : Launch) (g : tb_G) (z : tb_M) (hR : tb_okRn z) : tb_Mi (.boolean) l yX6_isOnTrial cX6_isOnTrial 1 2 g z [.ref (tb_ad g 157)] (tb_b (sp_X6_isOnTrial z )) (z) := by
  refine tb_goi (own := RX6) (by decide +kernel) rfl (Nat.le_of_ble_eq_true rfl) ?_
  intro p e s m below meth c ls X hr hlk hH hl
  have hl : lv_has ls 1 [(0, .ref (tb_ad g (157)))] := hl
  have hR2 := hR.2
  refine lv_aload_n X.1 X.2.1 dX6_isOnTrial_0 rfl (lv_at hl 0 rfl) ?_
  refine tb_get X hH tb_Mc.1 (tb_Mc.2 _ _) rfl inlX6 0 (by decide) wm_99 (v := .ref (tb_ad g (158))) rfl dX6_isOnTrial_1 ?_
  refine lv_iconst (v := nI (3)) X.1 X.2.1 dX6_isOnTrial_4 (by decide +kernel) ?_
  refine tb_ald X hH tb_i158 (3) rfl (by decide) (by first | decide | omega) dX6_isOnTrial_5 ?_
  refine tb_top (x2 := nI (tb_rnM z)) (hR.1) ?_
  refine lv_iconst (v := nI (2)) X.1 X.2.1 dX6_isOnTrial_6 (by decide +kernel) ?_
  have J_1 : ∀ (H : Heap) (locs : List Loc) (ls : Array Slot) (vq1 : Int32), vq1 = (tb_b (¬ ((tb_rnM z) = 2) ∧ ((((z 158 ((11 + (46 * (tb_rnM z))) + 0))) = (nI (2)))))) → tb_H g s.heap z H locs → lv_has ls 1 [(0, .ref (tb_ad g (157)))] → W p l e (tb_rm 2) s m ([.ref (tb_ad g 157)] : List Value).toArray below meth c H locs 0 0 (MQ below (va_Qi (fun r9 u9 => r9 = tb_b (sp_X6_isOnTrial z ) ∧ u9 = z) (tb_B g) (tb_A g)) ([.ref (tb_ad g 157)] : List Value).toArray s 0 0 (tb_A g)) (F0 m 29 ls [.int vq1]) := by
    intro H locs ls vq1 evq1 hH hl
    subst evq1
    exact tb_rz X hr hlk hH ⟨(Iff.rfl).symm, rfl⟩ dX6_isOnTrial_29
  refine tb_neq (tgt := 28) X (by omega) (by omega) dX6_isOnTrial_7 (by decide) (fun c_1 => ?_) (fun c_1 => ?_)
  · refine lv_iconst (v := nI (0)) X.1 X.2.1 dX6_isOnTrial_28 (by decide +kernel) ?_
    exact J_1 _ _ _ _ (tb_b_f (fun h => h.1 c_1)).symm hH (lv_sub hl [0] rfl)
  · refine lv_aload_n X.1 X.2.1 dX6_isOnTrial_10 rfl (lv_at hl 0 rfl) ?_
    refine lv_aload_n X.1 X.2.1 dX6_isOnTrial_11 rfl (lv_at hl 0 rfl) ?_
    refine tb_get X hH tb_Mc.1 (tb_Mc.2 _ _) rfl inlX6 0 (by decide) wm_99 (v := .ref (tb_ad g (158))) rfl dX6_isOnTrial_12 ?_
    refine lv_iconst (v := nI (3)) X.1 X.2.1 dX6_isOnTrial_15 (by decide +kernel) ?_
    refine tb_ald X hH tb_i158 (3) rfl (by decide) (by first | decide | omega) dX6_isOnTrial_16 ?_
    refine tb_top (x2 := nI (tb_rnM z)) (hR.1) ?_
    refine lv_iconst (v := nI (2)) X.1 X.2.1 dX6_isOnTrial_17 (by decide +kernel) ?_
    refine tb_cVi X hH hl.1 (c_X6_isHow l g z (tb_rnM z) (nI (2)) (by first | assumption | omega | decide)) ky_X6_isHow.1 ky_X6_isHow.2 wm_256 tb_oM rfl rfl (Nat.le_of_ble_eq_true rfl) ⟨by decide, by decide⟩ ⟨by decide, by decide⟩ dX6_isOnTrial_18 (fun H locs hH => ?_)
    refine tb_jbeq (tgt := 28) X dX6_isOnTrial_21 (by decide) (fun c_2 => ?_) (fun c_2 => ?_)
    · refine lv_iconst (v := nI (0)) X.1 X.2.1 dX6_isOnTrial_28 (by decide +kernel) ?_
      exact J_1 _ _ _ _ (tb_b_f (fun h => c_2 h.2)).symm hH (lv_sub hl [0] rfl)
    · refine lv_iconst (v := nI (1)) X.1 X.2.1 dX6_isOnTrial_24 (by decide +kernel) ?_
      refine lv_goto (tgt := 29) X.1 X.2.1 dX6_isOnTrial_25 (by decide) ?_
      exact J_1 _ _ _ _ (tb_b_t ⟨c_1, c_2⟩).symm hH (lv_sub hl [0] rfl)
abbrev sp_X6_tells (z : tb_M) (w : Nat) : Prop := ¬ (((sr_X6_wordOf z (tb_rnM z) w)) ≤ 0) ∧ (((sr_X6_wordOf z (tb_rnM z) w)) = (z 158 4))
set_option maxHeartbeats 1000000 in
set_option maxRecDepth 100000 in
theorem c_X6_tells (l : Launch) (g : tb_G) (z : tb_M) (w : Nat) (hR : tb_okRn z) (hw : w < 32) : tb_Mi (.boolean) l yX6_tells cX6_tells 3 2 g z [.ref (tb_ad g 157), .int (nI w)] (tb_b (sp_X6_tells z w)) (z) := by
  refine tb_goi (own := RX6) (by decide +kernel) rfl (Nat.le_of_ble_eq_true rfl) ?_
  intro p e s m below meth c ls X hr hlk hH hl
  have hl : lv_has ls 3 [(0, .ref (tb_ad g (157))), (1, .int (nI (w)))] := hl
  refine lv_aload_n X.1 X.2.1 dX6_tells_0 rfl (lv_at hl 0 rfl) ?_
  refine lv_aload_n X.1 X.2.1 dX6_tells_1 rfl (lv_at hl 0 rfl) ?_
  refine tb_get X hH tb_Mc.1 (tb_Mc.2 _ _) rfl inlX6 0 (by decide) wm_99 (v := .ref (tb_ad g (158))) rfl dX6_tells_2 ?_
  refine lv_iconst (v := nI (3)) X.1 X.2.1 dX6_tells_5 (by decide +kernel) ?_
  refine tb_ald X hH tb_i158 (3) rfl (by decide) (by first | decide | omega) dX6_tells_6 ?_
  refine tb_top (x2 := nI (tb_rnM z)) (hR.1) ?_
  refine lv_iload_n X.1 X.2.1 dX6_tells_7 rfl (lv_at hl 1 rfl) ?_
  refine tb_cVi X hH hl.1 (c_X6_wordOf l g z (tb_rnM z) w hR.2 hw) ky_X6_wordOf.1 ky_X6_wordOf.2 wm_330 tb_oM rfl rfl (Nat.le_of_ble_eq_true rfl) ⟨by decide, by decide⟩ ⟨by decide, by decide⟩ dX6_tells_8 (fun H locs hH => ?_)
  refine lv_istore_n (lv' := [(2, .int ((sr_X6_wordOf z (tb_rnM z) w))), (0, .ref (tb_ad g (157))), (1, .int (nI (w)))]) X.1 X.2.1 dX6_tells_11 rfl hl (by decide) rfl (fun ls hl => ?_)
  refine lv_iload_n X.1 X.2.1 dX6_tells_12 rfl (lv_at hl 0 rfl) ?_
  have J_1 : ∀ (H : Heap) (locs : List Loc) (ls : Array Slot) (vq1 : Int32), vq1 = (tb_b (¬ (((sr_X6_wordOf z (tb_rnM z) w)) ≤ 0) ∧ (((sr_X6_wordOf z (tb_rnM z) w)) = (z 158 4)))) → tb_H g s.heap z H locs → lv_has ls 3 [(2, .int ((sr_X6_wordOf z (tb_rnM z) w))), (0, .ref (tb_ad g (157))), (1, .int (nI (w)))] → W p l e (tb_rm 2) s m ([.ref (tb_ad g 157), .int (nI w)] : List Value).toArray below meth c H locs 0 0 (MQ below (va_Qi (fun r9 u9 => r9 = tb_b (sp_X6_tells z w) ∧ u9 = z) (tb_B g) (tb_A g)) ([.ref (tb_ad g 157), .int (nI w)] : List Value).toArray s 0 0 (tb_A g)) (F0 m 31 ls [.int vq1]) := by
    intro H locs ls vq1 evq1 hH hl
    subst evq1
    exact tb_rz X hr hlk hH ⟨(Iff.rfl).symm, rfl⟩ dX6_tells_31
  refine lv_if_le (tgt := 30) X.1 X.2.1 dX6_tells_13 (by decide) (fun c_1 => ?_) (fun c_1 => ?_)
  · refine lv_iconst (v := nI (0)) X.1 X.2.1 dX6_tells_30 (by decide +kernel) ?_
    exact J_1 _ _ _ _ (tb_b_f (fun h => h.1 c_1)).symm hH (lv_sub hl [0, 1, 2] rfl)
  · refine lv_iload_n X.1 X.2.1 dX6_tells_16 rfl (lv_at hl 0 rfl) ?_
    refine lv_aload_n X.1 X.2.1 dX6_tells_17 rfl (lv_at hl 1 rfl) ?_
    refine tb_get X hH tb_Mc.1 (tb_Mc.2 _ _) rfl inlX6 0 (by decide) wm_99 (v := .ref (tb_ad g (158))) rfl dX6_tells_18 ?_
    refine lv_iconst (v := nI (4)) X.1 X.2.1 dX6_tells_21 (by decide +kernel) ?_
    refine tb_ald X hH tb_i158 (4) rfl (by decide) (by first | decide | omega) dX6_tells_22 ?_
    refine lv_icmp_ne (tgt := 30) X.1 X.2.1 dX6_tells_23 (by decide) (fun c_2 => ?_) (fun c_2 => ?_)
    · refine lv_iconst (v := nI (0)) X.1 X.2.1 dX6_tells_30 (by decide +kernel) ?_
      exact J_1 _ _ _ _ (tb_b_f (fun h => c_2 h.2)).symm hH (lv_sub hl [0, 1, 2] rfl)
    · refine lv_iconst (v := nI (1)) X.1 X.2.1 dX6_tells_26 (by decide +kernel) ?_
      refine lv_goto (tgt := 31) X.1 X.2.1 dX6_tells_27 (by decide) ?_
      exact J_1 _ _ _ _ (tb_b_t ⟨c_1, c_2⟩).symm hH (lv_sub hl [0, 1, 2] rfl)
theorem tb_ot_lt {z : tb_M} (h : sp_X6_isOnTrial z) (hR : tb_okRn z) : tb_rnM z < 2 := by
  have := hR.2
  have := h.1
  omega
def tb_okTM (z : tb_M) : Prop := tb_okRn z ∧ ∀ r, r < 2 → tb_okM z r
def sz_X6_tick_m1 (z : tb_M)  : tb_M := if 0 < ((tb_up (tb_up z 158 9 ((z 158 9) + (nI (1)))) 158 4 (((tb_up z 158 9 ((z 158 9) + (nI (1)))) 158 4) + (nI (1)))) 158 5) then (tb_up (tb_up (tb_up z 158 9 ((z 158 9) + (nI (1)))) 158 4 (((tb_up z 158 9 ((z 158 9) + (nI (1)))) 158 4) + (nI (1)))) 158 5 (((tb_up (tb_up z 158 9 ((z 158 9) + (nI (1)))) 158 4 (((tb_up z 158 9 ((z 158 9) + (nI (1)))) 158 4) + (nI (1)))) 158 5) + (nI (1)))) else (if (sp_X6_tells (tb_up (tb_up z 158 9 ((z 158 9) + (nI (1)))) 158 4 (((tb_up z 158 9 ((z 158 9) + (nI (1)))) 158 4) + (nI (1)))) 0) then (tb_up (tb_up (tb_up z 158 9 ((z 158 9) + (nI (1)))) 158 4 (((tb_up z 158 9 ((z 158 9) + (nI (1)))) 158 4) + (nI (1)))) 158 5 (((tb_up (tb_up z 158 9 ((z 158 9) + (nI (1)))) 158 4 (((tb_up z 158 9 ((z 158 9) + (nI (1)))) 158 4) + (nI (1)))) 158 5) + (nI (1)))) else (tb_up (tb_up z 158 9 ((z 158 9) + (nI (1)))) 158 4 (((tb_up z 158 9 ((z 158 9) + (nI (1)))) 158 4) + (nI (1)))))
def sz_X6_tick_m2 (z : tb_M)  : tb_M := if ((sz_X6_tick_m1 z) 158 5) = 0 then (if (sp_X6_tells (sz_X6_tick_m1 z) 1) then (if (sp_X6_isOnTrial (sz_X6_tick_m1 z) ) then (tb_up (tb_up (sz_X6_tick_m1 z) 158 ((11 + (46 * (tb_rnM (sz_X6_tick_m1 z)))) + 0) (nI (3))) 158 6 (if (((tb_up (sz_X6_tick_m1 z) 158 ((11 + (46 * (tb_rnM (sz_X6_tick_m1 z)))) + 0) (nI (3))) 158 ((11 + (46 * (tb_rnM (sz_X6_tick_m1 z)))) + 1))) ≤ ((tb_up (sz_X6_tick_m1 z) 158 ((11 + (46 * (tb_rnM (sz_X6_tick_m1 z)))) + 0) (nI (3))) 158 6) then ((tb_up (sz_X6_tick_m1 z) 158 ((11 + (46 * (tb_rnM (sz_X6_tick_m1 z)))) + 0) (nI (3))) 158 6) else (((tb_up (sz_X6_tick_m1 z) 158 ((11 + (46 * (tb_rnM (sz_X6_tick_m1 z)))) + 0) (nI (3))) 158 ((11 + (46 * (tb_rnM (sz_X6_tick_m1 z)))) + 1))))) else (sz_X6_tick_m1 z)) else (sz_X6_tick_m1 z)) else (sz_X6_tick_m1 z)
def sz_X6_tick_m3 (z : tb_M)  : tb_M := if (((sz_X6_tick_m2 z) 158 1) ≤ ((sz_X6_tick_m2 z) 158 5)) ∨ (((sp_X6_isOnTrial (sz_X6_tick_m2 z) )) ∧ (¬ (((sz_X6_tick_m2 z) 158 4) < ((nI (10)) * ((sz_X6_tick_m2 z) 158 1))))) then (sz_X6_remember (sz_X6_starts_m9 (sz_X6_tick_m2 z) (nI (1))) (nI (1))) else (sz_X6_tick_m2 z)
theorem tb_tk1_e (z : tb_M) {j : Nat} (h4 : j ≠ 4) (h5 : j ≠ 5) (h9 : j ≠ 9) : sz_X6_tick_m1 z 158 j = z 158 j := by
  unfold sz_X6_tick_m1
  repeat' split
  all_goals simp [tb_up, h4, h5, h9]
theorem tb_tk1_R (z : tb_M) (hR : tb_okRn z) : tb_okRn (sz_X6_tick_m1 z) := (tb_okRn_c hR (tb_tk1_e z (by decide) (by decide) (by decide))).1
theorem tb_tk2_e (z : tb_M) {j : Nat} (h4 : j ≠ 4) (h5 : j ≠ 5) (h9 : j ≠ 9) (h6 : j ≠ 6) (h0 : ∀ r, j ≠ (11 + (46 * r)) + 0) : sz_X6_tick_m2 z 158 j = z 158 j := by
  unfold sz_X6_tick_m2
  repeat' split
  all_goals first | exact tb_tk1_e z h4 h5 h9 | (rw [tb_up_j _ _ _ h6, tb_up_j _ _ _ (h0 _)]; exact tb_tk1_e z h4 h5 h9)
theorem tb_tk2_R (z : tb_M) (hR : tb_okRn z) : tb_okRn (sz_X6_tick_m2 z) := (tb_okRn_c hR (tb_tk2_e z (by decide) (by decide) (by decide) (by decide) (fun r => by omega))).1
theorem tb_tk2_L (z : tb_M) (hT : tb_okTM z) : ∀ r, r < 2 → tb_okM (sz_X6_tick_m2 z) r := fun r hr => tb_okM_c (hT.2 r hr) (tb_tk2_e z (by omega) (by omega) (by omega) (by omega) (fun r => by omega))
abbrev sp_X6_tick (z : tb_M)  : Prop := (((sz_X6_tick_m2 z) 158 1) ≤ ((sz_X6_tick_m2 z) 158 5)) ∨ (((sp_X6_isOnTrial (sz_X6_tick_m2 z) )) ∧ (¬ (((sz_X6_tick_m2 z) 158 4) < ((nI (10)) * ((sz_X6_tick_m2 z) 158 1)))))
set_option maxHeartbeats 1000000 in
set_option maxRecDepth 100000 in
theorem c_X6_tick (l : Launch) (g : tb_G) (z : tb_M) (hT : tb_okTM z) : tb_Mi (.boolean) l yX6_tick cX6_tick 2 6 g z [.ref (tb_ad g 157)] (tb_b (sp_X6_tick z )) (sz_X6_tick_m3 z) := by
  refine tb_goi (own := RX6) (by decide +kernel) rfl (Nat.le_of_ble_eq_true rfl) ?_
  intro p e s m below meth c ls X hr hlk hH hl
  have hl : lv_has ls 2 [(0, .ref (tb_ad g (157)))] := hl
  refine lv_aload_n X.1 X.2.1 dX6_tick_0 rfl (lv_at hl 0 rfl) ?_
  refine tb_get X hH tb_Mc.1 (tb_Mc.2 _ _) rfl inlX6 0 (by decide) wm_99 (v := .ref (tb_ad g (158))) rfl dX6_tick_1 ?_
  refine lv_bipush (v := nI (9)) X.1 X.2.1 dX6_tick_4 (by decide +kernel) ?_
  refine lv_dup2_11 X.1 X.2.1 dX6_tick_6 rfl rfl ?_
  refine tb_ald X hH tb_i158 (9) rfl (by decide) (by first | decide | omega) dX6_tick_7 ?_
  refine lv_iconst (v := nI (1)) X.1 X.2.1 dX6_tick_8 (by decide +kernel) ?_
  refine lv_iadd X.1 X.2.1 dX6_tick_9 ?_
  refine tb_ast X hH tb_i158 (9) rfl (by decide) (by first | decide | omega) dX6_tick_10 (fun H locs hH => ?_)
  refine lv_aload_n X.1 X.2.1 dX6_tick_11 rfl (lv_at hl 0 rfl) ?_
  refine tb_get X hH tb_Mc.1 (tb_Mc.2 _ _) rfl inlX6 0 (by decide) wm_99 (v := .ref (tb_ad g (158))) rfl dX6_tick_12 ?_
  refine lv_iconst (v := nI (4)) X.1 X.2.1 dX6_tick_15 (by decide +kernel) ?_
  refine lv_dup2_11 X.1 X.2.1 dX6_tick_16 rfl rfl ?_
  refine tb_ald X hH tb_i158 (4) rfl (by decide) (by first | decide | omega) dX6_tick_17 ?_
  refine lv_iconst (v := nI (1)) X.1 X.2.1 dX6_tick_18 (by decide +kernel) ?_
  refine lv_iadd X.1 X.2.1 dX6_tick_19 ?_
  refine tb_ast X hH tb_i158 (4) rfl (by decide) (by first | decide | omega) dX6_tick_20 (fun H locs hH => ?_)
  refine lv_aload_n X.1 X.2.1 dX6_tick_21 rfl (lv_at hl 0 rfl) ?_
  refine tb_get X hH tb_Mc.1 (tb_Mc.2 _ _) rfl inlX6 0 (by decide) wm_99 (v := .ref (tb_ad g (158))) rfl dX6_tick_22 ?_
  refine lv_iconst (v := nI (5)) X.1 X.2.1 dX6_tick_25 (by decide +kernel) ?_
  refine tb_ald X hH tb_i158 (5) rfl (by decide) (by first | decide | omega) dX6_tick_26 ?_
  have J_1 : ∀ (H : Heap) (locs : List Loc) (ls : Array Slot) (zq : tb_M), zq = (if 0 < ((tb_up (tb_up z 158 9 ((z 158 9) + (nI (1)))) 158 4 (((tb_up z 158 9 ((z 158 9) + (nI (1)))) 158 4) + (nI (1)))) 158 5) then (tb_up (tb_up (tb_up z 158 9 ((z 158 9) + (nI (1)))) 158 4 (((tb_up z 158 9 ((z 158 9) + (nI (1)))) 158 4) + (nI (1)))) 158 5 (((tb_up (tb_up z 158 9 ((z 158 9) + (nI (1)))) 158 4 (((tb_up z 158 9 ((z 158 9) + (nI (1)))) 158 4) + (nI (1)))) 158 5) + (nI (1)))) else (if (sp_X6_tells (tb_up (tb_up z 158 9 ((z 158 9) + (nI (1)))) 158 4 (((tb_up z 158 9 ((z 158 9) + (nI (1)))) 158 4) + (nI (1)))) 0) then (tb_up (tb_up (tb_up z 158 9 ((z 158 9) + (nI (1)))) 158 4 (((tb_up z 158 9 ((z 158 9) + (nI (1)))) 158 4) + (nI (1)))) 158 5 (((tb_up (tb_up z 158 9 ((z 158 9) + (nI (1)))) 158 4 (((tb_up z 158 9 ((z 158 9) + (nI (1)))) 158 4) + (nI (1)))) 158 5) + (nI (1)))) else (tb_up (tb_up z 158 9 ((z 158 9) + (nI (1)))) 158 4 (((tb_up z 158 9 ((z 158 9) + (nI (1)))) 158 4) + (nI (1)))))) → tb_H g s.heap zq H locs → lv_has ls 2 [(0, .ref (tb_ad g (157)))] → W p l e (tb_rm 6) s m ([.ref (tb_ad g 157)] : List Value).toArray below meth c H locs 0 0 (MQ below (va_Qi (fun r9 u9 => r9 = tb_b (sp_X6_tick z ) ∧ u9 = sz_X6_tick_m3 z) (tb_B g) (tb_A g)) ([.ref (tb_ad g 157)] : List Value).toArray s 0 0 (tb_A g)) (F0 m 48 ls []) := by
    intro H locs ls zq  ezq  hH hl
    subst ezq
    have hH : tb_H g s.heap (sz_X6_tick_m1 z) H locs := hH
    refine lv_aload_n X.1 X.2.1 dX6_tick_48 rfl (lv_at hl 0 rfl) ?_
    refine tb_get X hH tb_Mc.1 (tb_Mc.2 _ _) rfl inlX6 0 (by decide) wm_99 (v := .ref (tb_ad g (158))) rfl dX6_tick_49 ?_
    refine lv_iconst (v := nI (5)) X.1 X.2.1 dX6_tick_52 (by decide +kernel) ?_
    refine tb_ald X hH tb_i158 (5) rfl (by decide) (by first | decide | omega) dX6_tick_53 ?_
    have J_2 : ∀ (H : Heap) (locs : List Loc) (ls : Array Slot) (zq : tb_M), zq = (if ((sz_X6_tick_m1 z) 158 5) = 0 then (if (sp_X6_tells (sz_X6_tick_m1 z) 1) then (if (sp_X6_isOnTrial (sz_X6_tick_m1 z) ) then (tb_up (tb_up (sz_X6_tick_m1 z) 158 ((11 + (46 * (tb_rnM (sz_X6_tick_m1 z)))) + 0) (nI (3))) 158 6 (if (((tb_up (sz_X6_tick_m1 z) 158 ((11 + (46 * (tb_rnM (sz_X6_tick_m1 z)))) + 0) (nI (3))) 158 ((11 + (46 * (tb_rnM (sz_X6_tick_m1 z)))) + 1))) ≤ ((tb_up (sz_X6_tick_m1 z) 158 ((11 + (46 * (tb_rnM (sz_X6_tick_m1 z)))) + 0) (nI (3))) 158 6) then ((tb_up (sz_X6_tick_m1 z) 158 ((11 + (46 * (tb_rnM (sz_X6_tick_m1 z)))) + 0) (nI (3))) 158 6) else (((tb_up (sz_X6_tick_m1 z) 158 ((11 + (46 * (tb_rnM (sz_X6_tick_m1 z)))) + 0) (nI (3))) 158 ((11 + (46 * (tb_rnM (sz_X6_tick_m1 z)))) + 1))))) else (sz_X6_tick_m1 z)) else (sz_X6_tick_m1 z)) else (sz_X6_tick_m1 z)) → tb_H g s.heap zq H locs → lv_has ls 2 [(0, .ref (tb_ad g (157)))] → W p l e (tb_rm 6) s m ([.ref (tb_ad g 157)] : List Value).toArray below meth c H locs 0 0 (MQ below (va_Qi (fun r9 u9 => r9 = tb_b (sp_X6_tick z ) ∧ u9 = sz_X6_tick_m3 z) (tb_B g) (tb_A g)) ([.ref (tb_ad g 157)] : List Value).toArray s 0 0 (tb_A g)) (F0 m 125 ls []) := by
      intro H locs ls zq  ezq  hH hl
      subst ezq
      have hH : tb_H g s.heap (sz_X6_tick_m2 z) H locs := hH
      refine lv_aload_n X.1 X.2.1 dX6_tick_125 rfl (lv_at hl 0 rfl) ?_
      refine tb_get X hH tb_Mc.1 (tb_Mc.2 _ _) rfl inlX6 0 (by decide) wm_99 (v := .ref (tb_ad g (158))) rfl dX6_tick_126 ?_
      refine lv_iconst (v := nI (5)) X.1 X.2.1 dX6_tick_129 (by decide +kernel) ?_
      refine tb_ald X hH tb_i158 (5) rfl (by decide) (by first | decide | omega) dX6_tick_130 ?_
      refine lv_aload_n X.1 X.2.1 dX6_tick_131 rfl (lv_at hl 0 rfl) ?_
      refine tb_get X hH tb_Mc.1 (tb_Mc.2 _ _) rfl inlX6 0 (by decide) wm_99 (v := .ref (tb_ad g (158))) rfl dX6_tick_132 ?_
      refine lv_iconst (v := nI (1)) X.1 X.2.1 dX6_tick_135 (by decide +kernel) ?_
      refine tb_ald X hH tb_i158 (1) rfl (by decide) (by first | decide | omega) dX6_tick_136 ?_
      have J_3 : ∀ (H : Heap) (locs : List Loc) (ls : Array Slot) (vq1 : Int32), vq1 = (tb_b ((((sz_X6_tick_m2 z) 158 1) ≤ ((sz_X6_tick_m2 z) 158 5)) ∨ (((sp_X6_isOnTrial (sz_X6_tick_m2 z) )) ∧ (¬ (((sz_X6_tick_m2 z) 158 4) < ((nI (10)) * ((sz_X6_tick_m2 z) 158 1))))))) → tb_H g s.heap (sz_X6_tick_m2 z) H locs → lv_has ls 2 [(0, .ref (tb_ad g (157)))] → W p l e (tb_rm 6) s m ([.ref (tb_ad g 157)] : List Value).toArray below meth c H locs 0 0 (MQ below (va_Qi (fun r9 u9 => r9 = tb_b (sp_X6_tick z ) ∧ u9 = sz_X6_tick_m3 z) (tb_B g) (tb_A g)) ([.ref (tb_ad g 157)] : List Value).toArray s 0 0 (tb_A g)) (F0 m 170 ls [.int vq1]) := by
        intro H locs ls vq1 evq1 hH hl
        subst evq1
        refine lv_istore_n (lv' := [(1, .int (tb_b ((((sz_X6_tick_m2 z) 158 1) ≤ ((sz_X6_tick_m2 z) 158 5)) ∨ (((sp_X6_isOnTrial (sz_X6_tick_m2 z) )) ∧ (¬ (((sz_X6_tick_m2 z) 158 4) < ((nI (10)) * ((sz_X6_tick_m2 z) 158 1)))))))), (0, .ref (tb_ad g (157)))]) X.1 X.2.1 dX6_tick_170 rfl hl (by decide) rfl (fun ls hl => ?_)
        refine lv_iload_n X.1 X.2.1 dX6_tick_171 rfl (lv_at hl 0 rfl) ?_
        have J_4 : ∀ (H : Heap) (locs : List Loc) (ls : Array Slot) (zq : tb_M), zq = (if (((sz_X6_tick_m2 z) 158 1) ≤ ((sz_X6_tick_m2 z) 158 5)) ∨ (((sp_X6_isOnTrial (sz_X6_tick_m2 z) )) ∧ (¬ (((sz_X6_tick_m2 z) 158 4) < ((nI (10)) * ((sz_X6_tick_m2 z) 158 1))))) then (sz_X6_remember (sz_X6_starts_m9 (sz_X6_tick_m2 z) (nI (1))) (nI (1))) else (sz_X6_tick_m2 z)) → tb_H g s.heap zq H locs → lv_has ls 2 [(1, .int (tb_b ((((sz_X6_tick_m2 z) 158 1) ≤ ((sz_X6_tick_m2 z) 158 5)) ∨ (((sp_X6_isOnTrial (sz_X6_tick_m2 z) )) ∧ (¬ (((sz_X6_tick_m2 z) 158 4) < ((nI (10)) * ((sz_X6_tick_m2 z) 158 1)))))))), (0, .ref (tb_ad g (157)))] → W p l e (tb_rm 6) s m ([.ref (tb_ad g 157)] : List Value).toArray below meth c H locs 0 0 (MQ below (va_Qi (fun r9 u9 => r9 = tb_b (sp_X6_tick z ) ∧ u9 = sz_X6_tick_m3 z) (tb_B g) (tb_A g)) ([.ref (tb_ad g 157)] : List Value).toArray s 0 0 (tb_A g)) (F0 m 180 ls []) := by
          intro H locs ls zq  ezq  hH hl
          subst ezq
          have hH : tb_H g s.heap (sz_X6_tick_m3 z) H locs := hH
          refine lv_iload_n X.1 X.2.1 dX6_tick_180 rfl (lv_at hl 0 rfl) ?_
          exact tb_rz X hr hlk hH ⟨(Iff.rfl).symm, rfl⟩ dX6_tick_181
        refine tb_jbeq (tgt := 180) X dX6_tick_172 (by decide) (fun c_10 => ?_) (fun c_10 => ?_)
        · exact J_4 _ _ _ _ (by simp only [if_neg c_10]) hH (lv_sub hl [0, 1] rfl)
        · refine lv_aload_n X.1 X.2.1 dX6_tick_175 rfl (lv_at hl 1 rfl) ?_
          refine lv_iconst (v := nI (1)) X.1 X.2.1 dX6_tick_176 (by decide +kernel) ?_
          refine tb_cVv X hH hl.1 (c_X6_starts l g (sz_X6_tick_m2 z) (nI (1)) (tb_tk2_L z hT)) ky_X6_starts.1 ky_X6_starts.2 wm_401 tb_oM rfl rfl (Nat.le_of_ble_eq_true rfl) ⟨by decide, by decide⟩ ⟨by decide, by decide⟩ dX6_tick_177 (fun H locs hH => ?_)
          exact J_4 _ _ _ _ (by simp only [if_pos c_10]) hH (lv_sub hl [0, 1] rfl)
      refine lv_icmp_ge (tgt := 165) X.1 X.2.1 dX6_tick_137 (by decide) (fun c_7 => ?_) (fun c_7 => ?_)
      · refine lv_iconst (v := nI (1)) X.1 X.2.1 dX6_tick_165 (by decide +kernel) ?_
        refine lv_goto (tgt := 170) X.1 X.2.1 dX6_tick_166 (by decide) ?_
        exact J_3 _ _ _ _ (tb_b_t (Or.inl c_7)).symm hH (lv_sub hl [0] rfl)
      · refine lv_aload_n X.1 X.2.1 dX6_tick_140 rfl (lv_at hl 0 rfl) ?_
        refine tb_cVi X hH hl.1 (c_X6_isOnTrial l g (sz_X6_tick_m2 z) (tb_tk2_R z hT.1)) ky_X6_isOnTrial.1 ky_X6_isOnTrial.2 wm_451 tb_oM rfl rfl (Nat.le_of_ble_eq_true rfl) ⟨by decide, by decide⟩ ⟨by decide, by decide⟩ dX6_tick_141 (fun H locs hH => ?_)
        refine tb_jbeq (tgt := 169) X dX6_tick_144 (by decide) (fun c_8 => ?_) (fun c_8 => ?_)
        · refine lv_iconst (v := nI (0)) X.1 X.2.1 dX6_tick_169 (by decide +kernel) ?_
          exact J_3 _ _ _ _ (tb_b_f (fun h => h.elim c_7 (fun h => c_8 h.1))).symm hH (lv_sub hl [0] rfl)
        · refine lv_aload_n X.1 X.2.1 dX6_tick_147 rfl (lv_at hl 0 rfl) ?_
          refine tb_get X hH tb_Mc.1 (tb_Mc.2 _ _) rfl inlX6 0 (by decide) wm_99 (v := .ref (tb_ad g (158))) rfl dX6_tick_148 ?_
          refine lv_iconst (v := nI (4)) X.1 X.2.1 dX6_tick_151 (by decide +kernel) ?_
          refine tb_ald X hH tb_i158 (4) rfl (by decide) (by first | decide | omega) dX6_tick_152 ?_
          refine lv_bipush (v := nI (10)) X.1 X.2.1 dX6_tick_153 (by decide +kernel) ?_
          refine lv_aload_n X.1 X.2.1 dX6_tick_155 rfl (lv_at hl 0 rfl) ?_
          refine tb_get X hH tb_Mc.1 (tb_Mc.2 _ _) rfl inlX6 0 (by decide) wm_99 (v := .ref (tb_ad g (158))) rfl dX6_tick_156 ?_
          refine lv_iconst (v := nI (1)) X.1 X.2.1 dX6_tick_159 (by decide +kernel) ?_
          refine tb_ald X hH tb_i158 (1) rfl (by decide) (by first | decide | omega) dX6_tick_160 ?_
          refine lv_imul X.1 X.2.1 dX6_tick_161 ?_
          refine lv_icmp_lt (tgt := 169) X.1 X.2.1 dX6_tick_162 (by decide) (fun c_9 => ?_) (fun c_9 => ?_)
          · refine lv_iconst (v := nI (0)) X.1 X.2.1 dX6_tick_169 (by decide +kernel) ?_
            exact J_3 _ _ _ _ (tb_b_f (fun h => h.elim c_7 (fun h => (fun h => h c_9) h.2))).symm hH (lv_sub hl [0] rfl)
          · refine lv_iconst (v := nI (1)) X.1 X.2.1 dX6_tick_165 (by decide +kernel) ?_
            refine lv_goto (tgt := 170) X.1 X.2.1 dX6_tick_166 (by decide) ?_
            exact J_3 _ _ _ _ (tb_b_t (Or.inr ⟨c_8, c_9⟩)).symm hH (lv_sub hl [0] rfl)
    refine lv_if_ne (tgt := 125) X.1 X.2.1 dX6_tick_54 (by decide) (fun c_3 => ?_) (fun c_3 => ?_)
    · exact J_2 _ _ _ _ (by simp only [if_neg c_3]) hH (lv_sub hl [0] rfl)
    · refine lv_aload_n X.1 X.2.1 dX6_tick_57 rfl (lv_at hl 0 rfl) ?_
      refine lv_iconst (v := nI (1)) X.1 X.2.1 dX6_tick_58 (by decide +kernel) ?_
      refine tb_cVi X hH hl.1 (c_X6_tells l g (sz_X6_tick_m1 z) 1 (tb_tk1_R z hT.1) (by decide)) ky_X6_tells.1 ky_X6_tells.2 wm_447 tb_oM rfl rfl (Nat.le_of_ble_eq_true rfl) ⟨by decide, by decide⟩ ⟨by decide, by decide⟩ dX6_tick_59 (fun H locs hH => ?_)
      refine tb_jbeq (tgt := 125) X dX6_tick_62 (by decide) (fun c_4 => ?_) (fun c_4 => ?_)
      · exact J_2 _ _ _ _ (by simp only [if_pos c_3, if_neg c_4]) hH (lv_sub hl [0] rfl)
      · refine lv_aload_n X.1 X.2.1 dX6_tick_65 rfl (lv_at hl 0 rfl) ?_
        refine tb_cVi X hH hl.1 (c_X6_isOnTrial l g (sz_X6_tick_m1 z) (tb_tk1_R z hT.1)) ky_X6_isOnTrial.1 ky_X6_isOnTrial.2 wm_451 tb_oM rfl rfl (Nat.le_of_ble_eq_true rfl) ⟨by decide, by decide⟩ ⟨by decide, by decide⟩ dX6_tick_66 (fun H locs hH => ?_)
        refine tb_jbeq (tgt := 125) X dX6_tick_69 (by decide) (fun c_5 => ?_) (fun c_5 => ?_)
        · exact J_2 _ _ _ _ (by simp only [if_pos c_3, if_pos c_4, if_neg c_5]) hH (lv_sub hl [0] rfl)
        · refine lv_aload_n X.1 X.2.1 dX6_tick_72 rfl (lv_at hl 0 rfl) ?_
          refine tb_get X hH tb_Mc.1 (tb_Mc.2 _ _) rfl inlX6 0 (by decide) wm_99 (v := .ref (tb_ad g (158))) rfl dX6_tick_73 ?_
          refine lv_iconst (v := nI (3)) X.1 X.2.1 dX6_tick_76 (by decide +kernel) ?_
          refine tb_ald X hH tb_i158 (3) rfl (by decide) (by first | decide | omega) dX6_tick_77 ?_
          refine tb_top (x2 := nI (tb_rnM (sz_X6_tick_m1 z))) ((tb_tk1_R z hT.1).1) ?_
          refine lv_istore_n (lv' := [(1, .int (nI (tb_rnM (sz_X6_tick_m1 z)))), (0, .ref (tb_ad g (157)))]) X.1 X.2.1 dX6_tick_78 rfl hl (by decide) rfl (fun ls hl => ?_)
          refine lv_aload_n X.1 X.2.1 dX6_tick_79 rfl (lv_at hl 1 rfl) ?_
          refine lv_iload_n X.1 X.2.1 dX6_tick_80 rfl (lv_at hl 0 rfl) ?_
          refine lv_iconst (v := nI (0)) X.1 X.2.1 dX6_tick_81 (by decide +kernel) ?_
          refine lv_iconst (v := nI (3)) X.1 X.2.1 dX6_tick_82 (by decide +kernel) ?_
          refine tb_cVv X hH hl.1 (c_X6_setPart l g (sz_X6_tick_m1 z) (tb_rnM (sz_X6_tick_m1 z)) 0 (nI (3)) (by have h9 := tb_ot_lt (z := sz_X6_tick_m1 z) c_5 (tb_tk1_R z hT.1); omega)) ky_X6_setPart.1 ky_X6_setPart.2 wm_105 tb_oM rfl rfl (Nat.le_of_ble_eq_true rfl) ⟨by decide, by decide⟩ ⟨by decide, by decide⟩ dX6_tick_83 (fun H locs hH => ?_)
          refine lv_aload_n X.1 X.2.1 dX6_tick_86 rfl (lv_at hl 1 rfl) ?_
          refine tb_get X hH tb_Mc.1 (tb_Mc.2 _ _) rfl inlX6 0 (by decide) wm_99 (v := .ref (tb_ad g (158))) rfl dX6_tick_87 ?_
          refine lv_bipush (v := nI (6)) X.1 X.2.1 dX6_tick_90 (by decide +kernel) ?_
          refine lv_aload_n X.1 X.2.1 dX6_tick_92 rfl (lv_at hl 1 rfl) ?_
          refine lv_iload_n X.1 X.2.1 dX6_tick_93 rfl (lv_at hl 0 rfl) ?_
          refine lv_iconst (v := nI (1)) X.1 X.2.1 dX6_tick_94 (by decide +kernel) ?_
          refine tb_cVi X hH hl.1 (c_X6_part l g (tb_up (sz_X6_tick_m1 z) 158 ((11 + (46 * (tb_rnM (sz_X6_tick_m1 z)))) + 0) (nI (3))) (tb_rnM (sz_X6_tick_m1 z)) 1 (by have h9 := tb_ot_lt (z := sz_X6_tick_m1 z) c_5 (tb_tk1_R z hT.1); omega)) ky_X6_part.1 ky_X6_part.2 wm_229 tb_oM rfl rfl (Nat.le_of_ble_eq_true rfl) ⟨by decide, by decide⟩ ⟨by decide, by decide⟩ dX6_tick_95 (fun H locs hH => ?_)
          refine lv_aload_n X.1 X.2.1 dX6_tick_98 rfl (lv_at hl 1 rfl) ?_
          refine tb_get X hH tb_Mc.1 (tb_Mc.2 _ _) rfl inlX6 0 (by decide) wm_99 (v := .ref (tb_ad g (158))) rfl dX6_tick_99 ?_
          refine lv_bipush (v := nI (6)) X.1 X.2.1 dX6_tick_102 (by decide +kernel) ?_
          refine tb_ald X hH tb_i158 (6) rfl (by decide) (by first | decide | omega) dX6_tick_104 ?_
          have J_5 : ∀ (H : Heap) (locs : List Loc) (ls : Array Slot) (vq1 : Int32), vq1 = (if (((tb_up (sz_X6_tick_m1 z) 158 ((11 + (46 * (tb_rnM (sz_X6_tick_m1 z)))) + 0) (nI (3))) 158 ((11 + (46 * (tb_rnM (sz_X6_tick_m1 z)))) + 1))) ≤ ((tb_up (sz_X6_tick_m1 z) 158 ((11 + (46 * (tb_rnM (sz_X6_tick_m1 z)))) + 0) (nI (3))) 158 6) then ((tb_up (sz_X6_tick_m1 z) 158 ((11 + (46 * (tb_rnM (sz_X6_tick_m1 z)))) + 0) (nI (3))) 158 6) else (((tb_up (sz_X6_tick_m1 z) 158 ((11 + (46 * (tb_rnM (sz_X6_tick_m1 z)))) + 0) (nI (3))) 158 ((11 + (46 * (tb_rnM (sz_X6_tick_m1 z)))) + 1)))) → tb_H g s.heap (tb_up (sz_X6_tick_m1 z) 158 ((11 + (46 * (tb_rnM (sz_X6_tick_m1 z)))) + 0) (nI (3))) H locs → lv_has ls 2 [(1, .int (nI (tb_rnM (sz_X6_tick_m1 z)))), (0, .ref (tb_ad g (157)))] → W p l e (tb_rm 6) s m ([.ref (tb_ad g 157)] : List Value).toArray below meth c H locs 0 0 (MQ below (va_Qi (fun r9 u9 => r9 = tb_b (sp_X6_tick z ) ∧ u9 = sz_X6_tick_m3 z) (tb_B g) (tb_A g)) ([.ref (tb_ad g 157)] : List Value).toArray s 0 0 (tb_A g)) (F0 m 124 ls [.int vq1, .int (nI (6)), .ref (tb_ad g (158))]) := by
            intro H locs ls vq1 evq1 hH hl
            subst evq1
            refine tb_ast X hH tb_i158 (6) rfl (by decide) (by first | decide | omega) dX6_tick_124 (fun H locs hH => ?_)
            exact J_2 _ _ _ _ (by simp only [if_pos c_3, if_pos c_4, if_pos c_5]) hH (lv_sub hl [1] rfl)
          refine lv_icmp_le (tgt := 117) X.1 X.2.1 dX6_tick_105 (by decide) (fun c_6 => ?_) (fun c_6 => ?_)
          · refine lv_aload_n X.1 X.2.1 dX6_tick_117 rfl (lv_at hl 1 rfl) ?_
            refine tb_get X hH tb_Mc.1 (tb_Mc.2 _ _) rfl inlX6 0 (by decide) wm_99 (v := .ref (tb_ad g (158))) rfl dX6_tick_118 ?_
            refine lv_bipush (v := nI (6)) X.1 X.2.1 dX6_tick_121 (by decide +kernel) ?_
            refine tb_ald X hH tb_i158 (6) rfl (by decide) (by first | decide | omega) dX6_tick_123 ?_
            exact J_5 _ _ _ _ (by simp only [if_pos c_6]) hH (lv_sub hl [0, 1] rfl)
          · refine lv_aload_n X.1 X.2.1 dX6_tick_108 rfl (lv_at hl 1 rfl) ?_
            refine lv_iload_n X.1 X.2.1 dX6_tick_109 rfl (lv_at hl 0 rfl) ?_
            refine lv_iconst (v := nI (1)) X.1 X.2.1 dX6_tick_110 (by decide +kernel) ?_
            refine tb_cVi X hH hl.1 (c_X6_part l g (tb_up (sz_X6_tick_m1 z) 158 ((11 + (46 * (tb_rnM (sz_X6_tick_m1 z)))) + 0) (nI (3))) (tb_rnM (sz_X6_tick_m1 z)) 1 (by have h9 := tb_ot_lt (z := sz_X6_tick_m1 z) c_5 (tb_tk1_R z hT.1); omega)) ky_X6_part.1 ky_X6_part.2 wm_229 tb_oM rfl rfl (Nat.le_of_ble_eq_true rfl) ⟨by decide, by decide⟩ ⟨by decide, by decide⟩ dX6_tick_111 (fun H locs hH => ?_)
            refine lv_goto (tgt := 124) X.1 X.2.1 dX6_tick_114 (by decide) ?_
            exact J_5 _ _ _ _ (by simp only [if_neg c_6]) hH (lv_sub hl [0, 1] rfl)
  refine lv_if_gt (tgt := 38) X.1 X.2.1 dX6_tick_27 (by decide) (fun c_1 => ?_) (fun c_1 => ?_)
  · refine lv_aload_n X.1 X.2.1 dX6_tick_38 rfl (lv_at hl 0 rfl) ?_
    refine tb_get X hH tb_Mc.1 (tb_Mc.2 _ _) rfl inlX6 0 (by decide) wm_99 (v := .ref (tb_ad g (158))) rfl dX6_tick_39 ?_
    refine lv_iconst (v := nI (5)) X.1 X.2.1 dX6_tick_42 (by decide +kernel) ?_
    refine lv_dup2_11 X.1 X.2.1 dX6_tick_43 rfl rfl ?_
    refine tb_ald X hH tb_i158 (5) rfl (by decide) (by first | decide | omega) dX6_tick_44 ?_
    refine lv_iconst (v := nI (1)) X.1 X.2.1 dX6_tick_45 (by decide +kernel) ?_
    refine lv_iadd X.1 X.2.1 dX6_tick_46 ?_
    refine tb_ast X hH tb_i158 (5) rfl (by decide) (by first | decide | omega) dX6_tick_47 (fun H locs hH => ?_)
    exact J_1 _ _ _ _ (by simp only [if_pos c_1]) hH (lv_sub hl [0] rfl)
  · refine lv_aload_n X.1 X.2.1 dX6_tick_30 rfl (lv_at hl 0 rfl) ?_
    refine lv_iconst (v := nI (0)) X.1 X.2.1 dX6_tick_31 (by decide +kernel) ?_
    refine tb_cVi X hH hl.1 (c_X6_tells l g (tb_up (tb_up z 158 9 ((z 158 9) + (nI (1)))) 158 4 (((tb_up z 158 9 ((z 158 9) + (nI (1)))) 158 4) + (nI (1)))) 0 (tb_okRn_c hT.1 (by simp [tb_up])).1 (by decide)) ky_X6_tells.1 ky_X6_tells.2 wm_447 tb_oM rfl rfl (Nat.le_of_ble_eq_true rfl) ⟨by decide, by decide⟩ ⟨by decide, by decide⟩ dX6_tick_32 (fun H locs hH => ?_)
    refine tb_jbeq (tgt := 48) X dX6_tick_35 (by decide) (fun c_2 => ?_) (fun c_2 => ?_)
    · exact J_1 _ _ _ _ (by simp only [if_neg c_1, if_neg c_2]) hH (lv_sub hl [0] rfl)
    · refine lv_aload_n X.1 X.2.1 dX6_tick_38 rfl (lv_at hl 0 rfl) ?_
      refine tb_get X hH tb_Mc.1 (tb_Mc.2 _ _) rfl inlX6 0 (by decide) wm_99 (v := .ref (tb_ad g (158))) rfl dX6_tick_39 ?_
      refine lv_iconst (v := nI (5)) X.1 X.2.1 dX6_tick_42 (by decide +kernel) ?_
      refine lv_dup2_11 X.1 X.2.1 dX6_tick_43 rfl rfl ?_
      refine tb_ald X hH tb_i158 (5) rfl (by decide) (by first | decide | omega) dX6_tick_44 ?_
      refine lv_iconst (v := nI (1)) X.1 X.2.1 dX6_tick_45 (by decide +kernel) ?_
      refine lv_iadd X.1 X.2.1 dX6_tick_46 ?_
      refine tb_ast X hH tb_i158 (5) rfl (by decide) (by first | decide | omega) dX6_tick_47 (fun H locs hH => ?_)
      exact J_1 _ _ _ _ (by simp only [if_neg c_1, if_pos c_2]) hH (lv_sub hl [0] rfl)
def tb_mpZ (z : tb_M) : Nat → tb_M
  | 0 => z
  | i + 1 => sz_X6_tick_m3 (tb_mpZ z i)
def tb_mpN (z : tb_M) : Nat → Int32
  | 0 => nI 0
  | i + 1 => tb_mpN z i + tb_b (sp_X6_tick (tb_mpZ z i))
set_option maxHeartbeats 1000000 in
set_option maxRecDepth 100000 in
theorem c_X6_passes (l : Launch) (g : tb_G) (z : tb_M) (q : Nat) (hq : q < 1000) (hW : ∀ i, i < q → tb_okTM (tb_mpZ z i)) : tb_Mi (.int) l yX6_passes cX6_passes 4 7 g z [.ref (tb_ad g 157), .int (nI q)] (tb_mpN z q) (tb_mpZ z q) := by
  refine tb_goi (own := RX6) (by decide +kernel) rfl (Nat.le_of_ble_eq_true rfl) ?_
  intro p e s m below meth c ls X hr hlk hH hl
  have hl : lv_has ls 4 [(0, .ref (tb_ad g (157))), (1, .int (nI (q)))] := hl
  refine lv_iconst (v := nI (0)) X.1 X.2.1 dX6_passes_0 (by decide +kernel) ?_
  refine lv_istore_n (lv' := [(2, .int (nI (0))), (0, .ref (tb_ad g (157))), (1, .int (nI (q)))]) X.1 X.2.1 dX6_passes_1 rfl hl (by decide) rfl (fun ls hl => ?_)
  refine lv_iconst (v := nI (0)) X.1 X.2.1 dX6_passes_2 (by decide +kernel) ?_
  refine lv_istore_n (lv' := [(3, .int (nI (0))), (2, .int (nI (0))), (0, .ref (tb_ad g (157))), (1, .int (nI (q)))]) X.1 X.2.1 dX6_passes_3 rfl hl (by decide) rfl (fun ls hl => ?_)
  have L_4 : ∀ (k : Nat) (i : Nat), i + k = q → ∀ (H : Heap) (locs : List Loc) (ls : Array Slot), tb_H g s.heap (tb_mpZ z i) H locs → lv_has ls 4 [(0, .ref (tb_ad g (157))), (1, .int (nI (q))), (2, .int (tb_mpN z i)), (3, .int (nI (i)))] → W p l e (tb_rm 7) s m ([.ref (tb_ad g 157), .int (nI q)] : List Value).toArray below meth c H locs 0 0 (MQ below (va_Qi (fun r9 u9 => r9 = tb_mpN z q ∧ u9 = tb_mpZ z q) (tb_B g) (tb_A g)) ([.ref (tb_ad g 157), .int (nI q)] : List Value).toArray s 0 0 (tb_A g)) (F0 m 4 ls []) := by
    intro k
    induction k with
    | zero =>
      intro i hik H locs ls hH hl
      refine lv_iload_n X.1 X.2.1 dX6_passes_4 rfl (lv_at hl 3 rfl) ?_
      refine lv_iload_n X.1 X.2.1 dX6_passes_5 rfl (lv_at hl 1 rfl) ?_
      refine tb_nge (tgt := 30) X (by omega) (by omega) dX6_passes_6 (by decide) (fun _ => ?_) (fun c => ((by omega) : False).elim)
      refine lv_iload_n X.1 X.2.1 dX6_passes_30 rfl (lv_at hl 2 rfl) ?_
      exact tb_ri X hr hlk hH ⟨(by rw [show i = q by omega]), (by rw [show i = q by omega])⟩ dX6_passes_31
    | succ k ih_4 =>
      intro i hik H locs ls hH hl
      refine lv_iload_n X.1 X.2.1 dX6_passes_4 rfl (lv_at hl 3 rfl) ?_
      refine lv_iload_n X.1 X.2.1 dX6_passes_5 rfl (lv_at hl 1 rfl) ?_
      refine tb_nge (tgt := 30) X (by omega) (by omega) dX6_passes_6 (by decide) (fun c => ((by omega) : False).elim) (fun _ => ?_)
      refine lv_iload_n X.1 X.2.1 dX6_passes_9 rfl (lv_at hl 2 rfl) ?_
      refine lv_aload_n X.1 X.2.1 dX6_passes_10 rfl (lv_at hl 0 rfl) ?_
      refine tb_cVi X hH hl.1 (c_X6_tick l g (tb_mpZ z i) (hW i (by omega))) ky_X6_tick.1 ky_X6_tick.2 wm_443 tb_oM rfl rfl (Nat.le_of_ble_eq_true rfl) ⟨by decide, by decide⟩ ⟨by decide, by decide⟩ dX6_passes_11 (fun H locs hH => ?_)
      have J_1 : ∀ (H : Heap) (locs : List Loc) (ls : Array Slot) (vq1 : Int32), vq1 = (tb_b ((sp_X6_tick (tb_mpZ z i) ))) → tb_H g s.heap (sz_X6_tick_m3 (tb_mpZ z i)) H locs → lv_has ls 4 [(0, .ref (tb_ad g (157))), (1, .int (nI (q))), (2, .int (tb_mpN z i)), (3, .int (nI (i)))] → W p l e (tb_rm 7) s m ([.ref (tb_ad g 157), .int (nI q)] : List Value).toArray below meth c H locs 0 0 (MQ below (va_Qi (fun r9 u9 => r9 = tb_mpN z q ∧ u9 = tb_mpZ z q) (tb_B g) (tb_A g)) ([.ref (tb_ad g 157), .int (nI q)] : List Value).toArray s 0 0 (tb_A g)) (F0 m 22 ls [.int vq1, .int (tb_mpN z i)]) := by
        intro H locs ls vq1 evq1 hH hl
        subst evq1
        refine lv_iadd X.1 X.2.1 dX6_passes_22 ?_
        refine lv_istore_n (lv' := [(2, .int ((tb_mpN z i) + (tb_b ((sp_X6_tick (tb_mpZ z i) ))))), (0, .ref (tb_ad g (157))), (1, .int (nI (q))), (3, .int (nI (i)))]) X.1 X.2.1 dX6_passes_23 rfl hl (by decide) rfl (fun ls hl => ?_)
        refine lv_iinc (v := nI (i + 1)) (lv' := [(3, .int (nI (i + 1))), (2, .int ((tb_mpN z i) + (tb_b ((sp_X6_tick (tb_mpZ z i) ))))), (0, .ref (tb_ad g (157))), (1, .int (nI (q)))]) X.1 X.2.1 dX6_passes_24 hl (k := 3) rfl (nI_add _ _) (by decide) rfl (fun ls hl => ?_)
        refine lv_goto (tgt := 4) X.1 X.2.1 dX6_passes_27 (by decide) ?_
        exact ih_4 (i + 1) (by omega) _ _ _ hH (lv_sub hl [2, 3, 1, 0] rfl)
      refine tb_jbeq (tgt := 21) X dX6_passes_14 (by decide) (fun c_1 => ?_) (fun c_1 => ?_)
      · refine lv_iconst (v := nI (0)) X.1 X.2.1 dX6_passes_21 (by decide +kernel) ?_
        exact J_1 _ _ _ _ (tb_b_f c_1).symm hH (lv_sub hl [0, 1, 2, 3] rfl)
      · refine lv_iconst (v := nI (1)) X.1 X.2.1 dX6_passes_17 (by decide +kernel) ?_
        refine lv_goto (tgt := 22) X.1 X.2.1 dX6_passes_18 (by decide) ?_
        exact J_1 _ _ _ _ (tb_b_t c_1).symm hH (lv_sub hl [0, 1, 2, 3] rfl)
  exact L_4 q 0 (by omega) _ _ _ hH (lv_sub hl [2, 3, 1, 0] rfl)
abbrev sp_X6_isValue (q : Nat) (v : Int32) : Prop := ((q = 0) ∧ ((¬ (v < (nI (1))) ∧ (¬ ((nI (9)) < v))))) ∨ (¬ (q = 0) ∧ (((q = 1) ∧ ((¬ (v < (nI (1))) ∧ (¬ ((nI (99)) < v))))) ∨ (¬ (q = 1) ∧ ((q = 2) ∧ ((¬ (v < (nI (1))) ∧ (¬ ((nI (60)) < v))))))))
set_option maxHeartbeats 1000000 in
set_option maxRecDepth 100000 in
theorem c_X6_isValue (l : Launch) (g : tb_G) (z : tb_M) (q : Nat) (v : Int32) (hq : q < 3) : tb_Mi (.boolean) l yX6_isValue cX6_isValue 2 1 g z [.int (nI q), .int v] (tb_b (sp_X6_isValue q v)) (z) := by
  refine tb_goi (own := RX6) (by decide +kernel) rfl (Nat.le_of_ble_eq_true rfl) ?_
  intro p e s m below meth c ls X hr hlk hH hl
  have hl : lv_has ls 2 [(0, .int (nI (q))), (1, .int (v))] := hl
  refine lv_iload_n X.1 X.2.1 dX6_isValue_0 rfl (lv_at hl 0 rfl) ?_
  have J_1 : ∀ (H : Heap) (locs : List Loc) (ls : Array Slot) (vq1 : Int32), vq1 = (tb_b (((q = 0) ∧ ((¬ (v < (nI (1))) ∧ (¬ ((nI (9)) < v))))) ∨ (¬ (q = 0) ∧ (((q = 1) ∧ ((¬ (v < (nI (1))) ∧ (¬ ((nI (99)) < v))))) ∨ (¬ (q = 1) ∧ ((q = 2) ∧ ((¬ (v < (nI (1))) ∧ (¬ ((nI (60)) < v)))))))))) → tb_H g s.heap z H locs → lv_has ls 2 [(0, .int (nI (q))), (1, .int (v))] → W p l e (tb_rm 1) s m ([.int (nI q), .int v] : List Value).toArray below meth c H locs 0 0 (MQ below (va_Qi (fun r9 u9 => r9 = tb_b (sp_X6_isValue q v) ∧ u9 = z) (tb_B g) (tb_A g)) ([.int (nI q), .int v] : List Value).toArray s 0 0 (tb_A g)) (F0 m 49 ls [.int vq1]) := by
    intro H locs ls vq1 evq1 hH hl
    subst evq1
    exact tb_rz X hr hlk hH ⟨(Iff.rfl).symm, rfl⟩ dX6_isValue_49
  refine tb_zne (tgt := 14) X (by omega) dX6_isValue_1 (by decide) (fun c_1 => ?_) (fun c_1 => ?_)
  · refine lv_iload_n X.1 X.2.1 dX6_isValue_14 rfl (lv_at hl 0 rfl) ?_
    refine lv_iconst (v := nI (1)) X.1 X.2.1 dX6_isValue_15 (by decide +kernel) ?_
    refine tb_nne (tgt := 29) X (by omega) (by omega) dX6_isValue_16 (by decide) (fun c_2 => ?_) (fun c_2 => ?_)
    · refine lv_iload_n X.1 X.2.1 dX6_isValue_29 rfl (lv_at hl 0 rfl) ?_
      refine lv_iconst (v := nI (2)) X.1 X.2.1 dX6_isValue_30 (by decide +kernel) ?_
      refine tb_nne (tgt := 48) X (by omega) (by omega) dX6_isValue_31 (by decide) (fun c_3 => ?_) (fun c_3 => ?_)
      · refine lv_iconst (v := nI (0)) X.1 X.2.1 dX6_isValue_48 (by decide +kernel) ?_
        exact J_1 _ _ _ _ (tb_b_f (fun h => h.elim (fun x => c_1 x.1) (fun x => (fun h => h.elim (fun x => c_2 x.1) (fun x => (fun h => c_3 h.1) x.2)) x.2))).symm hH (lv_sub hl [0, 1] rfl)
      · refine lv_iload_n X.1 X.2.1 dX6_isValue_34 rfl (lv_at hl 1 rfl) ?_
        refine lv_iconst (v := nI (1)) X.1 X.2.1 dX6_isValue_35 (by decide +kernel) ?_
        refine lv_bipush (v := nI (60)) X.1 X.2.1 dX6_isValue_36 (by decide +kernel) ?_
        refine tb_cSi X hH hl.1 (c_X6_within l g z v (nI (1)) (nI (60))) ky_X6_within.1 ky_X6_within.2 wm_162 rfl rfl (Nat.le_of_ble_eq_true rfl) ⟨by decide, by decide⟩ ⟨by decide, by decide⟩ dX6_isValue_38 (fun H locs hH => ?_)
        refine tb_jbeq (tgt := 48) X dX6_isValue_41 (by decide) (fun c_4 => ?_) (fun c_4 => ?_)
        · refine lv_iconst (v := nI (0)) X.1 X.2.1 dX6_isValue_48 (by decide +kernel) ?_
          exact J_1 _ _ _ _ (tb_b_f (fun h => h.elim (fun x => c_1 x.1) (fun x => (fun h => h.elim (fun x => c_2 x.1) (fun x => (fun h => c_4 h.2) x.2)) x.2))).symm hH (lv_sub hl [0, 1] rfl)
        · refine lv_iconst (v := nI (1)) X.1 X.2.1 dX6_isValue_44 (by decide +kernel) ?_
          refine lv_goto (tgt := 49) X.1 X.2.1 dX6_isValue_45 (by decide) ?_
          exact J_1 _ _ _ _ (tb_b_t (Or.inr ⟨c_1, (Or.inr ⟨c_2, ⟨c_3, c_4⟩⟩)⟩)).symm hH (lv_sub hl [0, 1] rfl)
    · refine lv_iload_n X.1 X.2.1 dX6_isValue_19 rfl (lv_at hl 1 rfl) ?_
      refine lv_iconst (v := nI (1)) X.1 X.2.1 dX6_isValue_20 (by decide +kernel) ?_
      refine lv_bipush (v := nI (99)) X.1 X.2.1 dX6_isValue_21 (by decide +kernel) ?_
      refine tb_cSi X hH hl.1 (c_X6_within l g z v (nI (1)) (nI (99))) ky_X6_within.1 ky_X6_within.2 wm_162 rfl rfl (Nat.le_of_ble_eq_true rfl) ⟨by decide, by decide⟩ ⟨by decide, by decide⟩ dX6_isValue_23 (fun H locs hH => ?_)
      refine lv_goto (tgt := 49) X.1 X.2.1 dX6_isValue_26 (by decide) ?_
      exact J_1 _ _ _ _ (tb_b_c (tb_i6 c_1 (tb_i5 c_2 Iff.rfl))).symm hH (lv_sub hl [0, 1] rfl)
  · refine lv_iload_n X.1 X.2.1 dX6_isValue_4 rfl (lv_at hl 1 rfl) ?_
    refine lv_iconst (v := nI (1)) X.1 X.2.1 dX6_isValue_5 (by decide +kernel) ?_
    refine lv_bipush (v := nI (9)) X.1 X.2.1 dX6_isValue_6 (by decide +kernel) ?_
    refine tb_cSi X hH hl.1 (c_X6_within l g z v (nI (1)) (nI (9))) ky_X6_within.1 ky_X6_within.2 wm_162 rfl rfl (Nat.le_of_ble_eq_true rfl) ⟨by decide, by decide⟩ ⟨by decide, by decide⟩ dX6_isValue_8 (fun H locs hH => ?_)
    refine lv_goto (tgt := 49) X.1 X.2.1 dX6_isValue_11 (by decide) ?_
    exact J_1 _ _ _ _ (tb_b_c (tb_i5 c_1 Iff.rfl)).symm hH (lv_sub hl [0, 1] rfl)
set_option maxHeartbeats 1000000 in
set_option maxRecDepth 100000 in
theorem c_X6_isValue_bad (l : Launch) (g : tb_G) (z : tb_M) (x : Int32) (v : Int32) (hx : ¬ (¬ (x < nI 0) ∧ (¬ (nI 2 < x)))) : tb_Mi (.boolean) l yX6_isValue cX6_isValue 2 0 g z [.int x, .int v] (tb_b (False)) (z) := by
  refine tb_goi (own := RX6) (by decide +kernel) rfl (Nat.le_of_ble_eq_true rfl) ?_
  intro p e s m below meth c ls X hr hlk hH hl
  have hl : lv_has ls 2 [(0, .int (x)), (1, .int (v))] := hl
  refine lv_iload_n X.1 X.2.1 dX6_isValue_0 rfl (lv_at hl 0 rfl) ?_
  refine lv_if_ne (tgt := 14) X.1 X.2.1 dX6_isValue_1 (by decide) (fun _ => ?_) (fun c => (hx (by rw [c]; decide +kernel) : False).elim)
  refine lv_iload_n X.1 X.2.1 dX6_isValue_14 rfl (lv_at hl 0 rfl) ?_
  refine lv_iconst (v := nI (1)) X.1 X.2.1 dX6_isValue_15 (by decide +kernel) ?_
  refine lv_icmp_ne (tgt := 29) X.1 X.2.1 dX6_isValue_16 (by decide) (fun _ => ?_) (fun c => (hx (by rw [c]; decide +kernel) : False).elim)
  refine lv_iload_n X.1 X.2.1 dX6_isValue_29 rfl (lv_at hl 0 rfl) ?_
  refine lv_iconst (v := nI (2)) X.1 X.2.1 dX6_isValue_30 (by decide +kernel) ?_
  refine lv_icmp_ne (tgt := 48) X.1 X.2.1 dX6_isValue_31 (by decide) (fun _ => ?_) (fun c => (hx (by rw [c]; decide +kernel) : False).elim)
  refine lv_iconst (v := nI (0)) X.1 X.2.1 dX6_isValue_48 (by decide +kernel) ?_
  exact tb_top (x2 := tb_b False) (tb_b_f id).symm (tb_rz X hr hlk hH ⟨⟨False.elim, id⟩, rfl⟩ dX6_isValue_49)
