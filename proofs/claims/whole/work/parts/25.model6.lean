def tb_fzM (z : tb_M) (sl f : Nat) : Nat → tb_M
  | 0 => z
  | i + 1 => tb_up (tb_up (tb_fzM z sl f i) 158 ((11 + (46 * sl)) + (14 + (f + i))) (sr_X6_padWord (tb_fzM z sl f i) i)) 158 ((11 + (46 * sl)) + 5) (nI (f + i + 1))
theorem tb_fzM_5 {z : tb_M} {sl f : Nat} (h : z 158 ((11 + (46 * sl)) + 5) = nI f) (i : Nat) : tb_fzM z sl f i 158 ((11 + (46 * sl)) + 5) = nI (f + i) := by
  cases i with
  | zero => exact h
  | succ i => exact tb_up_s _ _ _ _
theorem tb_fzM_k (z : tb_M) (sl f : Nat) {k : Nat} (h : k ≠ 158) : ∀ i, tb_fzM z sl f i k = z k
  | 0 => rfl
  | i + 1 => by rw [tb_fzM, tb_up_k _ _ _ h, tb_up_k _ _ _ h, tb_fzM_k z sl f h i]
set_option maxHeartbeats 1000000 in
set_option maxRecDepth 100000 in
theorem c_X6_fillAll_bad (l : Launch) (g : tb_G) (z : tb_M) (x : Int32) (hx : ¬ (¬ (x < nI 0) ∧ (¬ (nI 1 < x)))) : tb_Mi (.int) l yX6_fillAll cX6_fillAll 3 2 g z [.ref (tb_ad g 157), .int x] ((-1)) (z) := by
  refine tb_goi (own := RX6) (by decide +kernel) rfl (Nat.le_of_ble_eq_true rfl) ?_
  intro p e s m below meth c ls X hr hlk hH hl
  have hl : lv_has ls 3 [(0, .ref (tb_ad g (157))), (1, .int (x))] := hl
  refine lv_iload_n X.1 X.2.1 dX6_fillAll_0 rfl (lv_at hl 1 rfl) ?_
  refine tb_cSi X hH hl.1 (c_X6_isSlot l g z x) ky_X6_isSlot.1 ky_X6_isSlot.2 wm_215 rfl rfl (Nat.le_of_ble_eq_true rfl) ⟨by decide, by decide⟩ ⟨by decide, by decide⟩ dX6_fillAll_1 (fun H locs hH => ?_)
  refine tb_jbne (tgt := 9) X dX6_fillAll_4 (by decide) (fun c => (hx c : False).elim) (fun _ => ?_)
  refine lv_iconst (v := (-1)) X.1 X.2.1 dX6_fillAll_7 (by decide +kernel) ?_
  exact tb_ri X hr hlk hH ⟨rfl, rfl⟩ dX6_fillAll_8
def sz_X6_fillAll (z : tb_M) (sl : Nat) : tb_M := if ((tb_fF (fun i => sr_X6_digitOf (z 163 i)) (tb_tlM (tb_plM z)) (tb_plM z) 0)) = ((-6)) then (if (((z 158 ((11 + (46 * sl)) + 0))) = (nI (1))) then (if (tb_plM z / 2) ≤ (((tb_lm z sl) - (tb_fm z sl))) then (tb_up (tb_fzM (tb_recM z) sl (tb_fm z sl) (tb_plM z / 2)) 157 7 (nI (0))) else z) else z) else z
def sr_X6_fillAll (z : tb_M) (sl : Nat) : Int32 := if ((tb_fF (fun i => sr_X6_digitOf (z 163 i)) (tb_tlM (tb_plM z)) (tb_plM z) 0)) = ((-6)) then (if (((z 158 ((11 + (46 * sl)) + 0))) = (nI (1))) then (if (tb_plM z / 2) ≤ (((tb_lm z sl) - (tb_fm z sl))) then (((tb_up (tb_fzM (tb_recM z) sl (tb_fm z sl) (tb_plM z / 2)) 157 7 (nI (0))) 158 ((11 + (46 * sl)) + 5))) else ((-4))) else ((-5))) else ((-3))
set_option maxHeartbeats 1000000 in
set_option maxRecDepth 100000 in
theorem c_X6_fillAll (l : Launch) (g : tb_G) (z : tb_M) (sl : Nat) (hsl : sl < 2) (hP : tb_okPM z) (hF : tb_okFM z sl) (hrc : tb_okRM z) : tb_Mi (.int) l yX6_fillAll cX6_fillAll 3 3 g z [.ref (tb_ad g 157), .int (nI sl)] (sr_X6_fillAll z sl) (sz_X6_fillAll z sl) := by
  refine tb_goi (own := RX6) (by decide +kernel) rfl (Nat.le_of_ble_eq_true rfl) ?_
  intro p e s m below meth c ls X hr hlk hH hl
  have hl : lv_has ls 3 [(0, .ref (tb_ad g (157))), (1, .int (nI (sl)))] := hl
  have hF2 := hF.1.2
  have hF3 := hF.2.2
  have hP2 := hP.2
  refine lv_iload_n X.1 X.2.1 dX6_fillAll_0 rfl (lv_at hl 1 rfl) ?_
  refine tb_cSi X hH hl.1 (c_X6_isSlot l g z (nI (sl))) ky_X6_isSlot.1 ky_X6_isSlot.2 wm_215 rfl rfl (Nat.le_of_ble_eq_true rfl) ⟨by decide, by decide⟩ ⟨by decide, by decide⟩ dX6_fillAll_1 (fun H locs hH => ?_)
  refine tb_jbne (tgt := 9) X dX6_fillAll_4 (by decide) (fun _ => ?_) (fun c => (c ⟨nI_nlt (by omega) (by omega), nI_nlt (by omega) (by omega)⟩ : False).elim)
  refine lv_aload_n X.1 X.2.1 dX6_fillAll_9 rfl (lv_at hl 0 rfl) ?_
  refine tb_cVi X hH hl.1 (c_X6_findFault l g z (tb_plM z) hP.1 hP.2) ky_X6_findFault.1 ky_X6_findFault.2 wm_298 tb_oM rfl rfl (Nat.le_of_ble_eq_true rfl) ⟨by decide, by decide⟩ ⟨by decide, by decide⟩ dX6_fillAll_10 (fun H locs hH => ?_)
  refine lv_bipush (v := (-6)) X.1 X.2.1 dX6_fillAll_13 (by decide +kernel) ?_
  refine lv_icmp_eq (tgt := 21) X.1 X.2.1 dX6_fillAll_15 (by decide) (fun c_1 => ?_) (fun c_1 => ?_)
  · refine lv_aload_n X.1 X.2.1 dX6_fillAll_21 rfl (lv_at hl 0 rfl) ?_
    refine lv_iload_n X.1 X.2.1 dX6_fillAll_22 rfl (lv_at hl 1 rfl) ?_
    refine lv_iconst (v := nI (1)) X.1 X.2.1 dX6_fillAll_23 (by decide +kernel) ?_
    refine tb_cVi X hH hl.1 (c_X6_isHow l g z sl (nI (1)) (by first | assumption | omega | decide)) ky_X6_isHow.1 ky_X6_isHow.2 wm_256 tb_oM rfl rfl (Nat.le_of_ble_eq_true rfl) ⟨by decide, by decide⟩ ⟨by decide, by decide⟩ dX6_fillAll_24 (fun H locs hH => ?_)
    refine tb_jbne (tgt := 33) X dX6_fillAll_27 (by decide) (fun c_2 => ?_) (fun c_2 => ?_)
    · refine lv_aload_n X.1 X.2.1 dX6_fillAll_33 rfl (lv_at hl 0 rfl) ?_
      refine tb_get X hH tb_Mc.1 (tb_Mc.2 _ _) rfl inlX6 7 (by decide) wm_297 (v := .int (z 157 7)) rfl dX6_fillAll_34 ?_
      refine tb_top (x2 := nI (tb_plM z)) (hP.1) ?_
      refine lv_iconst (v := nI (2)) X.1 X.2.1 dX6_fillAll_37 (by decide +kernel) ?_
      refine lv_idiv X.1 X.2.1 dX6_fillAll_38 (by decide +kernel) ?_
      refine tb_top (x2 := nI (tb_plM z / 2)) (pk_div (by omega) (by decide) (by decide)) ?_
      refine lv_aload_n X.1 X.2.1 dX6_fillAll_39 rfl (lv_at hl 0 rfl) ?_
      refine lv_iload_n X.1 X.2.1 dX6_fillAll_40 rfl (lv_at hl 1 rfl) ?_
      refine tb_cVi X hH hl.1 (c_X6_lacks l g z sl hsl hF) ky_X6_lacks.1 ky_X6_lacks.2 wm_260 tb_oM rfl rfl (Nat.le_of_ble_eq_true rfl) ⟨by decide, by decide⟩ ⟨by decide, by decide⟩ dX6_fillAll_41 (fun H locs hH => ?_)
      refine tb_nle (tgt := 50) X (by omega) (by omega) dX6_fillAll_44 (by decide) (fun c_3 => ?_) (fun c_3 => ?_)
      · refine lv_aload_n X.1 X.2.1 dX6_fillAll_50 rfl (lv_at hl 0 rfl) ?_
        refine tb_cVv X hH hl.1 (c_X6_record l g z hrc) ky_X6_record.1 ky_X6_record.2 wm_165 tb_oM rfl rfl (Nat.le_of_ble_eq_true rfl) ⟨by decide, by decide⟩ ⟨by decide, by decide⟩ dX6_fillAll_51 (fun H locs hH => ?_)
        refine lv_iconst (v := nI (0)) X.1 X.2.1 dX6_fillAll_54 (by decide +kernel) ?_
        refine lv_istore_n (lv' := [(2, .int (nI (0))), (0, .ref (tb_ad g (157))), (1, .int (nI (sl)))]) X.1 X.2.1 dX6_fillAll_55 rfl hl (by decide) rfl (fun ls hl => ?_)
        have L_56 : ∀ (k : Nat) (i : Nat), i + k = tb_plM z / 2 → ∀ (H : Heap) (locs : List Loc) (ls : Array Slot), tb_H g s.heap (tb_fzM (tb_recM z) sl (tb_fm z sl) i) H locs → lv_has ls 3 [(0, .ref (tb_ad g (157))), (1, .int (nI (sl))), (2, .int (nI (i)))] → W p l e (tb_rm 3) s m ([.ref (tb_ad g 157), .int (nI sl)] : List Value).toArray below meth c H locs 0 0 (MQ below (va_Qi (fun r9 u9 => r9 = sr_X6_fillAll z sl ∧ u9 = sz_X6_fillAll z sl) (tb_B g) (tb_A g)) ([.ref (tb_ad g 157), .int (nI sl)] : List Value).toArray s 0 0 (tb_A g)) (F0 m 56 ls []) := by
          intro k
          induction k with
          | zero =>
            intro i hik H locs ls hH hl
            obtain rfl : i = tb_plM z / 2 := by omega
            refine lv_iload_n X.1 X.2.1 dX6_fillAll_56 rfl (lv_at hl 2 rfl) ?_
            refine lv_aload_n X.1 X.2.1 dX6_fillAll_57 rfl (lv_at hl 0 rfl) ?_
            refine tb_get X hH tb_Mc.1 (tb_Mc.2 _ _) rfl inlX6 7 (by decide) wm_297 (v := .int ((tb_fzM (tb_recM z) sl (tb_fm z sl) (tb_plM z / 2)) 157 7)) rfl dX6_fillAll_58 ?_
            refine tb_top (x2 := nI (tb_plM z)) (by rw [tb_fzM_k _ _ _ (by decide), tb_recM_7]; exact hP.1) ?_
            refine lv_iconst (v := nI (2)) X.1 X.2.1 dX6_fillAll_61 (by decide +kernel) ?_
            refine lv_idiv X.1 X.2.1 dX6_fillAll_62 (by decide +kernel) ?_
            refine tb_top (x2 := nI (tb_plM z / 2)) (pk_div (by omega) (by decide) (by decide)) ?_
            refine tb_nge (tgt := 82) X (by omega) (by omega) dX6_fillAll_63 (by decide) (fun _ => ?_) (fun c => ((by omega) : False).elim)
            refine lv_aload_n X.1 X.2.1 dX6_fillAll_82 rfl (lv_at hl 0 rfl) ?_
            refine lv_iconst (v := nI (0)) X.1 X.2.1 dX6_fillAll_83 (by decide +kernel) ?_
            refine tb_putM X hH 7 (by decide) wm_297 dX6_fillAll_84 (fun H locs hH => ?_)
            refine lv_aload_n X.1 X.2.1 dX6_fillAll_87 rfl (lv_at hl 0 rfl) ?_
            refine lv_iload_n X.1 X.2.1 dX6_fillAll_88 rfl (lv_at hl 1 rfl) ?_
            refine lv_iconst (v := nI (5)) X.1 X.2.1 dX6_fillAll_89 (by decide +kernel) ?_
            refine tb_cVi X hH hl.1 (c_X6_part l g (tb_up (tb_fzM (tb_recM z) sl (tb_fm z sl) (tb_plM z / 2)) 157 7 (nI (0))) sl 5 (by first | assumption | omega | decide)) ky_X6_part.1 ky_X6_part.2 wm_229 tb_oM rfl rfl (Nat.le_of_ble_eq_true rfl) ⟨by decide, by decide⟩ ⟨by decide, by decide⟩ dX6_fillAll_90 (fun H locs hH => ?_)
            exact tb_ri X hr hlk hH ⟨(by rw [sr_X6_fillAll]; simp only [if_pos c_1, if_pos c_2, if_pos c_3]), (by rw [sz_X6_fillAll]; simp only [if_pos c_1, if_pos c_2, if_pos c_3])⟩ dX6_fillAll_93
          | succ k ih_56 =>
            intro i hik H locs ls hH hl
            refine lv_iload_n X.1 X.2.1 dX6_fillAll_56 rfl (lv_at hl 2 rfl) ?_
            refine lv_aload_n X.1 X.2.1 dX6_fillAll_57 rfl (lv_at hl 0 rfl) ?_
            refine tb_get X hH tb_Mc.1 (tb_Mc.2 _ _) rfl inlX6 7 (by decide) wm_297 (v := .int ((tb_fzM (tb_recM z) sl (tb_fm z sl) i) 157 7)) rfl dX6_fillAll_58 ?_
            refine tb_top (x2 := nI (tb_plM z)) (by rw [tb_fzM_k _ _ _ (by decide), tb_recM_7]; exact hP.1) ?_
            refine lv_iconst (v := nI (2)) X.1 X.2.1 dX6_fillAll_61 (by decide +kernel) ?_
            refine lv_idiv X.1 X.2.1 dX6_fillAll_62 (by decide +kernel) ?_
            refine tb_top (x2 := nI (tb_plM z / 2)) (pk_div (by omega) (by decide) (by decide)) ?_
            refine tb_nge (tgt := 82) X (by omega) (by omega) dX6_fillAll_63 (by decide) (fun c => ((by omega) : False).elim) (fun _ => ?_)
            refine lv_aload_n X.1 X.2.1 dX6_fillAll_66 rfl (lv_at hl 0 rfl) ?_
            refine lv_iload_n X.1 X.2.1 dX6_fillAll_67 rfl (lv_at hl 1 rfl) ?_
            refine lv_aload_n X.1 X.2.1 dX6_fillAll_68 rfl (lv_at hl 0 rfl) ?_
            refine lv_iload_n X.1 X.2.1 dX6_fillAll_69 rfl (lv_at hl 2 rfl) ?_
            refine tb_cVi X hH hl.1 (c_X6_padWord l g (tb_fzM (tb_recM z) sl (tb_fm z sl) i) i (by omega)) ky_X6_padWord.1 ky_X6_padWord.2 wm_305 tb_oM rfl rfl (Nat.le_of_ble_eq_true rfl) ⟨by decide, by decide⟩ ⟨by decide, by decide⟩ dX6_fillAll_70 (fun H locs hH => ?_)
            refine tb_cVv X hH hl.1 (c_X6_fills l g (tb_fzM (tb_recM z) sl (tb_fm z sl) i) sl ((sr_X6_padWord (tb_fzM (tb_recM z) sl (tb_fm z sl) i) i)) (tb_fm z sl + i) hsl (tb_fzM_5 (by rw [tb_recM_k _ (by decide)]; exact hF.2.1) i) (by omega)) ky_X6_fills.1 ky_X6_fills.2 wm_264 tb_oM rfl rfl (Nat.le_of_ble_eq_true rfl) ⟨by decide, by decide⟩ ⟨by decide, by decide⟩ dX6_fillAll_73 (fun H locs hH => ?_)
            refine lv_iinc (v := nI (i + 1)) (lv' := [(2, .int (nI (i + 1))), (0, .ref (tb_ad g (157))), (1, .int (nI (sl)))]) X.1 X.2.1 dX6_fillAll_76 hl (k := 2) rfl (nI_add _ _) (by decide) rfl (fun ls hl => ?_)
            refine lv_goto (tgt := 56) X.1 X.2.1 dX6_fillAll_79 (by decide) ?_
            exact ih_56 (i + 1) (by omega) _ _ _ hH (lv_sub hl [1, 2, 0] rfl)
        exact L_56 (tb_plM z / 2) 0 (by omega) _ _ _ hH (lv_sub hl [1, 2, 0] rfl)
      · refine lv_bipush (v := (-4)) X.1 X.2.1 dX6_fillAll_47 (by decide +kernel) ?_
        exact tb_ri X hr hlk hH ⟨(by rw [sr_X6_fillAll]; simp only [if_pos c_1, if_pos c_2, if_neg c_3]), (by rw [sz_X6_fillAll]; simp only [if_pos c_1, if_pos c_2, if_neg c_3])⟩ dX6_fillAll_49
    · refine lv_bipush (v := (-5)) X.1 X.2.1 dX6_fillAll_30 (by decide +kernel) ?_
      exact tb_ri X hr hlk hH ⟨(by rw [sr_X6_fillAll]; simp only [if_pos c_1, if_neg c_2]), (by rw [sz_X6_fillAll]; simp only [if_pos c_1, if_neg c_2])⟩ dX6_fillAll_32
  · refine lv_bipush (v := (-3)) X.1 X.2.1 dX6_fillAll_18 (by decide +kernel) ?_
    exact tb_ri X hr hlk hH ⟨(by rw [sr_X6_fillAll]; simp only [if_neg c_1]), (by rw [sz_X6_fillAll]; simp only [if_neg c_1])⟩ dX6_fillAll_20
def sz_X6_put (z : tb_M) (x : Int64) : tb_M := if (tb_puF 8 x 0) = 0 then z else (if tb_puB 8 x true = true then (if (tb_puY 8 x) = ((0 : Int64)) then (if ((tb_plM z) + (tb_puF 8 x 0)) ≤ 64 then (tb_apM z x (tb_plM z) (tb_puF 8 x 0) (tb_puF 8 x 0)) else z) else z) else z)
def sr_X6_put (z : tb_M) (x : Int64) : Int32 := if (tb_puF 8 x 0) = 0 then ((-2)) else (if tb_puB 8 x true = true then (if (tb_puY 8 x) = ((0 : Int64)) then (if ((tb_plM z) + (tb_puF 8 x 0)) ≤ 64 then ((tb_apM z x (tb_plM z) (tb_puF 8 x 0) (tb_puF 8 x 0)) 157 7) else ((-4))) else ((-2))) else ((-2)))
set_option maxHeartbeats 1000000 in
set_option maxRecDepth 100000 in
theorem c_X6_put (l : Launch) (g : tb_G) (z : tb_M) (x : Int64) (hP : tb_okPM z) : tb_Mi (.int) l yX6_put cX6_put 8 1 g z [.ref (tb_ad g 157), .long x] (sr_X6_put z x) (sz_X6_put z x) := by
  refine tb_goi (own := RX6) (by decide +kernel) rfl (Nat.le_of_ble_eq_true rfl) ?_
  intro p e s m below meth c ls X hr hlk hH hl
  have hl : lv_has ls 8 [(0, .ref (tb_ad g (157))), (1, .long (x))] := hl
  have hP2 := hP.2
  have hpf := tb_puF_le 8 x 0
  refine lv_iconst (v := nI (0)) X.1 X.2.1 dX6_put_0 (by decide +kernel) ?_
  refine lv_istore_n (lv' := [(3, .int (nI (0))), (0, .ref (tb_ad g (157))), (1, .long (x))]) X.1 X.2.1 dX6_put_1 rfl hl (by decide) rfl (fun ls hl => ?_)
  refine lv_lload_n X.1 X.2.1 dX6_put_2 rfl (lv_at hl 2 rfl) ?_
  refine lv_lstore (lv' := [(4, .long (x)), (3, .int (nI (0))), (0, .ref (tb_ad g (157))), (1, .long (x))]) X.1 X.2.1 dX6_put_3 hl (by decide) rfl (fun ls hl => ?_)
  refine lv_iconst (v := nI (1)) X.1 X.2.1 dX6_put_5 (by decide +kernel) ?_
  refine lv_istore (lv' := [(6, .int (nI (1))), (4, .long (x)), (3, .int (nI (0))), (0, .ref (tb_ad g (157))), (1, .long (x))]) X.1 X.2.1 dX6_put_6 hl (by decide) rfl (fun ls hl => ?_)
  have K_67 : ∀ (H : Heap) (locs : List Loc) (ls : Array Slot), tb_H g s.heap (z) H locs → lv_has ls 8 [(0, .ref (tb_ad g (157))), (1, .long (x)), (3, .int (nI (tb_puF 8 x 0))), (4, .long (tb_puY 8 x)), (6, .int (tb_b (tb_puB 8 x true = true)))] → W p l e (tb_rm 1) s m ([.ref (tb_ad g 157), .long x] : List Value).toArray below meth c H locs 0 0 (MQ below (va_Qi (fun r9 u9 => r9 = sr_X6_put z x ∧ u9 = sz_X6_put z x) (tb_B g) (tb_A g)) ([.ref (tb_ad g 157), .long x] : List Value).toArray s 0 0 (tb_A g)) (F0 m 67 ls []) := by
    intro H locs ls hH hl
    refine lv_iload_n X.1 X.2.1 dX6_put_67 rfl (lv_at hl 2 rfl) ?_
    refine tb_zeq (tgt := 83) X (by omega) dX6_put_68 (by decide) (fun c_51 => ?_) (fun c_51 => ?_)
    · refine lv_bipush (v := (-2)) X.1 X.2.1 dX6_put_83 (by decide +kernel) ?_
      exact tb_ri X hr hlk hH ⟨(by rw [sr_X6_put]; simp only [if_pos c_51]), (by rw [sz_X6_put]; simp only [if_pos c_51])⟩ dX6_put_85
    · refine lv_iload X.1 X.2.1 dX6_put_71 (lv_at hl 4 rfl) ?_
      refine tb_jbeq (tgt := 83) X dX6_put_73 (by decide) (fun c_52 => ?_) (fun c_52 => ?_)
      · refine lv_bipush (v := (-2)) X.1 X.2.1 dX6_put_83 (by decide +kernel) ?_
        exact tb_ri X hr hlk hH ⟨(by rw [sr_X6_put]; simp only [if_neg c_51, if_neg c_52]), (by rw [sz_X6_put]; simp only [if_neg c_51, if_neg c_52])⟩ dX6_put_85
      · refine lv_lload X.1 X.2.1 dX6_put_76 (lv_at hl 3 rfl) ?_
        refine lv_lconst (v := 0) X.1 X.2.1 dX6_put_78 (by decide +kernel) ?_
        refine W.lcmp X.1 X.2.1 dX6_put_79 ?_
        refine tb_jleq (tgt := 86) X dX6_put_80 (by decide) (fun c_53 => ?_) (fun c_53 => ?_)
        · refine lv_aload_n X.1 X.2.1 dX6_put_86 rfl (lv_at hl 0 rfl) ?_
          refine tb_get X hH tb_Mc.1 (tb_Mc.2 _ _) rfl inlX6 7 (by decide) wm_297 (v := .int (z 157 7)) rfl dX6_put_87 ?_
          refine tb_top (x2 := nI (tb_plM z)) (hP.1) ?_
          refine lv_iload_n X.1 X.2.1 dX6_put_90 rfl (lv_at hl 2 rfl) ?_
          refine tb_iaddN X dX6_put_91 ?_
          refine lv_bipush (v := nI (64)) X.1 X.2.1 dX6_put_92 (by decide +kernel) ?_
          refine tb_nle (tgt := 100) X (by omega) (by omega) dX6_put_94 (by decide) (fun c_54 => ?_) (fun c_54 => ?_)
          · refine lv_iload_n X.1 X.2.1 dX6_put_100 rfl (lv_at hl 2 rfl) ?_
            refine lv_iconst (v := nI (1)) X.1 X.2.1 dX6_put_101 (by decide +kernel) ?_
            refine tb_isubN X (by omega) dX6_put_102 ?_
            refine tb_top (x2 := tb_pr (tb_puF 8 x 0)) (tb_pr_of (by omega)) ?_
            refine lv_istore (lv' := [(7, .int (tb_pr (tb_puF 8 x 0))), (0, .ref (tb_ad g (157))), (1, .long (x)), (3, .int (nI (tb_puF 8 x 0))), (4, .long (tb_puY 8 x)), (6, .int (tb_b (tb_puB 8 x true = true)))]) X.1 X.2.1 dX6_put_103 hl (by decide) rfl (fun ls hl => ?_)
            have L_105 : ∀ (k : Nat) (j : Nat), j + k = tb_puF 8 x 0 → ∀ (H : Heap) (locs : List Loc) (ls : Array Slot), tb_H g s.heap (tb_apM z x (tb_plM z) (tb_puF 8 x 0) j) H locs → lv_has ls 8 [(0, .ref (tb_ad g (157))), (1, .long (x)), (7, .int (tb_pr k))] → W p l e (tb_rm 1) s m ([.ref (tb_ad g 157), .long x] : List Value).toArray below meth c H locs 0 0 (MQ below (va_Qi (fun r9 u9 => r9 = sr_X6_put z x ∧ u9 = sz_X6_put z x) (tb_B g) (tb_A g)) ([.ref (tb_ad g 157), .long x] : List Value).toArray s 0 0 (tb_A g)) (F0 m 105 ls []) := by
              intro k
              induction k with
              | zero =>
                intro j hjk H locs ls hH hl
                obtain rfl : j = tb_puF 8 x 0 := by omega
                have hl : lv_has ls 8 [(0, .ref (tb_ad g (157))), (1, .long (x)), (7, .int ((-1)))] := hl
                refine lv_iload X.1 X.2.1 dX6_put_105 (lv_at hl 2 rfl) ?_
                refine lv_if_lt (tgt := 147) X.1 X.2.1 dX6_put_107 (by decide) (fun _ => ?_) (fun c => (c (by decide +kernel) : False).elim)
                refine lv_aload_n X.1 X.2.1 dX6_put_147 rfl (lv_at hl 0 rfl) ?_
                refine tb_get X hH tb_Mc.1 (tb_Mc.2 _ _) rfl inlX6 7 (by decide) wm_297 (v := .int ((tb_apM z x (tb_plM z) (tb_puF 8 x 0) (tb_puF 8 x 0)) 157 7)) rfl dX6_put_148 ?_
                exact tb_ri X hr hlk hH ⟨(by rw [sr_X6_put]; simp only [if_neg c_51, if_pos c_52, if_pos c_53, if_pos c_54]), (by rw [sz_X6_put]; simp only [if_neg c_51, if_pos c_52, if_pos c_53, if_pos c_54])⟩ dX6_put_151
              | succ k ih_105 =>
                intro j hjk H locs ls hH hl
                have hl : lv_has ls 8 [(0, .ref (tb_ad g (157))), (1, .long (x)), (7, .int (nI (k)))] := hl
                refine lv_iload X.1 X.2.1 dX6_put_105 (lv_at hl 2 rfl) ?_
                refine lv_if_lt (tgt := 147) X.1 X.2.1 dX6_put_107 (by decide) (fun c => (absurd c (nI_pos (by omega)) : False).elim) (fun _ => ?_)
                refine lv_aload_n X.1 X.2.1 dX6_put_110 rfl (lv_at hl 0 rfl) ?_
                refine tb_get X hH tb_Mc.1 (tb_Mc.2 _ _) rfl inlX6 6 (by decide) wm_104 (v := .ref (tb_ad g (163))) rfl dX6_put_111 ?_
                refine lv_aload_n X.1 X.2.1 dX6_put_114 rfl (lv_at hl 0 rfl) ?_
                refine tb_get X hH tb_Mc.1 (tb_Mc.2 _ _) rfl inlX6 7 (by decide) wm_297 (v := .int ((tb_apM z x (tb_plM z) (tb_puF 8 x 0) j) 157 7)) rfl dX6_put_115 ?_
                refine tb_top (x2 := nI (tb_plM z + j)) (tb_apM_len _ _ hP.1 _) ?_
                refine lv_lload_n X.1 X.2.1 dX6_put_118 rfl (lv_at hl 1 rfl) ?_
                refine lv_bipush (v := nI (8)) X.1 X.2.1 dX6_put_119 (by decide +kernel) ?_
                refine lv_iload X.1 X.2.1 dX6_put_121 (lv_at hl 2 rfl) ?_
                refine tb_imulN X dX6_put_123 ?_
                refine lv_lushr X.1 X.2.1 dX6_put_124 (v := tb_ushr x (nI (8 * k))) rfl ?_
                refine lv_ldc2 X.1 X.2.1 X.2.2.2.1 (X.2.2.1 _ wm_593) dX6_put_125 ?_
                refine lv_land X.1 X.2.1 dX6_put_128 ?_
                refine lv_l2i X.1 X.2.1 dX6_put_129 (v := ((tb_ushr x (nI (8 * k))) &&& ((255 : Int64))).toInt32) rfl ?_
                refine tb_ast X hH tb_i163 (tb_plM z + j) rfl (by omega) (by first | decide | omega) dX6_put_130 (fun H locs hH => ?_)
                refine lv_aload_n X.1 X.2.1 dX6_put_131 rfl (lv_at hl 0 rfl) ?_
                refine lv_dup X.1 X.2.1 dX6_put_132 rfl ?_
                refine tb_get X hH tb_Mc.1 (tb_Mc.2 _ _) rfl inlX6 7 (by decide) wm_297 (v := .int ((tb_up (tb_apM z x (tb_plM z) (tb_puF 8 x 0) j) 163 (tb_plM z + j) (((tb_ushr x (nI (8 * k))) &&& ((255 : Int64))).toInt32)) 157 7)) rfl dX6_put_133 ?_
                refine tb_top (x2 := nI (tb_plM z + j)) (by rw [tb_up_k _ _ _ (by decide)]; exact tb_apM_len _ _ hP.1 _) ?_
                refine lv_iconst (v := nI (1)) X.1 X.2.1 dX6_put_136 (by decide +kernel) ?_
                refine tb_iaddN X dX6_put_137 ?_
                refine tb_putM X hH 7 (by decide) wm_297 dX6_put_138 (fun H locs hH => ?_)
                refine lv_iinc (v := tb_pr k) (lv' := [(7, .int (tb_pr k)), (0, .ref (tb_ad g (157))), (1, .long (x))]) X.1 X.2.1 dX6_put_141 hl (k := 2) rfl (tb_pr_dec k) (by decide) rfl (fun ls hl => ?_)
                refine lv_goto (tgt := 105) X.1 X.2.1 dX6_put_144 (by decide) ?_
                exact ih_105 (j + 1) (by omega) _ _ _ (by have e9 : k = tb_puF 8 x 0 - 1 - j := (by omega); subst e9; exact hH) (lv_sub hl [1, 2, 0] rfl)
            exact L_105 (tb_puF 8 x 0) 0 (by omega) _ _ _ hH (lv_sub hl [1, 2, 0] rfl)
          · refine lv_bipush (v := (-4)) X.1 X.2.1 dX6_put_97 (by decide +kernel) ?_
            exact tb_ri X hr hlk hH ⟨(by rw [sr_X6_put]; simp only [if_neg c_51, if_pos c_52, if_pos c_53, if_neg c_54]), (by rw [sz_X6_put]; simp only [if_neg c_51, if_pos c_52, if_pos c_53, if_neg c_54])⟩ dX6_put_99
        · refine lv_bipush (v := (-2)) X.1 X.2.1 dX6_put_83 (by decide +kernel) ?_
          exact tb_ri X hr hlk hH ⟨(by rw [sr_X6_put]; simp only [if_neg c_51, if_pos c_52, if_neg c_53]), (by rw [sz_X6_put]; simp only [if_neg c_51, if_pos c_52, if_neg c_53])⟩ dX6_put_85
  have L_8 : ∀ (k : Nat) (y : Int64) (f : Nat) (b : Bool), f + k = 8 → tb_puF 8 x 0 = tb_puF k y f → tb_puY 8 x = tb_puY k y → tb_puB 8 x true = tb_puB k y b → ∀ (H : Heap) (locs : List Loc) (ls : Array Slot), tb_H g s.heap (z) H locs → lv_has ls 8 [(0, .ref (tb_ad g (157))), (1, .long (x)), (3, .int (nI (f))), (4, .long (y)), (6, .int (tb_b (b = true)))] → W p l e (tb_rm 1) s m ([.ref (tb_ad g 157), .long x] : List Value).toArray below meth c H locs 0 0 (MQ below (va_Qi (fun r9 u9 => r9 = sr_X6_put z x ∧ u9 = sz_X6_put z x) (tb_B g) (tb_A g)) ([.ref (tb_ad g 157), .long x] : List Value).toArray s 0 0 (tb_A g)) (F0 m 8 ls []) := by
    intro k
    induction k with
    | zero =>
      intro y f b hfk hF hY hB H locs ls hH hl
      refine lv_iload_n X.1 X.2.1 dX6_put_8 rfl (lv_at hl 2 rfl) ?_
      refine lv_bipush (v := nI (8)) X.1 X.2.1 dX6_put_9 (by decide +kernel) ?_
      refine tb_nge (tgt := 67) X (by omega) (by omega) dX6_put_11 (by decide) (fun _ => ?_) (fun c => ((by omega) : False).elim)
      exact K_67 _ _ _ hH (by rw [hF, hY, hB]; exact (lv_sub hl [0, 1, 2, 3, 4] rfl))
    | succ k ih_8 =>
      intro y f b hfk hF hY hB H locs ls hH hl
      refine lv_iload_n X.1 X.2.1 dX6_put_8 rfl (lv_at hl 2 rfl) ?_
      refine lv_bipush (v := nI (8)) X.1 X.2.1 dX6_put_9 (by decide +kernel) ?_
      refine tb_nge (tgt := 67) X (by omega) (by omega) dX6_put_11 (by decide) (fun c => ((by omega) : False).elim) (fun _ => ?_)
      refine lv_lload X.1 X.2.1 dX6_put_14 (lv_at hl 3 rfl) ?_
      refine lv_ldc2 X.1 X.2.1 X.2.2.2.1 (X.2.2.1 _ wm_593) dX6_put_16 ?_
      refine lv_land X.1 X.2.1 dX6_put_19 ?_
      refine lv_lconst (v := 0) X.1 X.2.1 dX6_put_20 (by decide +kernel) ?_
      refine W.lcmp X.1 X.2.1 dX6_put_21 ?_
      refine tb_jleq (tgt := 67) X dX6_put_22 (by decide) (fun c_55 => ?_) (fun c_55 => ?_)
      · exact K_67 _ _ _ hH (by rw [hF, hY, hB, tb_puF, tb_puY, tb_puB, if_pos c_55, if_pos c_55, if_pos c_55]; exact (lv_sub hl [0, 1, 2, 3, 4] rfl))
      · refine lv_iload X.1 X.2.1 dX6_put_25 (lv_at hl 4 rfl) ?_
        have J_1 : ∀ (H : Heap) (locs : List Loc) (ls : Array Slot) (vq1 : Int32), vq1 = (tb_b ((b = true) ∧ ((¬ (((y &&& ((255 : Int64))).toInt32) < (nI (33))) ∧ (¬ ((nI (126)) < ((y &&& ((255 : Int64))).toInt32))))))) → tb_H g s.heap z H locs → lv_has ls 8 [(0, .ref (tb_ad g (157))), (1, .long (x)), (3, .int (nI (f))), (4, .long (y)), (6, .int (tb_b (b = true)))] → W p l e (tb_rm 1) s m ([.ref (tb_ad g 157), .long x] : List Value).toArray below meth c H locs 0 0 (MQ below (va_Qi (fun r9 u9 => r9 = sr_X6_put z x ∧ u9 = sz_X6_put z x) (tb_B g) (tb_A g)) ([.ref (tb_ad g 157), .long x] : List Value).toArray s 0 0 (tb_A g)) (F0 m 52 ls [.int vq1]) := by
          intro H locs ls vq1 evq1 hH hl
          subst evq1
          refine tb_top (x2 := tb_b ((b && decide ((¬ (((y &&& ((255 : Int64))).toInt32) < (nI (33))) ∧ (¬ ((nI (126)) < ((y &&& ((255 : Int64))).toInt32)))))) = true)) (tb_b_c (tb_band b)) ?_
          refine lv_istore (lv' := [(6, .int (tb_b ((b && decide ((¬ (((y &&& ((255 : Int64))).toInt32) < (nI (33))) ∧ (¬ ((nI (126)) < ((y &&& ((255 : Int64))).toInt32)))))) = true))), (0, .ref (tb_ad g (157))), (1, .long (x)), (3, .int (nI (f))), (4, .long (y))]) X.1 X.2.1 dX6_put_52 hl (by decide) rfl (fun ls hl => ?_)
          refine lv_lload X.1 X.2.1 dX6_put_54 (lv_at hl 4 rfl) ?_
          refine lv_bipush (v := nI (8)) X.1 X.2.1 dX6_put_56 (by decide +kernel) ?_
          refine lv_lushr X.1 X.2.1 dX6_put_58 (v := tb_ushr y (nI (8))) rfl ?_
          refine lv_lstore (lv' := [(4, .long (tb_ushr y (nI (8)))), (6, .int (tb_b ((b && decide ((¬ (((y &&& ((255 : Int64))).toInt32) < (nI (33))) ∧ (¬ ((nI (126)) < ((y &&& ((255 : Int64))).toInt32)))))) = true))), (0, .ref (tb_ad g (157))), (1, .long (x)), (3, .int (nI (f)))]) X.1 X.2.1 dX6_put_59 hl (by decide) rfl (fun ls hl => ?_)
          refine lv_iinc (v := nI (f + 1)) (lv' := [(3, .int (nI (f + 1))), (4, .long (tb_ushr y (nI (8)))), (6, .int (tb_b ((b && decide ((¬ (((y &&& ((255 : Int64))).toInt32) < (nI (33))) ∧ (¬ ((nI (126)) < ((y &&& ((255 : Int64))).toInt32)))))) = true))), (0, .ref (tb_ad g (157))), (1, .long (x))]) X.1 X.2.1 dX6_put_61 hl (k := 4) rfl (nI_add _ _) (by decide) rfl (fun ls hl => ?_)
          refine lv_goto (tgt := 8) X.1 X.2.1 dX6_put_64 (by decide) ?_
          exact ih_8 (tb_ushr y (nI 8)) (f + 1) (b && decide (¬ (((y &&& (255 : Int64)).toInt32) < nI 33) ∧ (¬ (nI 126 < ((y &&& (255 : Int64)).toInt32))))) (by omega) (by rw [hF, tb_puF, if_neg c_55]) (by rw [hY, tb_puY, if_neg c_55]) (by rw [hB, tb_puB, if_neg c_55]) _ _ _ hH (lv_sub hl [3, 4, 0, 1, 2] rfl)
        refine tb_jbeq (tgt := 51) X dX6_put_27 (by decide) (fun c_56 => ?_) (fun c_56 => ?_)
        · refine lv_iconst (v := nI (0)) X.1 X.2.1 dX6_put_51 (by decide +kernel) ?_
          exact J_1 _ _ _ _ (tb_b_f (fun h => c_56 h.1)).symm hH (lv_sub hl [0, 1, 2, 3, 4] rfl)
        · refine lv_lload X.1 X.2.1 dX6_put_30 (lv_at hl 3 rfl) ?_
          refine lv_ldc2 X.1 X.2.1 X.2.2.2.1 (X.2.2.1 _ wm_593) dX6_put_32 ?_
          refine lv_land X.1 X.2.1 dX6_put_35 ?_
          refine lv_l2i X.1 X.2.1 dX6_put_36 (v := (y &&& ((255 : Int64))).toInt32) rfl ?_
          refine lv_bipush (v := nI (33)) X.1 X.2.1 dX6_put_37 (by decide +kernel) ?_
          refine lv_bipush (v := nI (126)) X.1 X.2.1 dX6_put_39 (by decide +kernel) ?_
          refine tb_cSi X hH hl.1 (c_X6_within l g z ((y &&& ((255 : Int64))).toInt32) (nI (33)) (nI (126))) ky_X6_within.1 ky_X6_within.2 wm_162 rfl rfl (Nat.le_of_ble_eq_true rfl) ⟨by decide, by decide⟩ ⟨by decide, by decide⟩ dX6_put_41 (fun H locs hH => ?_)
          refine tb_jbeq (tgt := 51) X dX6_put_44 (by decide) (fun c_57 => ?_) (fun c_57 => ?_)
          · refine lv_iconst (v := nI (0)) X.1 X.2.1 dX6_put_51 (by decide +kernel) ?_
            exact J_1 _ _ _ _ (tb_b_f (fun h => c_57 h.2)).symm hH (lv_sub hl [0, 1, 2, 3, 4] rfl)
          · refine lv_iconst (v := nI (1)) X.1 X.2.1 dX6_put_47 (by decide +kernel) ?_
            refine lv_goto (tgt := 52) X.1 X.2.1 dX6_put_48 (by decide) ?_
            exact J_1 _ _ _ _ (tb_b_t ⟨c_56, c_57⟩).symm hH (lv_sub hl [0, 1, 2, 3, 4] rfl)
  exact L_8 8 x 0 true rfl rfl rfl rfl _ _ _ hH (lv_sub hl [3, 4, 2, 1, 0] rfl)
