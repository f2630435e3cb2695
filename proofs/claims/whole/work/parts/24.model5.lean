def tb_plM (z : tb_M) : Nat := (z 157 7).toNatClampNeg
def tb_okPM (z : tb_M) : Prop := z 157 7 = nI (tb_plM z) ∧ tb_plM z ≤ 64
def tb_fF (F : Nat → Int32) (t : Int32) : Nat → Nat → Int32
  | 0, _ => t
  | k + 1, i => if F i = (-6) then nI i else tb_fF F t k (i + 1)
def tb_tlM (n : Nat) : Int32 := if n ≤ 0 then nI n else (if n % 2 = 0 then (-6) else nI n)
theorem tb_decP {q : Prop} [Decidable q] : q ↔ decide q = true := decide_eq_true_iff.symm
theorem tb_band {q : Prop} [Decidable q] (b : Bool) : (b = true ∧ q) ↔ (b && decide q) = true := by simp
def tb_nJ (z : tb_M) : Nat → Nat → Bool → Nat
  | 0, i, _ => i
  | k + 1, i, b => if b = true then i else tb_nJ z k (i + 1) (decide (sp_X6_tick (tb_mpZ z i)))
def tb_nB (z : tb_M) : Nat → Nat → Bool → Bool
  | 0, _, b => b
  | k + 1, i, b => if b = true then b else tb_nB z k (i + 1) (decide (sp_X6_tick (tb_mpZ z i)))
def tb_puF : Nat → Int64 → Nat → Nat
  | 0, _, f => f
  | k + 1, y, f => if (y &&& (255 : Int64)) = ((0 : Int64)) then f else tb_puF k (tb_ushr y (nI 8)) (f + 1)
def tb_puY : Nat → Int64 → Int64
  | 0, y => y
  | k + 1, y => if (y &&& (255 : Int64)) = ((0 : Int64)) then y else tb_puY k (tb_ushr y (nI 8))
def tb_puB : Nat → Int64 → Bool → Bool
  | 0, _, b => b
  | k + 1, y, b => if (y &&& (255 : Int64)) = ((0 : Int64)) then b else tb_puB k (tb_ushr y (nI 8)) (b && decide (¬ (((y &&& (255 : Int64)).toInt32) < nI 33) ∧ (¬ (nI 126 < ((y &&& (255 : Int64)).toInt32)))))
theorem tb_puF_le : ∀ (k : Nat) (y : Int64) (f : Nat), tb_puF k y f ≤ f + k
  | 0, _, _ => Nat.le_refl _
  | k + 1, y, f => by
    have ih := tb_puF_le k (tb_ushr y (nI 8)) (f + 1)
    unfold tb_puF
    split <;> omega
def tb_apM (z : tb_M) (x : Int64) (n b : Nat) : Nat → tb_M
  | 0 => z
  | j + 1 => tb_up (tb_up (tb_apM z x n b j) 163 (n + j) (tb_ushr x (nI (8 * (b - 1 - j))) &&& (255 : Int64)).toInt32) 157 7 (nI (n + j + 1))
theorem tb_apM_len (z : tb_M) (x : Int64) {n b : Nat} (h : z 157 7 = nI n) (j : Nat) : tb_apM z x n b j 157 7 = nI (n + j) := by
  cases j with
  | zero => exact h
  | succ j => exact tb_up_s _ _ _ _
def tb_nZ0 (z : tb_M) : tb_M := tb_mv z 158 0 159 0 139
def tb_bk (z : tb_M) : tb_M := tb_mv z 159 0 158 0 139
theorem tb_nZ0_k (z : tb_M) {k : Nat} (h : k ≠ 159) : tb_nZ0 z k = z k := tb_mv_k z h _
theorem tb_nZ0_okM {z : tb_M} {r : Nat} (h : tb_okM z r) : tb_okM (tb_nZ0 z) r := tb_okM_c h (by rw [tb_nZ0_k _ (by decide)])
theorem tb_nZ0_TM {z : tb_M} (h : tb_okTM z) : tb_okTM (tb_nZ0 z) := ⟨(tb_okRn_c h.1 (by rw [tb_nZ0_k _ (by decide)])).1, fun r hr => tb_nZ0_okM (h.2 r hr)⟩
theorem tb_nJ_le (z : tb_M) : ∀ (k i : Nat) (b : Bool), tb_nJ z k i b ≤ i + k
  | 0, _, _ => Nat.le_refl _
  | k + 1, i, b => by
    have ih := tb_nJ_le z k (i + 1) (decide (sp_X6_tick (tb_mpZ z i)))
    unfold tb_nJ
    split <;> omega
def sr_X6_count (z : tb_M) (w : Int32) : Int32 := if w = nI 0 then (z 158 3) else (if w = nI 1 then (z 158 4) else (if w = nI 2 then (z 158 5) else (if w = nI 3 then (z 158 6) else (if w = nI 4 then (z 158 7) else (if w = nI 5 then (z 158 8) else (if w = nI 6 then (z 158 9) else (if w = nI 7 then ((tb_sm (sr_X6_wordOf z 2) 2)) else (if w = nI 8 then (z 158 0) else (if w = nI 9 then (z 158 1) else (if w = nI 10 then (z 158 2) else (if w = nI 11 then (z 157 7) else (if w = nI 12 then (z 157 3) else ((-2))))))))))))))
set_option maxHeartbeats 1000000 in
set_option maxRecDepth 100000 in
theorem c_X6_count (l : Launch) (g : tb_G) (z : tb_M) (w : Int32) : tb_Mi (.int) l yX6_count cX6_count 2 3 g z [.ref (tb_ad g 157), .int w] (sr_X6_count z w) (z) := by
  refine tb_goi (own := RX6) (by decide +kernel) rfl (Nat.le_of_ble_eq_true rfl) ?_
  intro p e s m below meth c ls X hr hlk hH hl
  have hl : lv_has ls 2 [(0, .ref (tb_ad g (157))), (1, .int (w))] := hl
  refine lv_iload_n X.1 X.2.1 dX6_count_0 rfl (lv_at hl 1 rfl) ?_
  by_cases c_1 : w = nI 0
  · refine lv_tableIn (off := 67) (tgt := 68) X.1 X.2.1 dX6_count_1 (by rw [c_1]; decide +kernel) (by rw [c_1]; decide +kernel) (by rw [c_1]; decide +kernel) (by decide) ?_
    refine lv_aload_n X.1 X.2.1 dX6_count_68 rfl (lv_at hl 0 rfl) ?_
    refine tb_get X hH tb_Mc.1 (tb_Mc.2 _ _) rfl inlX6 0 (by decide) wm_99 (v := .ref (tb_ad g (158))) rfl dX6_count_69 ?_
    refine lv_iconst (v := nI (3)) X.1 X.2.1 dX6_count_72 (by decide +kernel) ?_
    refine tb_ald X hH tb_i158 (3) rfl (by decide) (by first | decide | omega) dX6_count_73 ?_
    exact tb_ri X hr hlk hH ⟨(by rw [sr_X6_count]; simp only [if_pos c_1]), rfl⟩ dX6_count_74
  · by_cases c_2 : w = nI 1
    · refine lv_tableIn (off := 74) (tgt := 75) X.1 X.2.1 dX6_count_1 (by rw [c_2]; decide +kernel) (by rw [c_2]; decide +kernel) (by rw [c_2]; decide +kernel) (by decide) ?_
      refine lv_aload_n X.1 X.2.1 dX6_count_75 rfl (lv_at hl 0 rfl) ?_
      refine tb_get X hH tb_Mc.1 (tb_Mc.2 _ _) rfl inlX6 0 (by decide) wm_99 (v := .ref (tb_ad g (158))) rfl dX6_count_76 ?_
      refine lv_iconst (v := nI (4)) X.1 X.2.1 dX6_count_79 (by decide +kernel) ?_
      refine tb_ald X hH tb_i158 (4) rfl (by decide) (by first | decide | omega) dX6_count_80 ?_
      exact tb_ri X hr hlk hH ⟨(by rw [sr_X6_count]; simp only [if_neg c_1, if_pos c_2]), rfl⟩ dX6_count_81
    · by_cases c_3 : w = nI 2
      · refine lv_tableIn (off := 81) (tgt := 82) X.1 X.2.1 dX6_count_1 (by rw [c_3]; decide +kernel) (by rw [c_3]; decide +kernel) (by rw [c_3]; decide +kernel) (by decide) ?_
        refine lv_aload_n X.1 X.2.1 dX6_count_82 rfl (lv_at hl 0 rfl) ?_
        refine tb_get X hH tb_Mc.1 (tb_Mc.2 _ _) rfl inlX6 0 (by decide) wm_99 (v := .ref (tb_ad g (158))) rfl dX6_count_83 ?_
        refine lv_iconst (v := nI (5)) X.1 X.2.1 dX6_count_86 (by decide +kernel) ?_
        refine tb_ald X hH tb_i158 (5) rfl (by decide) (by first | decide | omega) dX6_count_87 ?_
        exact tb_ri X hr hlk hH ⟨(by rw [sr_X6_count]; simp only [if_neg c_1, if_neg c_2, if_pos c_3]), rfl⟩ dX6_count_88
      · by_cases c_4 : w = nI 3
        · refine lv_tableIn (off := 88) (tgt := 89) X.1 X.2.1 dX6_count_1 (by rw [c_4]; decide +kernel) (by rw [c_4]; decide +kernel) (by rw [c_4]; decide +kernel) (by decide) ?_
          refine lv_aload_n X.1 X.2.1 dX6_count_89 rfl (lv_at hl 0 rfl) ?_
          refine tb_get X hH tb_Mc.1 (tb_Mc.2 _ _) rfl inlX6 0 (by decide) wm_99 (v := .ref (tb_ad g (158))) rfl dX6_count_90 ?_
          refine lv_bipush (v := nI (6)) X.1 X.2.1 dX6_count_93 (by decide +kernel) ?_
          refine tb_ald X hH tb_i158 (6) rfl (by decide) (by first | decide | omega) dX6_count_95 ?_
          exact tb_ri X hr hlk hH ⟨(by rw [sr_X6_count]; simp only [if_neg c_1, if_neg c_2, if_neg c_3, if_pos c_4]), rfl⟩ dX6_count_96
        · by_cases c_5 : w = nI 4
          · refine lv_tableIn (off := 96) (tgt := 97) X.1 X.2.1 dX6_count_1 (by rw [c_5]; decide +kernel) (by rw [c_5]; decide +kernel) (by rw [c_5]; decide +kernel) (by decide) ?_
            refine lv_aload_n X.1 X.2.1 dX6_count_97 rfl (lv_at hl 0 rfl) ?_
            refine tb_get X hH tb_Mc.1 (tb_Mc.2 _ _) rfl inlX6 0 (by decide) wm_99 (v := .ref (tb_ad g (158))) rfl dX6_count_98 ?_
            refine lv_bipush (v := nI (7)) X.1 X.2.1 dX6_count_101 (by decide +kernel) ?_
            refine tb_ald X hH tb_i158 (7) rfl (by decide) (by first | decide | omega) dX6_count_103 ?_
            exact tb_ri X hr hlk hH ⟨(by rw [sr_X6_count]; simp only [if_neg c_1, if_neg c_2, if_neg c_3, if_neg c_4, if_pos c_5]), rfl⟩ dX6_count_104
          · by_cases c_6 : w = nI 5
            · refine lv_tableIn (off := 104) (tgt := 105) X.1 X.2.1 dX6_count_1 (by rw [c_6]; decide +kernel) (by rw [c_6]; decide +kernel) (by rw [c_6]; decide +kernel) (by decide) ?_
              refine lv_aload_n X.1 X.2.1 dX6_count_105 rfl (lv_at hl 0 rfl) ?_
              refine tb_get X hH tb_Mc.1 (tb_Mc.2 _ _) rfl inlX6 0 (by decide) wm_99 (v := .ref (tb_ad g (158))) rfl dX6_count_106 ?_
              refine lv_bipush (v := nI (8)) X.1 X.2.1 dX6_count_109 (by decide +kernel) ?_
              refine tb_ald X hH tb_i158 (8) rfl (by decide) (by first | decide | omega) dX6_count_111 ?_
              exact tb_ri X hr hlk hH ⟨(by rw [sr_X6_count]; simp only [if_neg c_1, if_neg c_2, if_neg c_3, if_neg c_4, if_neg c_5, if_pos c_6]), rfl⟩ dX6_count_112
            · by_cases c_7 : w = nI 6
              · refine lv_tableIn (off := 112) (tgt := 113) X.1 X.2.1 dX6_count_1 (by rw [c_7]; decide +kernel) (by rw [c_7]; decide +kernel) (by rw [c_7]; decide +kernel) (by decide) ?_
                refine lv_aload_n X.1 X.2.1 dX6_count_113 rfl (lv_at hl 0 rfl) ?_
                refine tb_get X hH tb_Mc.1 (tb_Mc.2 _ _) rfl inlX6 0 (by decide) wm_99 (v := .ref (tb_ad g (158))) rfl dX6_count_114 ?_
                refine lv_bipush (v := nI (9)) X.1 X.2.1 dX6_count_117 (by decide +kernel) ?_
                refine tb_ald X hH tb_i158 (9) rfl (by decide) (by first | decide | omega) dX6_count_119 ?_
                exact tb_ri X hr hlk hH ⟨(by rw [sr_X6_count]; simp only [if_neg c_1, if_neg c_2, if_neg c_3, if_neg c_4, if_neg c_5, if_neg c_6, if_pos c_7]), rfl⟩ dX6_count_120
              · by_cases c_8 : w = nI 7
                · refine lv_tableIn (off := 120) (tgt := 121) X.1 X.2.1 dX6_count_1 (by rw [c_8]; decide +kernel) (by rw [c_8]; decide +kernel) (by rw [c_8]; decide +kernel) (by decide) ?_
                  refine lv_aload_n X.1 X.2.1 dX6_count_121 rfl (lv_at hl 0 rfl) ?_
                  refine lv_iconst (v := nI (2)) X.1 X.2.1 dX6_count_122 (by decide +kernel) ?_
                  refine tb_cVi X hH hl.1 (c_X6_sumOf_g l g z) ky_X6_sumOf.1 ky_X6_sumOf.2 wm_326 tb_oM rfl rfl (Nat.le_of_ble_eq_true rfl) ⟨by decide, by decide⟩ ⟨by decide, by decide⟩ dX6_count_123 (fun H locs hH => ?_)
                  exact tb_ri X hr hlk hH ⟨(by rw [sr_X6_count]; simp only [if_neg c_1, if_neg c_2, if_neg c_3, if_neg c_4, if_neg c_5, if_neg c_6, if_neg c_7, if_pos c_8]), rfl⟩ dX6_count_126
                · by_cases c_9 : w = nI 8
                  · refine lv_tableIn (off := 126) (tgt := 127) X.1 X.2.1 dX6_count_1 (by rw [c_9]; decide +kernel) (by rw [c_9]; decide +kernel) (by rw [c_9]; decide +kernel) (by decide) ?_
                    refine lv_aload_n X.1 X.2.1 dX6_count_127 rfl (lv_at hl 0 rfl) ?_
                    refine tb_get X hH tb_Mc.1 (tb_Mc.2 _ _) rfl inlX6 0 (by decide) wm_99 (v := .ref (tb_ad g (158))) rfl dX6_count_128 ?_
                    refine lv_iload_n X.1 X.2.1 dX6_count_131 rfl (lv_at hl 1 rfl) ?_
                    refine tb_top (x2 := nI (8)) c_9 ?_
                    refine lv_bipush (v := nI (8)) X.1 X.2.1 dX6_count_132 (by decide +kernel) ?_
                    refine tb_isubN X (by decide) dX6_count_134 ?_
                    refine tb_top (x2 := nI 0) rfl ?_
                    refine tb_ald X hH tb_i158 (0) rfl (by decide) (by first | decide | omega) dX6_count_135 ?_
                    exact tb_ri X hr hlk hH ⟨(by rw [sr_X6_count]; simp only [if_neg c_1, if_neg c_2, if_neg c_3, if_neg c_4, if_neg c_5, if_neg c_6, if_neg c_7, if_neg c_8, if_pos c_9]), rfl⟩ dX6_count_136
                  · by_cases c_10 : w = nI 9
                    · refine lv_tableIn (off := 126) (tgt := 127) X.1 X.2.1 dX6_count_1 (by rw [c_10]; decide +kernel) (by rw [c_10]; decide +kernel) (by rw [c_10]; decide +kernel) (by decide) ?_
                      refine lv_aload_n X.1 X.2.1 dX6_count_127 rfl (lv_at hl 0 rfl) ?_
                      refine tb_get X hH tb_Mc.1 (tb_Mc.2 _ _) rfl inlX6 0 (by decide) wm_99 (v := .ref (tb_ad g (158))) rfl dX6_count_128 ?_
                      refine lv_iload_n X.1 X.2.1 dX6_count_131 rfl (lv_at hl 1 rfl) ?_
                      refine tb_top (x2 := nI (9)) c_10 ?_
                      refine lv_bipush (v := nI (8)) X.1 X.2.1 dX6_count_132 (by decide +kernel) ?_
                      refine tb_isubN X (by decide) dX6_count_134 ?_
                      refine tb_top (x2 := nI 1) rfl ?_
                      refine tb_ald X hH tb_i158 (1) rfl (by decide) (by first | decide | omega) dX6_count_135 ?_
                      exact tb_ri X hr hlk hH ⟨(by rw [sr_X6_count]; simp only [if_neg c_1, if_neg c_2, if_neg c_3, if_neg c_4, if_neg c_5, if_neg c_6, if_neg c_7, if_neg c_8, if_neg c_9, if_pos c_10]), rfl⟩ dX6_count_136
                    · by_cases c_11 : w = nI 10
                      · refine lv_tableIn (off := 126) (tgt := 127) X.1 X.2.1 dX6_count_1 (by rw [c_11]; decide +kernel) (by rw [c_11]; decide +kernel) (by rw [c_11]; decide +kernel) (by decide) ?_
                        refine lv_aload_n X.1 X.2.1 dX6_count_127 rfl (lv_at hl 0 rfl) ?_
                        refine tb_get X hH tb_Mc.1 (tb_Mc.2 _ _) rfl inlX6 0 (by decide) wm_99 (v := .ref (tb_ad g (158))) rfl dX6_count_128 ?_
                        refine lv_iload_n X.1 X.2.1 dX6_count_131 rfl (lv_at hl 1 rfl) ?_
                        refine tb_top (x2 := nI (10)) c_11 ?_
                        refine lv_bipush (v := nI (8)) X.1 X.2.1 dX6_count_132 (by decide +kernel) ?_
                        refine tb_isubN X (by decide) dX6_count_134 ?_
                        refine tb_top (x2 := nI 2) rfl ?_
                        refine tb_ald X hH tb_i158 (2) rfl (by decide) (by first | decide | omega) dX6_count_135 ?_
                        exact tb_ri X hr hlk hH ⟨(by rw [sr_X6_count]; simp only [if_neg c_1, if_neg c_2, if_neg c_3, if_neg c_4, if_neg c_5, if_neg c_6, if_neg c_7, if_neg c_8, if_neg c_9, if_neg c_10, if_pos c_11]), rfl⟩ dX6_count_136
                      · by_cases c_12 : w = nI 11
                        · refine lv_tableIn (off := 136) (tgt := 137) X.1 X.2.1 dX6_count_1 (by rw [c_12]; decide +kernel) (by rw [c_12]; decide +kernel) (by rw [c_12]; decide +kernel) (by decide) ?_
                          refine lv_aload_n X.1 X.2.1 dX6_count_137 rfl (lv_at hl 0 rfl) ?_
                          refine tb_get X hH tb_Mc.1 (tb_Mc.2 _ _) rfl inlX6 7 (by decide) wm_297 (v := .int (z 157 7)) rfl dX6_count_138 ?_
                          exact tb_ri X hr hlk hH ⟨(by rw [sr_X6_count]; simp only [if_neg c_1, if_neg c_2, if_neg c_3, if_neg c_4, if_neg c_5, if_neg c_6, if_neg c_7, if_neg c_8, if_neg c_9, if_neg c_10, if_neg c_11, if_pos c_12]), rfl⟩ dX6_count_141
                        · by_cases c_13 : w = nI 12
                          · refine lv_tableIn (off := 141) (tgt := 142) X.1 X.2.1 dX6_count_1 (by rw [c_13]; decide +kernel) (by rw [c_13]; decide +kernel) (by rw [c_13]; decide +kernel) (by decide) ?_
                            refine lv_aload_n X.1 X.2.1 dX6_count_142 rfl (lv_at hl 0 rfl) ?_
                            refine tb_get X hH tb_Mc.1 (tb_Mc.2 _ _) rfl inlX6 3 (by decide) wm_169 (v := .int (z 157 3)) rfl dX6_count_143 ?_
                            exact tb_ri X hr hlk hH ⟨(by rw [sr_X6_count]; simp only [if_neg c_1, if_neg c_2, if_neg c_3, if_neg c_4, if_neg c_5, if_neg c_6, if_neg c_7, if_neg c_8, if_neg c_9, if_neg c_10, if_neg c_11, if_neg c_12, if_pos c_13]), rfl⟩ dX6_count_146
                          · refine lv_tableOut (tgt := 147) X.1 X.2.1 dX6_count_1 (tb_out12 c_1 c_2 c_3 c_4 c_5 c_6 c_7 c_8 c_9 c_10 c_11 c_12 c_13) (by decide) ?_
                            refine lv_bipush (v := (-2)) X.1 X.2.1 dX6_count_147 (by decide +kernel) ?_
                            exact tb_ri X hr hlk hH ⟨(by rw [sr_X6_count]; simp only [if_neg c_1, if_neg c_2, if_neg c_3, if_neg c_4, if_neg c_5, if_neg c_6, if_neg c_7, if_neg c_8, if_neg c_9, if_neg c_10, if_neg c_11, if_neg c_12, if_neg c_13]), rfl⟩ dX6_count_149
def sr_X6_digitOf (x : Int32) : Int32 := if (¬ (x < (nI (48))) ∧ (¬ ((nI (57)) < x))) then (x - (nI (48))) else (if (¬ (x < (nI (97))) ∧ (¬ ((nI (102)) < x))) then ((x - (nI (97))) + (nI (10))) else ((-6)))
set_option maxHeartbeats 1000000 in
set_option maxRecDepth 100000 in
theorem c_X6_digitOf (l : Launch) (g : tb_G) (z : tb_M) (x : Int32) : tb_Mi (.int) l yX6_digitOf cX6_digitOf 1 1 g z [.int x] (sr_X6_digitOf x) (z) := by
  refine tb_goi (own := RX6) (by decide +kernel) rfl (Nat.le_of_ble_eq_true rfl) ?_
  intro p e s m below meth c ls X hr hlk hH hl
  have hl : lv_has ls 1 [(0, .int (x))] := hl
  refine lv_iload_n X.1 X.2.1 dX6_digitOf_0 rfl (lv_at hl 0 rfl) ?_
  refine lv_bipush (v := nI (48)) X.1 X.2.1 dX6_digitOf_1 (by decide +kernel) ?_
  refine lv_bipush (v := nI (57)) X.1 X.2.1 dX6_digitOf_3 (by decide +kernel) ?_
  refine tb_cSi X hH hl.1 (c_X6_within l g z x (nI (48)) (nI (57))) ky_X6_within.1 ky_X6_within.2 wm_162 rfl rfl (Nat.le_of_ble_eq_true rfl) ⟨by decide, by decide⟩ ⟨by decide, by decide⟩ dX6_digitOf_5 (fun H locs hH => ?_)
  have J_1 : ∀ (H : Heap) (locs : List Loc) (ls : Array Slot) (vq1 : Int32), vq1 = (if (¬ (x < (nI (48))) ∧ (¬ ((nI (57)) < x))) then (x - (nI (48))) else (if (¬ (x < (nI (97))) ∧ (¬ ((nI (102)) < x))) then ((x - (nI (97))) + (nI (10))) else ((-6)))) → tb_H g s.heap z H locs → lv_has ls 1 [(0, .int (x))] → W p l e (tb_rm 1) s m ([.int x] : List Value).toArray below meth c H locs 0 0 (MQ below (va_Qi (fun r9 u9 => r9 = sr_X6_digitOf x ∧ u9 = z) (tb_B g) (tb_A g)) ([.int x] : List Value).toArray s 0 0 (tb_A g)) (F0 m 41 ls [.int vq1]) := by
    intro H locs ls vq1 evq1 hH hl
    subst evq1
    exact tb_ri X hr hlk hH ⟨(by rw [sr_X6_digitOf]), rfl⟩ dX6_digitOf_41
  refine tb_jbeq (tgt := 18) X dX6_digitOf_8 (by decide) (fun c_1 => ?_) (fun c_1 => ?_)
  · refine lv_iload_n X.1 X.2.1 dX6_digitOf_18 rfl (lv_at hl 0 rfl) ?_
    refine lv_bipush (v := nI (97)) X.1 X.2.1 dX6_digitOf_19 (by decide +kernel) ?_
    refine lv_bipush (v := nI (102)) X.1 X.2.1 dX6_digitOf_21 (by decide +kernel) ?_
    refine tb_cSi X hH hl.1 (c_X6_within l g z x (nI (97)) (nI (102))) ky_X6_within.1 ky_X6_within.2 wm_162 rfl rfl (Nat.le_of_ble_eq_true rfl) ⟨by decide, by decide⟩ ⟨by decide, by decide⟩ dX6_digitOf_23 (fun H locs hH => ?_)
    refine tb_jbeq (tgt := 39) X dX6_digitOf_26 (by decide) (fun c_2 => ?_) (fun c_2 => ?_)
    · refine lv_bipush (v := (-6)) X.1 X.2.1 dX6_digitOf_39 (by decide +kernel) ?_
      exact J_1 _ _ _ _ (by simp only [if_neg c_1, if_neg c_2]) hH (lv_sub hl [0] rfl)
    · refine lv_iload_n X.1 X.2.1 dX6_digitOf_29 rfl (lv_at hl 0 rfl) ?_
      refine lv_bipush (v := nI (97)) X.1 X.2.1 dX6_digitOf_30 (by decide +kernel) ?_
      refine lv_isub X.1 X.2.1 dX6_digitOf_32 ?_
      refine lv_bipush (v := nI (10)) X.1 X.2.1 dX6_digitOf_33 (by decide +kernel) ?_
      refine lv_iadd X.1 X.2.1 dX6_digitOf_35 ?_
      refine lv_goto (tgt := 41) X.1 X.2.1 dX6_digitOf_36 (by decide) ?_
      exact J_1 _ _ _ _ (by simp only [if_neg c_1, if_pos c_2]) hH (lv_sub hl [0] rfl)
  · refine lv_iload_n X.1 X.2.1 dX6_digitOf_11 rfl (lv_at hl 0 rfl) ?_
    refine lv_bipush (v := nI (48)) X.1 X.2.1 dX6_digitOf_12 (by decide +kernel) ?_
    refine lv_isub X.1 X.2.1 dX6_digitOf_14 ?_
    refine lv_goto (tgt := 41) X.1 X.2.1 dX6_digitOf_15 (by decide) ?_
    exact J_1 _ _ _ _ (by simp only [if_pos c_1]) hH (lv_sub hl [0] rfl)
def sr_X6_padWord (z : tb_M) (k : Nat) : Int32 := ((nI (16)) * ((sr_X6_digitOf (z 163 (2 * k))))) + ((sr_X6_digitOf (z 163 ((2 * k) + 1))))
set_option maxHeartbeats 1000000 in
set_option maxRecDepth 100000 in
theorem c_X6_padWord (l : Launch) (g : tb_G) (z : tb_M) (k : Nat) (hk : k < 32) : tb_Mi (.int) l yX6_padWord cX6_padWord 2 2 g z [.ref (tb_ad g 157), .int (nI k)] (sr_X6_padWord z k) (z) := by
  refine tb_goi (own := RX6) (by decide +kernel) rfl (Nat.le_of_ble_eq_true rfl) ?_
  intro p e s m below meth c ls X hr hlk hH hl
  have hl : lv_has ls 2 [(0, .ref (tb_ad g (157))), (1, .int (nI (k)))] := hl
  refine lv_bipush (v := nI (16)) X.1 X.2.1 dX6_padWord_0 (by decide +kernel) ?_
  refine lv_aload_n X.1 X.2.1 dX6_padWord_2 rfl (lv_at hl 0 rfl) ?_
  refine tb_get X hH tb_Mc.1 (tb_Mc.2 _ _) rfl inlX6 6 (by decide) wm_104 (v := .ref (tb_ad g (163))) rfl dX6_padWord_3 ?_
  refine lv_iconst (v := nI (2)) X.1 X.2.1 dX6_padWord_6 (by decide +kernel) ?_
  refine lv_iload_n X.1 X.2.1 dX6_padWord_7 rfl (lv_at hl 1 rfl) ?_
  refine tb_imulN X dX6_padWord_8 ?_
  refine tb_ald X hH tb_i163 (2 * k) rfl (by omega) (by first | decide | omega) dX6_padWord_9 ?_
  refine tb_cSi X hH hl.1 (c_X6_digitOf l g z (z 163 (2 * k))) ky_X6_digitOf.1 ky_X6_digitOf.2 wm_302 rfl rfl (Nat.le_of_ble_eq_true rfl) ⟨by decide, by decide⟩ ⟨by decide, by decide⟩ dX6_padWord_10 (fun H locs hH => ?_)
  refine lv_imul X.1 X.2.1 dX6_padWord_13 ?_
  refine lv_aload_n X.1 X.2.1 dX6_padWord_14 rfl (lv_at hl 0 rfl) ?_
  refine tb_get X hH tb_Mc.1 (tb_Mc.2 _ _) rfl inlX6 6 (by decide) wm_104 (v := .ref (tb_ad g (163))) rfl dX6_padWord_15 ?_
  refine lv_iconst (v := nI (2)) X.1 X.2.1 dX6_padWord_18 (by decide +kernel) ?_
  refine lv_iload_n X.1 X.2.1 dX6_padWord_19 rfl (lv_at hl 1 rfl) ?_
  refine tb_imulN X dX6_padWord_20 ?_
  refine lv_iconst (v := nI (1)) X.1 X.2.1 dX6_padWord_21 (by decide +kernel) ?_
  refine tb_iaddN X dX6_padWord_22 ?_
  refine tb_ald X hH tb_i163 ((2 * k) + 1) rfl (by omega) (by first | decide | omega) dX6_padWord_23 ?_
  refine tb_cSi X hH hl.1 (c_X6_digitOf l g z (z 163 ((2 * k) + 1))) ky_X6_digitOf.1 ky_X6_digitOf.2 wm_302 rfl rfl (Nat.le_of_ble_eq_true rfl) ⟨by decide, by decide⟩ ⟨by decide, by decide⟩ dX6_padWord_24 (fun H locs hH => ?_)
  refine lv_iadd X.1 X.2.1 dX6_padWord_27 ?_
  exact tb_ri X hr hlk hH ⟨(by rw [sr_X6_padWord]), rfl⟩ dX6_padWord_28
set_option maxHeartbeats 1000000 in
set_option maxRecDepth 100000 in
theorem c_X6_findFault (l : Launch) (g : tb_G) (z : tb_M) (n : Nat) (hn : z 157 7 = nI n) (hn2 : n ≤ 64) : tb_Mi (.int) l yX6_findFault cX6_findFault 2 2 g z [.ref (tb_ad g 157)] (tb_fF (fun i => sr_X6_digitOf (z 163 i)) (tb_tlM n) n 0) (z) := by
  refine tb_goi (own := RX6) (by decide +kernel) rfl (Nat.le_of_ble_eq_true rfl) ?_
  intro p e s m below meth c ls X hr hlk hH hl
  have hl : lv_has ls 2 [(0, .ref (tb_ad g (157)))] := hl
  refine lv_iconst (v := nI (0)) X.1 X.2.1 dX6_findFault_0 (by decide +kernel) ?_
  refine lv_istore_n (lv' := [(1, .int (nI (0))), (0, .ref (tb_ad g (157)))]) X.1 X.2.1 dX6_findFault_1 rfl hl (by decide) rfl (fun ls hl => ?_)
  have L_2 : ∀ (k : Nat) (i : Nat), i + k = n → tb_fF (fun i => sr_X6_digitOf (z 163 i)) (tb_tlM n) n 0 = tb_fF (fun i => sr_X6_digitOf (z 163 i)) (tb_tlM n) k i → ∀ (H : Heap) (locs : List Loc) (ls : Array Slot), tb_H g s.heap (z) H locs → lv_has ls 2 [(0, .ref (tb_ad g (157))), (1, .int (nI (i)))] → W p l e (tb_rm 2) s m ([.ref (tb_ad g 157)] : List Value).toArray below meth c H locs 0 0 (MQ below (va_Qi (fun r9 u9 => r9 = tb_fF (fun i => sr_X6_digitOf (z 163 i)) (tb_tlM n) n 0 ∧ u9 = z) (tb_B g) (tb_A g)) ([.ref (tb_ad g 157)] : List Value).toArray s 0 0 (tb_A g)) (F0 m 2 ls []) := by
    intro k
    induction k with
    | zero =>
      intro i hik hR H locs ls hH hl
      refine lv_iload_n X.1 X.2.1 dX6_findFault_2 rfl (lv_at hl 1 rfl) ?_
      refine lv_aload_n X.1 X.2.1 dX6_findFault_3 rfl (lv_at hl 0 rfl) ?_
      refine tb_get X hH tb_Mc.1 (tb_Mc.2 _ _) rfl inlX6 7 (by decide) wm_297 (v := .int (z 157 7)) rfl dX6_findFault_4 ?_
      refine tb_top (x2 := nI (n)) (hn) ?_
      refine tb_nge (tgt := 32) X (by omega) (by omega) dX6_findFault_7 (by decide) (fun _ => ?_) (fun c => ((by omega) : False).elim)
      refine lv_aload_n X.1 X.2.1 dX6_findFault_32 rfl (lv_at hl 0 rfl) ?_
      refine tb_get X hH tb_Mc.1 (tb_Mc.2 _ _) rfl inlX6 7 (by decide) wm_297 (v := .int (z 157 7)) rfl dX6_findFault_33 ?_
      refine tb_top (x2 := nI (n)) (hn) ?_
      have J_1 : ∀ (H : Heap) (locs : List Loc) (ls : Array Slot) (vq1 : Int32), vq1 = (if n ≤ 0 then (nI (n)) else (if (n % 2) = 0 then ((-6)) else (nI (n)))) → tb_H g s.heap z H locs → lv_has ls 2 [(0, .ref (tb_ad g (157))), (1, .int (nI (i)))] → W p l e (tb_rm 2) s m ([.ref (tb_ad g 157)] : List Value).toArray below meth c H locs 0 0 (MQ below (va_Qi (fun r9 u9 => r9 = tb_fF (fun i => sr_X6_digitOf (z 163 i)) (tb_tlM n) n 0 ∧ u9 = z) (tb_B g) (tb_A g)) ([.ref (tb_ad g 157)] : List Value).toArray s 0 0 (tb_A g)) (F0 m 57 ls [.int vq1]) := by
        intro H locs ls vq1 evq1 hH hl
        subst evq1
        exact tb_ri X hr hlk hH ⟨(by rw [hR, tb_fF, tb_tlM]), rfl⟩ dX6_findFault_57
      refine tb_zle (tgt := 53) X (by omega) dX6_findFault_36 (by decide) (fun c_1 => ?_) (fun c_1 => ?_)
      · refine lv_aload_n X.1 X.2.1 dX6_findFault_53 rfl (lv_at hl 0 rfl) ?_
        refine tb_get X hH tb_Mc.1 (tb_Mc.2 _ _) rfl inlX6 7 (by decide) wm_297 (v := .int (z 157 7)) rfl dX6_findFault_54 ?_
        refine tb_top (x2 := nI (n)) (hn) ?_
        exact J_1 _ _ _ _ (by simp only [if_pos c_1]) hH (lv_sub hl [0, 1] rfl)
      · refine lv_aload_n X.1 X.2.1 dX6_findFault_39 rfl (lv_at hl 0 rfl) ?_
        refine tb_get X hH tb_Mc.1 (tb_Mc.2 _ _) rfl inlX6 7 (by decide) wm_297 (v := .int (z 157 7)) rfl dX6_findFault_40 ?_
        refine tb_top (x2 := nI (n)) (hn) ?_
        refine lv_iconst (v := nI (2)) X.1 X.2.1 dX6_findFault_43 (by decide +kernel) ?_
        refine lv_irem X.1 X.2.1 dX6_findFault_44 (by decide +kernel) ?_
        refine tb_top (x2 := nI (n % 2)) (pk_rem (by omega) (by decide) (by decide)) ?_
        refine tb_zne (tgt := 53) X (by omega) dX6_findFault_45 (by decide) (fun c_2 => ?_) (fun c_2 => ?_)
        · refine lv_aload_n X.1 X.2.1 dX6_findFault_53 rfl (lv_at hl 0 rfl) ?_
          refine tb_get X hH tb_Mc.1 (tb_Mc.2 _ _) rfl inlX6 7 (by decide) wm_297 (v := .int (z 157 7)) rfl dX6_findFault_54 ?_
          refine tb_top (x2 := nI (n)) (hn) ?_
          exact J_1 _ _ _ _ (by simp only [if_neg c_1, if_neg c_2]) hH (lv_sub hl [0, 1] rfl)
        · refine lv_bipush (v := (-6)) X.1 X.2.1 dX6_findFault_48 (by decide +kernel) ?_
          refine lv_goto (tgt := 57) X.1 X.2.1 dX6_findFault_50 (by decide) ?_
          exact J_1 _ _ _ _ (by simp only [if_neg c_1, if_pos c_2]) hH (lv_sub hl [0, 1] rfl)
    | succ k ih_2 =>
      intro i hik hR H locs ls hH hl
      refine lv_iload_n X.1 X.2.1 dX6_findFault_2 rfl (lv_at hl 1 rfl) ?_
      refine lv_aload_n X.1 X.2.1 dX6_findFault_3 rfl (lv_at hl 0 rfl) ?_
      refine tb_get X hH tb_Mc.1 (tb_Mc.2 _ _) rfl inlX6 7 (by decide) wm_297 (v := .int (z 157 7)) rfl dX6_findFault_4 ?_
      refine tb_top (x2 := nI (n)) (hn) ?_
      refine tb_nge (tgt := 32) X (by omega) (by omega) dX6_findFault_7 (by decide) (fun c => ((by omega) : False).elim) (fun _ => ?_)
      refine lv_aload_n X.1 X.2.1 dX6_findFault_10 rfl (lv_at hl 0 rfl) ?_
      refine tb_get X hH tb_Mc.1 (tb_Mc.2 _ _) rfl inlX6 6 (by decide) wm_104 (v := .ref (tb_ad g (163))) rfl dX6_findFault_11 ?_
      refine lv_iload_n X.1 X.2.1 dX6_findFault_14 rfl (lv_at hl 1 rfl) ?_
      refine tb_ald X hH tb_i163 (i) rfl (by omega) (by first | decide | omega) dX6_findFault_15 ?_
      refine tb_cSi X hH hl.1 (c_X6_digitOf l g z (z 163 i)) ky_X6_digitOf.1 ky_X6_digitOf.2 wm_302 rfl rfl (Nat.le_of_ble_eq_true rfl) ⟨by decide, by decide⟩ ⟨by decide, by decide⟩ dX6_findFault_16 (fun H locs hH => ?_)
      refine lv_bipush (v := (-6)) X.1 X.2.1 dX6_findFault_19 (by decide +kernel) ?_
      refine lv_icmp_ne (tgt := 26) X.1 X.2.1 dX6_findFault_21 (by decide) (fun c_3 => ?_) (fun c_3 => ?_)
      · refine lv_iinc (v := nI (i + 1)) (lv' := [(1, .int (nI (i + 1))), (0, .ref (tb_ad g (157)))]) X.1 X.2.1 dX6_findFault_26 hl (k := 1) rfl (nI_add _ _) (by decide) rfl (fun ls hl => ?_)
        refine lv_goto (tgt := 2) X.1 X.2.1 dX6_findFault_29 (by decide) ?_
        exact ih_2 (i + 1) (by omega) (by rw [hR, tb_fF, if_neg c_3]) _ _ _ hH (lv_sub hl [1, 0] rfl)
      · refine lv_iload_n X.1 X.2.1 dX6_findFault_24 rfl (lv_at hl 1 rfl) ?_
        exact tb_ri X hr hlk hH ⟨(by rw [hR, tb_fF, if_pos c_3]), rfl⟩ dX6_findFault_25
  exact L_2 n 0 (by omega) rfl _ _ _ hH (lv_sub hl [1, 0] rfl)
def sr_X6_fault (z : tb_M)  : Int32 := (tb_fF (fun i => sr_X6_digitOf (z 163 i)) (tb_tlM (tb_plM z)) (tb_plM z) 0)
set_option maxHeartbeats 1000000 in
set_option maxRecDepth 100000 in
theorem c_X6_fault (l : Launch) (g : tb_G) (z : tb_M) (hP : tb_okPM z) : tb_Mi (.int) l yX6_fault cX6_fault 1 3 g z [.ref (tb_ad g 157)] (sr_X6_fault z ) (z) := by
  refine tb_goi (own := RX6) (by decide +kernel) rfl (Nat.le_of_ble_eq_true rfl) ?_
  intro p e s m below meth c ls X hr hlk hH hl
  have hl : lv_has ls 1 [(0, .ref (tb_ad g (157)))] := hl
  refine lv_aload_n X.1 X.2.1 dX6_fault_0 rfl (lv_at hl 0 rfl) ?_
  refine tb_cVi X hH hl.1 (c_X6_findFault l g z (tb_plM z) hP.1 hP.2) ky_X6_findFault.1 ky_X6_findFault.2 wm_298 tb_oM rfl rfl (Nat.le_of_ble_eq_true rfl) ⟨by decide, by decide⟩ ⟨by decide, by decide⟩ dX6_fault_1 (fun H locs hH => ?_)
  exact tb_ri X hr hlk hH ⟨(by rw [sr_X6_fault]), rfl⟩ dX6_fault_4
def sr_X6_padSum (z : tb_M)  : Int32 := if ((tb_fF (fun i => sr_X6_digitOf (z 163 i)) (tb_tlM (tb_plM z)) (tb_plM z) 0)) = ((-6)) then (tb_sm (sr_X6_padWord z) (tb_plM z / 2)) else ((-3))
set_option maxHeartbeats 1000000 in
set_option maxRecDepth 100000 in
theorem c_X6_padSum (l : Launch) (g : tb_G) (z : tb_M) (hP : tb_okPM z) : tb_Mi (.int) l yX6_padSum cX6_padSum 3 3 g z [.ref (tb_ad g 157)] (sr_X6_padSum z ) (z) := by
  refine tb_goi (own := RX6) (by decide +kernel) rfl (Nat.le_of_ble_eq_true rfl) ?_
  intro p e s m below meth c ls X hr hlk hH hl
  have hl : lv_has ls 3 [(0, .ref (tb_ad g (157)))] := hl
  have hP2 := hP.2
  refine lv_aload_n X.1 X.2.1 dX6_padSum_0 rfl (lv_at hl 0 rfl) ?_
  refine tb_cVi X hH hl.1 (c_X6_findFault l g z (tb_plM z) hP.1 hP.2) ky_X6_findFault.1 ky_X6_findFault.2 wm_298 tb_oM rfl rfl (Nat.le_of_ble_eq_true rfl) ⟨by decide, by decide⟩ ⟨by decide, by decide⟩ dX6_padSum_1 (fun H locs hH => ?_)
  refine lv_bipush (v := (-6)) X.1 X.2.1 dX6_padSum_4 (by decide +kernel) ?_
  refine lv_icmp_eq (tgt := 12) X.1 X.2.1 dX6_padSum_6 (by decide) (fun c_1 => ?_) (fun c_1 => ?_)
  · refine lv_iconst (v := nI (1)) X.1 X.2.1 dX6_padSum_12 (by decide +kernel) ?_
    refine lv_istore_n (lv' := [(1, .int (nI (1))), (0, .ref (tb_ad g (157)))]) X.1 X.2.1 dX6_padSum_13 rfl hl (by decide) rfl (fun ls hl => ?_)
    refine lv_iconst (v := nI (0)) X.1 X.2.1 dX6_padSum_14 (by decide +kernel) ?_
    refine lv_istore_n (lv' := [(2, .int (nI (0))), (1, .int (nI (1))), (0, .ref (tb_ad g (157)))]) X.1 X.2.1 dX6_padSum_15 rfl hl (by decide) rfl (fun ls hl => ?_)
    have L_16 : ∀ (k : Nat) (i : Nat), i + k = tb_plM z / 2 → ∀ (H : Heap) (locs : List Loc) (ls : Array Slot), tb_H g s.heap (z) H locs → lv_has ls 3 [(0, .ref (tb_ad g (157))), (1, .int (tb_sm (sr_X6_padWord z) i)), (2, .int (nI (i)))] → W p l e (tb_rm 3) s m ([.ref (tb_ad g 157)] : List Value).toArray below meth c H locs 0 0 (MQ below (va_Qi (fun r9 u9 => r9 = sr_X6_padSum z  ∧ u9 = z) (tb_B g) (tb_A g)) ([.ref (tb_ad g 157)] : List Value).toArray s 0 0 (tb_A g)) (F0 m 16 ls []) := by
      intro k
      induction k with
      | zero =>
        intro i hik H locs ls hH hl
        obtain rfl : i = tb_plM z / 2 := by omega
        refine lv_iload_n X.1 X.2.1 dX6_padSum_16 rfl (lv_at hl 2 rfl) ?_
        refine lv_aload_n X.1 X.2.1 dX6_padSum_17 rfl (lv_at hl 0 rfl) ?_
        refine tb_get X hH tb_Mc.1 (tb_Mc.2 _ _) rfl inlX6 7 (by decide) wm_297 (v := .int (z 157 7)) rfl dX6_padSum_18 ?_
        refine tb_top (x2 := nI (tb_plM z)) (hP.1) ?_
        refine lv_iconst (v := nI (2)) X.1 X.2.1 dX6_padSum_21 (by decide +kernel) ?_
        refine lv_idiv X.1 X.2.1 dX6_padSum_22 (by decide +kernel) ?_
        refine tb_top (x2 := nI (tb_plM z / 2)) (pk_div (by omega) (by decide) (by decide)) ?_
        refine tb_nge (tgt := 46) X (by omega) (by omega) dX6_padSum_23 (by decide) (fun _ => ?_) (fun c => ((by omega) : False).elim)
        refine lv_iload_n X.1 X.2.1 dX6_padSum_46 rfl (lv_at hl 1 rfl) ?_
        exact tb_ri X hr hlk hH ⟨(by rw [sr_X6_padSum]; simp only [if_pos c_1]), rfl⟩ dX6_padSum_47
      | succ k ih_16 =>
        intro i hik H locs ls hH hl
        refine lv_iload_n X.1 X.2.1 dX6_padSum_16 rfl (lv_at hl 2 rfl) ?_
        refine lv_aload_n X.1 X.2.1 dX6_padSum_17 rfl (lv_at hl 0 rfl) ?_
        refine tb_get X hH tb_Mc.1 (tb_Mc.2 _ _) rfl inlX6 7 (by decide) wm_297 (v := .int (z 157 7)) rfl dX6_padSum_18 ?_
        refine tb_top (x2 := nI (tb_plM z)) (hP.1) ?_
        refine lv_iconst (v := nI (2)) X.1 X.2.1 dX6_padSum_21 (by decide +kernel) ?_
        refine lv_idiv X.1 X.2.1 dX6_padSum_22 (by decide +kernel) ?_
        refine tb_top (x2 := nI (tb_plM z / 2)) (pk_div (by omega) (by decide) (by decide)) ?_
        refine tb_nge (tgt := 46) X (by omega) (by omega) dX6_padSum_23 (by decide) (fun c => ((by omega) : False).elim) (fun _ => ?_)
        refine lv_iconst (v := nI (3)) X.1 X.2.1 dX6_padSum_26 (by decide +kernel) ?_
        refine lv_iload_n X.1 X.2.1 dX6_padSum_27 rfl (lv_at hl 1 rfl) ?_
        refine lv_imul X.1 X.2.1 dX6_padSum_28 ?_
        refine lv_aload_n X.1 X.2.1 dX6_padSum_29 rfl (lv_at hl 0 rfl) ?_
        refine lv_iload_n X.1 X.2.1 dX6_padSum_30 rfl (lv_at hl 2 rfl) ?_
        refine tb_cVi X hH hl.1 (c_X6_padWord l g z i (by omega)) ky_X6_padWord.1 ky_X6_padWord.2 wm_305 tb_oM rfl rfl (Nat.le_of_ble_eq_true rfl) ⟨by decide, by decide⟩ ⟨by decide, by decide⟩ dX6_padSum_31 (fun H locs hH => ?_)
        refine lv_iadd X.1 X.2.1 dX6_padSum_34 ?_
        refine lv_sipush (v := nI (251)) X.1 X.2.1 dX6_padSum_35 (by decide +kernel) ?_
        refine lv_irem X.1 X.2.1 dX6_padSum_38 (by decide +kernel) ?_
        refine lv_istore_n (lv' := [(1, .int ((((nI (3)) * (tb_sm (sr_X6_padWord z) i)) + ((sr_X6_padWord z i))) - (((nI (3)) * (tb_sm (sr_X6_padWord z) i)) + ((sr_X6_padWord z i))) / (nI (251)) * (nI (251)))), (0, .ref (tb_ad g (157))), (2, .int (nI (i)))]) X.1 X.2.1 dX6_padSum_39 rfl hl (by decide) rfl (fun ls hl => ?_)
        refine lv_iinc (v := nI (i + 1)) (lv' := [(2, .int (nI (i + 1))), (1, .int ((((nI (3)) * (tb_sm (sr_X6_padWord z) i)) + ((sr_X6_padWord z i))) - (((nI (3)) * (tb_sm (sr_X6_padWord z) i)) + ((sr_X6_padWord z i))) / (nI (251)) * (nI (251)))), (0, .ref (tb_ad g (157)))]) X.1 X.2.1 dX6_padSum_40 hl (k := 2) rfl (nI_add _ _) (by decide) rfl (fun ls hl => ?_)
        refine lv_goto (tgt := 16) X.1 X.2.1 dX6_padSum_43 (by decide) ?_
        exact ih_16 (i + 1) (by omega) _ _ _ hH (lv_sub hl [2, 1, 0] rfl)
    exact L_16 (tb_plM z / 2) 0 (by omega) _ _ _ hH (lv_sub hl [2, 1, 0] rfl)
  · refine lv_bipush (v := (-3)) X.1 X.2.1 dX6_padSum_9 (by decide +kernel) ?_
    exact tb_ri X hr hlk hH ⟨(by rw [sr_X6_padSum]; simp only [if_neg c_1]), rfl⟩ dX6_padSum_11
def sr_X6_badMany (z : tb_M)  : Int32 := (tb_b ((((z 158 ((11 + (46 * 0)) + 0))) = (nI (4))))) + (tb_b ((((z 158 ((11 + (46 * 1)) + 0))) = (nI (4)))))
set_option maxHeartbeats 1000000 in
set_option maxRecDepth 100000 in
theorem c_X6_badMany (l : Launch) (g : tb_G) (z : tb_M)  : tb_Mi (.int) l yX6_badMany cX6_badMany 1 2 g z [.ref (tb_ad g 157)] (sr_X6_badMany z ) (z) := by
  refine tb_goi (own := RX6) (by decide +kernel) rfl (Nat.le_of_ble_eq_true rfl) ?_
  intro p e s m below meth c ls X hr hlk hH hl
  have hl : lv_has ls 1 [(0, .ref (tb_ad g (157)))] := hl
  refine lv_aload_n X.1 X.2.1 dX6_badMany_0 rfl (lv_at hl 0 rfl) ?_
  refine lv_iconst (v := nI (0)) X.1 X.2.1 dX6_badMany_1 (by decide +kernel) ?_
  refine lv_iconst (v := nI (4)) X.1 X.2.1 dX6_badMany_2 (by decide +kernel) ?_
  refine tb_cVi X hH hl.1 (c_X6_isHow l g z 0 (nI (4)) (by first | assumption | omega | decide)) ky_X6_isHow.1 ky_X6_isHow.2 wm_256 tb_oM rfl rfl (Nat.le_of_ble_eq_true rfl) ⟨by decide, by decide⟩ ⟨by decide, by decide⟩ dX6_badMany_3 (fun H locs hH => ?_)
  have J_1 : ∀ (H : Heap) (locs : List Loc) (ls : Array Slot) (vq1 : Int32), vq1 = (tb_b ((((z 158 ((11 + (46 * 0)) + 0))) = (nI (4))))) → tb_H g s.heap z H locs → lv_has ls 1 [(0, .ref (tb_ad g (157)))] → W p l e (tb_rm 2) s m ([.ref (tb_ad g 157)] : List Value).toArray below meth c H locs 0 0 (MQ below (va_Qi (fun r9 u9 => r9 = sr_X6_badMany z  ∧ u9 = z) (tb_B g) (tb_A g)) ([.ref (tb_ad g 157)] : List Value).toArray s 0 0 (tb_A g)) (F0 m 14 ls [.int vq1]) := by
    intro H locs ls vq1 evq1 hH hl
    subst evq1
    refine lv_aload_n X.1 X.2.1 dX6_badMany_14 rfl (lv_at hl 0 rfl) ?_
    refine lv_iconst (v := nI (1)) X.1 X.2.1 dX6_badMany_15 (by decide +kernel) ?_
    refine lv_iconst (v := nI (4)) X.1 X.2.1 dX6_badMany_16 (by decide +kernel) ?_
    refine tb_cVi X hH hl.1 (c_X6_isHow l g z 1 (nI (4)) (by first | assumption | omega | decide)) ky_X6_isHow.1 ky_X6_isHow.2 wm_256 tb_oM rfl rfl (Nat.le_of_ble_eq_true rfl) ⟨by decide, by decide⟩ ⟨by decide, by decide⟩ dX6_badMany_17 (fun H locs hH => ?_)
    have J_2 : ∀ (H : Heap) (locs : List Loc) (ls : Array Slot) (vq1 : Int32), vq1 = (tb_b ((((z 158 ((11 + (46 * 1)) + 0))) = (nI (4))))) → tb_H g s.heap z H locs → lv_has ls 1 [(0, .ref (tb_ad g (157)))] → W p l e (tb_rm 2) s m ([.ref (tb_ad g 157)] : List Value).toArray below meth c H locs 0 0 (MQ below (va_Qi (fun r9 u9 => r9 = sr_X6_badMany z  ∧ u9 = z) (tb_B g) (tb_A g)) ([.ref (tb_ad g 157)] : List Value).toArray s 0 0 (tb_A g)) (F0 m 28 ls [.int vq1, .int (tb_b ((((z 158 ((11 + (46 * 0)) + 0))) = (nI (4)))))]) := by
      intro H locs ls vq1 evq1 hH hl
      subst evq1
      refine lv_iadd X.1 X.2.1 dX6_badMany_28 ?_
      exact tb_ri X hr hlk hH ⟨(by rw [sr_X6_badMany]), rfl⟩ dX6_badMany_29
    refine tb_jbeq (tgt := 27) X dX6_badMany_20 (by decide) (fun c_2 => ?_) (fun c_2 => ?_)
    · refine lv_iconst (v := nI (0)) X.1 X.2.1 dX6_badMany_27 (by decide +kernel) ?_
      exact J_2 _ _ _ _ (tb_b_f c_2).symm hH (lv_sub hl [0] rfl)
    · refine lv_iconst (v := nI (1)) X.1 X.2.1 dX6_badMany_23 (by decide +kernel) ?_
      refine lv_goto (tgt := 28) X.1 X.2.1 dX6_badMany_24 (by decide) ?_
      exact J_2 _ _ _ _ (tb_b_t c_2).symm hH (lv_sub hl [0] rfl)
  refine tb_jbeq (tgt := 13) X dX6_badMany_6 (by decide) (fun c_1 => ?_) (fun c_1 => ?_)
  · refine lv_iconst (v := nI (0)) X.1 X.2.1 dX6_badMany_13 (by decide +kernel) ?_
    exact J_1 _ _ _ _ (tb_b_f c_1).symm hH (lv_sub hl [0] rfl)
  · refine lv_iconst (v := nI (1)) X.1 X.2.1 dX6_badMany_9 (by decide +kernel) ?_
    refine lv_goto (tgt := 14) X.1 X.2.1 dX6_badMany_10 (by decide) ?_
    exact J_1 _ _ _ _ (tb_b_t c_1).symm hH (lv_sub hl [0] rfl)
set_option maxHeartbeats 1000000 in
set_option maxRecDepth 100000 in
theorem c_X6_wipe (l : Launch) (g : tb_G) (z : tb_M)  : tb_Mi (.int) l yX6_wipe cX6_wipe 2 0 g z [.ref (tb_ad g 157)] (z 157 7) (tb_up z 157 7 (nI (0))) := by
  refine tb_goi (own := RX6) (by decide +kernel) rfl (Nat.le_of_ble_eq_true rfl) ?_
  intro p e s m below meth c ls X hr hlk hH hl
  have hl : lv_has ls 2 [(0, .ref (tb_ad g (157)))] := hl
  refine lv_aload_n X.1 X.2.1 dX6_wipe_0 rfl (lv_at hl 0 rfl) ?_
  refine tb_get X hH tb_Mc.1 (tb_Mc.2 _ _) rfl inlX6 7 (by decide) wm_297 (v := .int (z 157 7)) rfl dX6_wipe_1 ?_
  refine lv_istore_n (lv' := [(1, .int (z 157 7)), (0, .ref (tb_ad g (157)))]) X.1 X.2.1 dX6_wipe_4 rfl hl (by decide) rfl (fun ls hl => ?_)
  refine lv_aload_n X.1 X.2.1 dX6_wipe_5 rfl (lv_at hl 1 rfl) ?_
  refine lv_iconst (v := nI (0)) X.1 X.2.1 dX6_wipe_6 (by decide +kernel) ?_
  refine tb_putM X hH 7 (by decide) wm_297 dX6_wipe_7 (fun H locs hH => ?_)
  refine lv_iload_n X.1 X.2.1 dX6_wipe_10 rfl (lv_at hl 0 rfl) ?_
  exact tb_ri X hr hlk hH ⟨rfl, rfl⟩ dX6_wipe_11
def sz_X6_ifStarted_m1 (z : tb_M) (q : Prop) [Decidable q] : tb_M := sz_X6_remember (sz_X6_starts_m9 (tb_nZ0 z) (nI (if q then 2 else 0))) (nI (if q then 2 else 0))
def sr_X6_ifStarted (z : tb_M) (q : Prop) [Decidable q] : Int32 := ((sz_X6_ifStarted_m1 z q) 158 3) + ((nI (10)) * (((sr_X6_badMany (sz_X6_ifStarted_m1 z q) )) - ((sr_X6_badMany (tb_nZ0 z) ))))
set_option maxHeartbeats 1000000 in
set_option maxRecDepth 100000 in
theorem c_X6_ifStarted (l : Launch) (g : tb_G) (z : tb_M) (q : Prop) [Decidable q] (hT : tb_okTM z) : tb_Mi (.int) l yX6_ifStarted cX6_ifStarted 4 6 g z [.ref (tb_ad g 157), .int (tb_b q)] (sr_X6_ifStarted z q) (tb_mv (sz_X6_ifStarted_m1 z q) 159 0 158 0 139) := by
  refine tb_goi (own := RX6) (by decide +kernel) rfl (Nat.le_of_ble_eq_true rfl) ?_
  intro p e s m below meth c ls X hr hlk hH hl
  have hl : lv_has ls 4 [(0, .ref (tb_ad g (157))), (1, .int (tb_b (q)))] := hl
  refine lv_aload_n X.1 X.2.1 dX6_ifStarted_0 rfl (lv_at hl 0 rfl) ?_
  refine tb_get X hH tb_Mc.1 (tb_Mc.2 _ _) rfl inlX6 0 (by decide) wm_99 (v := .ref (tb_ad g (158))) rfl dX6_ifStarted_1 ?_
  refine lv_iconst (v := nI (0)) X.1 X.2.1 dX6_ifStarted_4 (by decide +kernel) ?_
  refine lv_aload_n X.1 X.2.1 dX6_ifStarted_5 rfl (lv_at hl 0 rfl) ?_
  refine tb_get X hH tb_Mc.1 (tb_Mc.2 _ _) rfl inlX6 1 (by decide) wm_100 (v := .ref (tb_ad g (159))) rfl dX6_ifStarted_6 ?_
  refine lv_iconst (v := nI (0)) X.1 X.2.1 dX6_ifStarted_9 (by decide +kernel) ?_
  refine tb_cSv X hH hl.1 (c_X6_moves l g z 158 139 tb_i158 0 159 139 tb_i159 0 (by decide) (by decide) ⟨by decide, by decide⟩) ky_X6_moves.1 ky_X6_moves.2 wm_170 rfl rfl (Nat.le_of_ble_eq_true rfl) ⟨by decide, by decide⟩ ⟨by decide, by decide⟩ dX6_ifStarted_10 (fun H locs hH => ?_)
  have hH : tb_H g s.heap (tb_nZ0 z) H locs := hH
  refine lv_aload_n X.1 X.2.1 dX6_ifStarted_13 rfl (lv_at hl 0 rfl) ?_
  refine tb_cVi X hH hl.1 (c_X6_badMany l g (tb_nZ0 z)) ky_X6_badMany.1 ky_X6_badMany.2 wm_548 tb_oM rfl rfl (Nat.le_of_ble_eq_true rfl) ⟨by decide, by decide⟩ ⟨by decide, by decide⟩ dX6_ifStarted_14 (fun H locs hH => ?_)
  refine lv_istore_n (lv' := [(2, .int ((sr_X6_badMany (tb_nZ0 z) ))), (0, .ref (tb_ad g (157))), (1, .int (tb_b (q)))]) X.1 X.2.1 dX6_ifStarted_17 rfl hl (by decide) rfl (fun ls hl => ?_)
  refine lv_aload_n X.1 X.2.1 dX6_ifStarted_18 rfl (lv_at hl 1 rfl) ?_
  refine lv_iload_n X.1 X.2.1 dX6_ifStarted_19 rfl (lv_at hl 2 rfl) ?_
  have J_1 : ∀ (H : Heap) (locs : List Loc) (ls : Array Slot) (vq1 : Int32), vq1 = (nI (if q then 2 else 0)) → tb_H g s.heap (tb_nZ0 z) H locs → lv_has ls 4 [(2, .int ((sr_X6_badMany (tb_nZ0 z) ))), (0, .ref (tb_ad g (157))), (1, .int (tb_b (q)))] → W p l e (tb_rm 6) s m ([.ref (tb_ad g 157), .int (tb_b q)] : List Value).toArray below meth c H locs 0 0 (MQ below (va_Qi (fun r9 u9 => r9 = sr_X6_ifStarted z q ∧ u9 = tb_mv (sz_X6_ifStarted_m1 z q) 159 0 158 0 139) (tb_B g) (tb_A g)) ([.ref (tb_ad g 157), .int (tb_b q)] : List Value).toArray s 0 0 (tb_A g)) (F0 m 28 ls [.int vq1, .ref (tb_ad g (157))]) := by
    intro H locs ls vq1 evq1 hH hl
    subst evq1
    refine tb_cVv X hH hl.1 (c_X6_starts l g (tb_nZ0 z) (nI (if q then 2 else 0)) (tb_nZ0_TM hT).2) ky_X6_starts.1 ky_X6_starts.2 wm_401 tb_oM rfl rfl (Nat.le_of_ble_eq_true rfl) ⟨by decide, by decide⟩ ⟨by decide, by decide⟩ dX6_ifStarted_28 (fun H locs hH => ?_)
    have hH : tb_H g s.heap (sz_X6_ifStarted_m1 z q) H locs := hH
    refine lv_aload_n X.1 X.2.1 dX6_ifStarted_31 rfl (lv_at hl 1 rfl) ?_
    refine tb_get X hH tb_Mc.1 (tb_Mc.2 _ _) rfl inlX6 0 (by decide) wm_99 (v := .ref (tb_ad g (158))) rfl dX6_ifStarted_32 ?_
    refine lv_iconst (v := nI (3)) X.1 X.2.1 dX6_ifStarted_35 (by decide +kernel) ?_
    refine tb_ald X hH tb_i158 (3) rfl (by decide) (by first | decide | omega) dX6_ifStarted_36 ?_
    refine lv_bipush (v := nI (10)) X.1 X.2.1 dX6_ifStarted_37 (by decide +kernel) ?_
    refine lv_aload_n X.1 X.2.1 dX6_ifStarted_39 rfl (lv_at hl 1 rfl) ?_
    refine tb_cVi X hH hl.1 (c_X6_badMany l g (sz_X6_ifStarted_m1 z q)) ky_X6_badMany.1 ky_X6_badMany.2 wm_548 tb_oM rfl rfl (Nat.le_of_ble_eq_true rfl) ⟨by decide, by decide⟩ ⟨by decide, by decide⟩ dX6_ifStarted_40 (fun H locs hH => ?_)
    refine lv_iload_n X.1 X.2.1 dX6_ifStarted_43 rfl (lv_at hl 0 rfl) ?_
    refine lv_isub X.1 X.2.1 dX6_ifStarted_44 ?_
    refine lv_imul X.1 X.2.1 dX6_ifStarted_45 ?_
    refine lv_iadd X.1 X.2.1 dX6_ifStarted_46 ?_
    refine lv_istore_n (lv' := [(3, .int (((sz_X6_ifStarted_m1 z q) 158 3) + ((nI (10)) * (((sr_X6_badMany (sz_X6_ifStarted_m1 z q) )) - ((sr_X6_badMany (tb_nZ0 z) )))))), (2, .int ((sr_X6_badMany (tb_nZ0 z) ))), (0, .ref (tb_ad g (157))), (1, .int (tb_b (q)))]) X.1 X.2.1 dX6_ifStarted_47 rfl hl (by decide) rfl (fun ls hl => ?_)
    refine lv_aload_n X.1 X.2.1 dX6_ifStarted_48 rfl (lv_at hl 2 rfl) ?_
    refine tb_get X hH tb_Mc.1 (tb_Mc.2 _ _) rfl inlX6 1 (by decide) wm_100 (v := .ref (tb_ad g (159))) rfl dX6_ifStarted_49 ?_
    refine lv_iconst (v := nI (0)) X.1 X.2.1 dX6_ifStarted_52 (by decide +kernel) ?_
    refine lv_aload_n X.1 X.2.1 dX6_ifStarted_53 rfl (lv_at hl 2 rfl) ?_
    refine tb_get X hH tb_Mc.1 (tb_Mc.2 _ _) rfl inlX6 0 (by decide) wm_99 (v := .ref (tb_ad g (158))) rfl dX6_ifStarted_54 ?_
    refine lv_iconst (v := nI (0)) X.1 X.2.1 dX6_ifStarted_57 (by decide +kernel) ?_
    refine tb_cSv X hH hl.1 (c_X6_moves l g (sz_X6_ifStarted_m1 z q) 159 139 tb_i159 0 158 139 tb_i158 0 (by decide) (by decide) ⟨by decide, by decide⟩) ky_X6_moves.1 ky_X6_moves.2 wm_170 rfl rfl (Nat.le_of_ble_eq_true rfl) ⟨by decide, by decide⟩ ⟨by decide, by decide⟩ dX6_ifStarted_58 (fun H locs hH => ?_)
    refine lv_iload_n X.1 X.2.1 dX6_ifStarted_61 rfl (lv_at hl 0 rfl) ?_
    exact tb_ri X hr hlk hH ⟨(by rw [sr_X6_ifStarted]), rfl⟩ dX6_ifStarted_62
  refine tb_jbeq (tgt := 27) X dX6_ifStarted_20 (by decide) (fun c_1 => ?_) (fun c_1 => ?_)
  · refine lv_iconst (v := nI (0)) X.1 X.2.1 dX6_ifStarted_27 (by decide +kernel) ?_
    exact J_1 _ _ _ _ (by simp only [if_neg c_1]) hH (lv_sub hl [0, 1, 2] rfl)
  · refine lv_iconst (v := nI (2)) X.1 X.2.1 dX6_ifStarted_23 (by decide +kernel) ?_
    refine lv_goto (tgt := 28) X.1 X.2.1 dX6_ifStarted_24 (by decide) ?_
    exact J_1 _ _ _ _ (by simp only [if_pos c_1]) hH (lv_sub hl [0, 1, 2] rfl)
set_option maxHeartbeats 1000000 in
set_option maxRecDepth 100000 in
theorem c_X6_ifPassed_bad (l : Launch) (g : tb_G) (z : tb_M) (x : Int32) (w : Int32) (hx : ¬ (¬ (x < nI 1) ∧ (¬ (nI 500 < x)))) : tb_Mi (.int) l yX6_ifPassed cX6_ifPassed 5 1 g z [.ref (tb_ad g 157), .int x, .int w] ((-2)) (z) := by
  refine tb_goi (own := RX6) (by decide +kernel) rfl (Nat.le_of_ble_eq_true rfl) ?_
  intro p e s m below meth c ls X hr hlk hH hl
  have hl : lv_has ls 5 [(0, .ref (tb_ad g (157))), (1, .int (x)), (2, .int (w))] := hl
  refine lv_iload_n X.1 X.2.1 dX6_ifPassed_0 rfl (lv_at hl 1 rfl) ?_
  refine lv_iconst (v := nI (1)) X.1 X.2.1 dX6_ifPassed_1 (by decide +kernel) ?_
  refine lv_sipush (v := nI (500)) X.1 X.2.1 dX6_ifPassed_2 (by decide +kernel) ?_
  refine tb_cSi X hH hl.1 (c_X6_within l g z x (nI (1)) (nI (500))) ky_X6_within.1 ky_X6_within.2 wm_162 rfl rfl (Nat.le_of_ble_eq_true rfl) ⟨by decide, by decide⟩ ⟨by decide, by decide⟩ dX6_ifPassed_5 (fun H locs hH => ?_)
  refine tb_jbeq (tgt := 20) X dX6_ifPassed_8 (by decide) (fun _ => ?_) (fun c => (hx c : False).elim)
  refine lv_bipush (v := (-2)) X.1 X.2.1 dX6_ifPassed_20 (by decide +kernel) ?_
  exact tb_ri X hr hlk hH ⟨rfl, rfl⟩ dX6_ifPassed_22
set_option maxHeartbeats 1000000 in
set_option maxRecDepth 100000 in
theorem c_X6_ifPassed_w (l : Launch) (g : tb_G) (z : tb_M) (t : Nat) (w : Int32) (ht : 1 ≤ t ∧ t ≤ 500) (hw : ¬ (¬ (w < nI 0) ∧ (¬ (nI 3 < w)))) : tb_Mi (.int) l yX6_ifPassed cX6_ifPassed 5 1 g z [.ref (tb_ad g 157), .int (nI t), .int w] ((-2)) (z) := by
  refine tb_goi (own := RX6) (by decide +kernel) rfl (Nat.le_of_ble_eq_true rfl) ?_
  intro p e s m below meth c ls X hr hlk hH hl
  have hl : lv_has ls 5 [(0, .ref (tb_ad g (157))), (1, .int (nI (t))), (2, .int (w))] := hl
  refine lv_iload_n X.1 X.2.1 dX6_ifPassed_0 rfl (lv_at hl 1 rfl) ?_
  refine lv_iconst (v := nI (1)) X.1 X.2.1 dX6_ifPassed_1 (by decide +kernel) ?_
  refine lv_sipush (v := nI (500)) X.1 X.2.1 dX6_ifPassed_2 (by decide +kernel) ?_
  refine tb_cSi X hH hl.1 (c_X6_within l g z (nI (t)) (nI (1)) (nI (500))) ky_X6_within.1 ky_X6_within.2 wm_162 rfl rfl (Nat.le_of_ble_eq_true rfl) ⟨by decide, by decide⟩ ⟨by decide, by decide⟩ dX6_ifPassed_5 (fun H locs hH => ?_)
  refine tb_jbeq (tgt := 20) X dX6_ifPassed_8 (by decide) (fun c => (c ⟨nI_nlt (by omega) (by omega), nI_nlt (by omega) (by omega)⟩ : False).elim) (fun _ => ?_)
  refine lv_iload_n X.1 X.2.1 dX6_ifPassed_11 rfl (lv_at hl 2 rfl) ?_
  refine lv_iconst (v := nI (0)) X.1 X.2.1 dX6_ifPassed_12 (by decide +kernel) ?_
  refine lv_iconst (v := nI (3)) X.1 X.2.1 dX6_ifPassed_13 (by decide +kernel) ?_
  refine tb_cSi X hH hl.1 (c_X6_within l g z w (nI (0)) (nI (3))) ky_X6_within.1 ky_X6_within.2 wm_162 rfl rfl (Nat.le_of_ble_eq_true rfl) ⟨by decide, by decide⟩ ⟨by decide, by decide⟩ dX6_ifPassed_14 (fun H locs hH => ?_)
  refine tb_jbne (tgt := 23) X dX6_ifPassed_17 (by decide) (fun c => (hw c : False).elim) (fun _ => ?_)
  refine lv_bipush (v := (-2)) X.1 X.2.1 dX6_ifPassed_20 (by decide +kernel) ?_
  exact tb_ri X hr hlk hH ⟨rfl, rfl⟩ dX6_ifPassed_22
set_option maxHeartbeats 1000000 in
set_option maxRecDepth 100000 in
theorem c_X6_ifPassed_0 (l : Launch) (g : tb_G) (z : tb_M) (t : Nat) (ht : 1 ≤ t ∧ t ≤ 500) (hW : ∀ i, i < t → tb_okTM (tb_mpZ (tb_nZ0 z) i)) : tb_Mi (.int) l yX6_ifPassed cX6_ifPassed 5 8 g z [.ref (tb_ad g 157), .int (nI t), .int (nI 0)] ((tb_mpN (tb_nZ0 z) t)) (tb_mv (tb_mpZ (tb_nZ0 z) t) 159 0 158 0 139) := by
  refine tb_goi (own := RX6) (by decide +kernel) rfl (Nat.le_of_ble_eq_true rfl) ?_
  intro p e s m below meth c ls X hr hlk hH hl
  have hl : lv_has ls 5 [(0, .ref (tb_ad g (157))), (1, .int (nI (t))), (2, .int (nI (0)))] := hl
  refine lv_iload_n X.1 X.2.1 dX6_ifPassed_0 rfl (lv_at hl 1 rfl) ?_
  refine lv_iconst (v := nI (1)) X.1 X.2.1 dX6_ifPassed_1 (by decide +kernel) ?_
  refine lv_sipush (v := nI (500)) X.1 X.2.1 dX6_ifPassed_2 (by decide +kernel) ?_
  refine tb_cSi X hH hl.1 (c_X6_within l g z (nI (t)) (nI (1)) (nI (500))) ky_X6_within.1 ky_X6_within.2 wm_162 rfl rfl (Nat.le_of_ble_eq_true rfl) ⟨by decide, by decide⟩ ⟨by decide, by decide⟩ dX6_ifPassed_5 (fun H locs hH => ?_)
  refine tb_jbeq (tgt := 20) X dX6_ifPassed_8 (by decide) (fun c => (c ⟨nI_nlt (by omega) (by omega), nI_nlt (by omega) (by omega)⟩ : False).elim) (fun _ => ?_)
  refine lv_iload_n X.1 X.2.1 dX6_ifPassed_11 rfl (lv_at hl 2 rfl) ?_
  refine lv_iconst (v := nI (0)) X.1 X.2.1 dX6_ifPassed_12 (by decide +kernel) ?_
  refine lv_iconst (v := nI (3)) X.1 X.2.1 dX6_ifPassed_13 (by decide +kernel) ?_
  refine tb_cSi X hH hl.1 (c_X6_within l g z (nI (0)) (nI (0)) (nI (3))) ky_X6_within.1 ky_X6_within.2 wm_162 rfl rfl (Nat.le_of_ble_eq_true rfl) ⟨by decide, by decide⟩ ⟨by decide, by decide⟩ dX6_ifPassed_14 (fun H locs hH => ?_)
  refine tb_jbne (tgt := 23) X dX6_ifPassed_17 (by decide) (fun _ => ?_) (fun c => (c ⟨nI_nlt (by omega) (by omega), nI_nlt (by omega) (by omega)⟩ : False).elim)
  refine lv_aload_n X.1 X.2.1 dX6_ifPassed_23 rfl (lv_at hl 0 rfl) ?_
  refine tb_get X hH tb_Mc.1 (tb_Mc.2 _ _) rfl inlX6 0 (by decide) wm_99 (v := .ref (tb_ad g (158))) rfl dX6_ifPassed_24 ?_
  refine lv_iconst (v := nI (0)) X.1 X.2.1 dX6_ifPassed_27 (by decide +kernel) ?_
  refine lv_aload_n X.1 X.2.1 dX6_ifPassed_28 rfl (lv_at hl 0 rfl) ?_
  refine tb_get X hH tb_Mc.1 (tb_Mc.2 _ _) rfl inlX6 1 (by decide) wm_100 (v := .ref (tb_ad g (159))) rfl dX6_ifPassed_29 ?_
  refine lv_iconst (v := nI (0)) X.1 X.2.1 dX6_ifPassed_32 (by decide +kernel) ?_
  refine tb_cSv X hH hl.1 (c_X6_moves l g z 158 139 tb_i158 0 159 139 tb_i159 0 (by decide) (by decide) ⟨by decide, by decide⟩) ky_X6_moves.1 ky_X6_moves.2 wm_170 rfl rfl (Nat.le_of_ble_eq_true rfl) ⟨by decide, by decide⟩ ⟨by decide, by decide⟩ dX6_ifPassed_33 (fun H locs hH => ?_)
  have hH : tb_H g s.heap (tb_nZ0 z) H locs := hH
  refine lv_aload_n X.1 X.2.1 dX6_ifPassed_36 rfl (lv_at hl 0 rfl) ?_
  refine lv_iload_n X.1 X.2.1 dX6_ifPassed_37 rfl (lv_at hl 1 rfl) ?_
  refine tb_cVi X hH hl.1 (c_X6_passes l g (tb_nZ0 z) t (by omega) hW) ky_X6_passes.1 ky_X6_passes.2 wm_439 tb_oM rfl rfl (Nat.le_of_ble_eq_true rfl) ⟨by decide, by decide⟩ ⟨by decide, by decide⟩ dX6_ifPassed_38 (fun H locs hH => ?_)
  refine lv_istore_n (lv' := [(3, .int ((tb_mpN (tb_nZ0 z) t))), (0, .ref (tb_ad g (157))), (1, .int (nI (t))), (2, .int (nI (0)))]) X.1 X.2.1 dX6_ifPassed_41 rfl hl (by decide) rfl (fun ls hl => ?_)
  refine lv_iload_n X.1 X.2.1 dX6_ifPassed_42 rfl (lv_at hl 3 rfl) ?_
  refine tb_zne (tgt := 50) X (by omega) dX6_ifPassed_43 (by decide) (fun c => ((by revert c; decide +kernel) : False).elim) (fun _ => ?_)
  refine lv_iload_n X.1 X.2.1 dX6_ifPassed_46 rfl (lv_at hl 0 rfl) ?_
  refine lv_goto (tgt := 72) X.1 X.2.1 dX6_ifPassed_47 (by decide) ?_
  refine lv_istore (lv' := [(4, .int ((tb_mpN (tb_nZ0 z) t))), (3, .int ((tb_mpN (tb_nZ0 z) t))), (0, .ref (tb_ad g (157))), (1, .int (nI (t))), (2, .int (nI (0)))]) X.1 X.2.1 dX6_ifPassed_72 hl (by decide) rfl (fun ls hl => ?_)
  refine lv_aload_n X.1 X.2.1 dX6_ifPassed_74 rfl (lv_at hl 2 rfl) ?_
  refine tb_get X hH tb_Mc.1 (tb_Mc.2 _ _) rfl inlX6 1 (by decide) wm_100 (v := .ref (tb_ad g (159))) rfl dX6_ifPassed_75 ?_
  refine lv_iconst (v := nI (0)) X.1 X.2.1 dX6_ifPassed_78 (by decide +kernel) ?_
  refine lv_aload_n X.1 X.2.1 dX6_ifPassed_79 rfl (lv_at hl 2 rfl) ?_
  refine tb_get X hH tb_Mc.1 (tb_Mc.2 _ _) rfl inlX6 0 (by decide) wm_99 (v := .ref (tb_ad g (158))) rfl dX6_ifPassed_80 ?_
  refine lv_iconst (v := nI (0)) X.1 X.2.1 dX6_ifPassed_83 (by decide +kernel) ?_
  refine tb_cSv X hH hl.1 (c_X6_moves l g (tb_mpZ (tb_nZ0 z) t) 159 139 tb_i159 0 158 139 tb_i158 0 (by decide) (by decide) ⟨by decide, by decide⟩) ky_X6_moves.1 ky_X6_moves.2 wm_170 rfl rfl (Nat.le_of_ble_eq_true rfl) ⟨by decide, by decide⟩ ⟨by decide, by decide⟩ dX6_ifPassed_84 (fun H locs hH => ?_)
  refine lv_iload X.1 X.2.1 dX6_ifPassed_87 (lv_at hl 0 rfl) ?_
  exact tb_ri X hr hlk hH ⟨rfl, rfl⟩ dX6_ifPassed_89
set_option maxHeartbeats 1000000 in
set_option maxRecDepth 100000 in
theorem c_X6_ifPassed_1 (l : Launch) (g : tb_G) (z : tb_M) (t : Nat) (ht : 1 ≤ t ∧ t ≤ 500) (hW : ∀ i, i < t → tb_okTM (tb_mpZ (tb_nZ0 z) i)) : tb_Mi (.int) l yX6_ifPassed cX6_ifPassed 5 8 g z [.ref (tb_ad g 157), .int (nI t), .int (nI 1)] ((tb_mpZ (tb_nZ0 z) t) 158 3) (tb_mv (tb_mpZ (tb_nZ0 z) t) 159 0 158 0 139) := by
  refine tb_goi (own := RX6) (by decide +kernel) rfl (Nat.le_of_ble_eq_true rfl) ?_
  intro p e s m below meth c ls X hr hlk hH hl
  have hl : lv_has ls 5 [(0, .ref (tb_ad g (157))), (1, .int (nI (t))), (2, .int (nI (1)))] := hl
  refine lv_iload_n X.1 X.2.1 dX6_ifPassed_0 rfl (lv_at hl 1 rfl) ?_
  refine lv_iconst (v := nI (1)) X.1 X.2.1 dX6_ifPassed_1 (by decide +kernel) ?_
  refine lv_sipush (v := nI (500)) X.1 X.2.1 dX6_ifPassed_2 (by decide +kernel) ?_
  refine tb_cSi X hH hl.1 (c_X6_within l g z (nI (t)) (nI (1)) (nI (500))) ky_X6_within.1 ky_X6_within.2 wm_162 rfl rfl (Nat.le_of_ble_eq_true rfl) ⟨by decide, by decide⟩ ⟨by decide, by decide⟩ dX6_ifPassed_5 (fun H locs hH => ?_)
  refine tb_jbeq (tgt := 20) X dX6_ifPassed_8 (by decide) (fun c => (c ⟨nI_nlt (by omega) (by omega), nI_nlt (by omega) (by omega)⟩ : False).elim) (fun _ => ?_)
  refine lv_iload_n X.1 X.2.1 dX6_ifPassed_11 rfl (lv_at hl 2 rfl) ?_
  refine lv_iconst (v := nI (0)) X.1 X.2.1 dX6_ifPassed_12 (by decide +kernel) ?_
  refine lv_iconst (v := nI (3)) X.1 X.2.1 dX6_ifPassed_13 (by decide +kernel) ?_
  refine tb_cSi X hH hl.1 (c_X6_within l g z (nI (1)) (nI (0)) (nI (3))) ky_X6_within.1 ky_X6_within.2 wm_162 rfl rfl (Nat.le_of_ble_eq_true rfl) ⟨by decide, by decide⟩ ⟨by decide, by decide⟩ dX6_ifPassed_14 (fun H locs hH => ?_)
  refine tb_jbne (tgt := 23) X dX6_ifPassed_17 (by decide) (fun _ => ?_) (fun c => (c ⟨nI_nlt (by omega) (by omega), nI_nlt (by omega) (by omega)⟩ : False).elim)
  refine lv_aload_n X.1 X.2.1 dX6_ifPassed_23 rfl (lv_at hl 0 rfl) ?_
  refine tb_get X hH tb_Mc.1 (tb_Mc.2 _ _) rfl inlX6 0 (by decide) wm_99 (v := .ref (tb_ad g (158))) rfl dX6_ifPassed_24 ?_
  refine lv_iconst (v := nI (0)) X.1 X.2.1 dX6_ifPassed_27 (by decide +kernel) ?_
  refine lv_aload_n X.1 X.2.1 dX6_ifPassed_28 rfl (lv_at hl 0 rfl) ?_
  refine tb_get X hH tb_Mc.1 (tb_Mc.2 _ _) rfl inlX6 1 (by decide) wm_100 (v := .ref (tb_ad g (159))) rfl dX6_ifPassed_29 ?_
  refine lv_iconst (v := nI (0)) X.1 X.2.1 dX6_ifPassed_32 (by decide +kernel) ?_
  refine tb_cSv X hH hl.1 (c_X6_moves l g z 158 139 tb_i158 0 159 139 tb_i159 0 (by decide) (by decide) ⟨by decide, by decide⟩) ky_X6_moves.1 ky_X6_moves.2 wm_170 rfl rfl (Nat.le_of_ble_eq_true rfl) ⟨by decide, by decide⟩ ⟨by decide, by decide⟩ dX6_ifPassed_33 (fun H locs hH => ?_)
  have hH : tb_H g s.heap (tb_nZ0 z) H locs := hH
  refine lv_aload_n X.1 X.2.1 dX6_ifPassed_36 rfl (lv_at hl 0 rfl) ?_
  refine lv_iload_n X.1 X.2.1 dX6_ifPassed_37 rfl (lv_at hl 1 rfl) ?_
  refine tb_cVi X hH hl.1 (c_X6_passes l g (tb_nZ0 z) t (by omega) hW) ky_X6_passes.1 ky_X6_passes.2 wm_439 tb_oM rfl rfl (Nat.le_of_ble_eq_true rfl) ⟨by decide, by decide⟩ ⟨by decide, by decide⟩ dX6_ifPassed_38 (fun H locs hH => ?_)
  refine lv_istore_n (lv' := [(3, .int ((tb_mpN (tb_nZ0 z) t))), (0, .ref (tb_ad g (157))), (1, .int (nI (t))), (2, .int (nI (1)))]) X.1 X.2.1 dX6_ifPassed_41 rfl hl (by decide) rfl (fun ls hl => ?_)
  refine lv_iload_n X.1 X.2.1 dX6_ifPassed_42 rfl (lv_at hl 3 rfl) ?_
  refine tb_zne (tgt := 50) X (by omega) dX6_ifPassed_43 (by decide) (fun _ => ?_) (fun c => ((by revert c; decide +kernel) : False).elim)
  refine lv_iload_n X.1 X.2.1 dX6_ifPassed_50 rfl (lv_at hl 3 rfl) ?_
  refine lv_iconst (v := nI (1)) X.1 X.2.1 dX6_ifPassed_51 (by decide +kernel) ?_
  refine tb_nne (tgt := 64) X (by omega) (by omega) dX6_ifPassed_52 (by decide) (fun c => ((by omega) : False).elim) (fun _ => ?_)
  refine lv_aload_n X.1 X.2.1 dX6_ifPassed_55 rfl (lv_at hl 1 rfl) ?_
  refine tb_get X hH tb_Mc.1 (tb_Mc.2 _ _) rfl inlX6 0 (by decide) wm_99 (v := .ref (tb_ad g (158))) rfl dX6_ifPassed_56 ?_
  refine lv_iconst (v := nI (3)) X.1 X.2.1 dX6_ifPassed_59 (by decide +kernel) ?_
  refine tb_ald X hH tb_i158 (3) rfl (by decide) (by first | decide | omega) dX6_ifPassed_60 ?_
  refine lv_goto (tgt := 72) X.1 X.2.1 dX6_ifPassed_61 (by decide) ?_
  refine lv_istore (lv' := [(4, .int ((tb_mpZ (tb_nZ0 z) t) 158 3)), (3, .int ((tb_mpN (tb_nZ0 z) t))), (0, .ref (tb_ad g (157))), (1, .int (nI (t))), (2, .int (nI (1)))]) X.1 X.2.1 dX6_ifPassed_72 hl (by decide) rfl (fun ls hl => ?_)
  refine lv_aload_n X.1 X.2.1 dX6_ifPassed_74 rfl (lv_at hl 2 rfl) ?_
  refine tb_get X hH tb_Mc.1 (tb_Mc.2 _ _) rfl inlX6 1 (by decide) wm_100 (v := .ref (tb_ad g (159))) rfl dX6_ifPassed_75 ?_
  refine lv_iconst (v := nI (0)) X.1 X.2.1 dX6_ifPassed_78 (by decide +kernel) ?_
  refine lv_aload_n X.1 X.2.1 dX6_ifPassed_79 rfl (lv_at hl 2 rfl) ?_
  refine tb_get X hH tb_Mc.1 (tb_Mc.2 _ _) rfl inlX6 0 (by decide) wm_99 (v := .ref (tb_ad g (158))) rfl dX6_ifPassed_80 ?_
  refine lv_iconst (v := nI (0)) X.1 X.2.1 dX6_ifPassed_83 (by decide +kernel) ?_
  refine tb_cSv X hH hl.1 (c_X6_moves l g (tb_mpZ (tb_nZ0 z) t) 159 139 tb_i159 0 158 139 tb_i158 0 (by decide) (by decide) ⟨by decide, by decide⟩) ky_X6_moves.1 ky_X6_moves.2 wm_170 rfl rfl (Nat.le_of_ble_eq_true rfl) ⟨by decide, by decide⟩ ⟨by decide, by decide⟩ dX6_ifPassed_84 (fun H locs hH => ?_)
  refine lv_iload X.1 X.2.1 dX6_ifPassed_87 (lv_at hl 0 rfl) ?_
  exact tb_ri X hr hlk hH ⟨rfl, rfl⟩ dX6_ifPassed_89
set_option maxHeartbeats 1000000 in
set_option maxRecDepth 100000 in
theorem c_X6_ifPassed_2 (l : Launch) (g : tb_G) (z : tb_M) (t : Nat) (ht : 1 ≤ t ∧ t ≤ 500) (hW : ∀ i, i < t → tb_okTM (tb_mpZ (tb_nZ0 z) i)) : tb_Mi (.int) l yX6_ifPassed cX6_ifPassed 5 8 g z [.ref (tb_ad g 157), .int (nI t), .int (nI 2)] (((tb_mpZ (tb_nZ0 z) t) 158 ((11 + (46 * 0)) + 0))) (tb_mv (tb_mpZ (tb_nZ0 z) t) 159 0 158 0 139) := by
  refine tb_goi (own := RX6) (by decide +kernel) rfl (Nat.le_of_ble_eq_true rfl) ?_
  intro p e s m below meth c ls X hr hlk hH hl
  have hl : lv_has ls 5 [(0, .ref (tb_ad g (157))), (1, .int (nI (t))), (2, .int (nI (2)))] := hl
  refine lv_iload_n X.1 X.2.1 dX6_ifPassed_0 rfl (lv_at hl 1 rfl) ?_
  refine lv_iconst (v := nI (1)) X.1 X.2.1 dX6_ifPassed_1 (by decide +kernel) ?_
  refine lv_sipush (v := nI (500)) X.1 X.2.1 dX6_ifPassed_2 (by decide +kernel) ?_
  refine tb_cSi X hH hl.1 (c_X6_within l g z (nI (t)) (nI (1)) (nI (500))) ky_X6_within.1 ky_X6_within.2 wm_162 rfl rfl (Nat.le_of_ble_eq_true rfl) ⟨by decide, by decide⟩ ⟨by decide, by decide⟩ dX6_ifPassed_5 (fun H locs hH => ?_)
  refine tb_jbeq (tgt := 20) X dX6_ifPassed_8 (by decide) (fun c => (c ⟨nI_nlt (by omega) (by omega), nI_nlt (by omega) (by omega)⟩ : False).elim) (fun _ => ?_)
  refine lv_iload_n X.1 X.2.1 dX6_ifPassed_11 rfl (lv_at hl 2 rfl) ?_
  refine lv_iconst (v := nI (0)) X.1 X.2.1 dX6_ifPassed_12 (by decide +kernel) ?_
  refine lv_iconst (v := nI (3)) X.1 X.2.1 dX6_ifPassed_13 (by decide +kernel) ?_
  refine tb_cSi X hH hl.1 (c_X6_within l g z (nI (2)) (nI (0)) (nI (3))) ky_X6_within.1 ky_X6_within.2 wm_162 rfl rfl (Nat.le_of_ble_eq_true rfl) ⟨by decide, by decide⟩ ⟨by decide, by decide⟩ dX6_ifPassed_14 (fun H locs hH => ?_)
  refine tb_jbne (tgt := 23) X dX6_ifPassed_17 (by decide) (fun _ => ?_) (fun c => (c ⟨nI_nlt (by omega) (by omega), nI_nlt (by omega) (by omega)⟩ : False).elim)
  refine lv_aload_n X.1 X.2.1 dX6_ifPassed_23 rfl (lv_at hl 0 rfl) ?_
  refine tb_get X hH tb_Mc.1 (tb_Mc.2 _ _) rfl inlX6 0 (by decide) wm_99 (v := .ref (tb_ad g (158))) rfl dX6_ifPassed_24 ?_
  refine lv_iconst (v := nI (0)) X.1 X.2.1 dX6_ifPassed_27 (by decide +kernel) ?_
  refine lv_aload_n X.1 X.2.1 dX6_ifPassed_28 rfl (lv_at hl 0 rfl) ?_
  refine tb_get X hH tb_Mc.1 (tb_Mc.2 _ _) rfl inlX6 1 (by decide) wm_100 (v := .ref (tb_ad g (159))) rfl dX6_ifPassed_29 ?_
  refine lv_iconst (v := nI (0)) X.1 X.2.1 dX6_ifPassed_32 (by decide +kernel) ?_
  refine tb_cSv X hH hl.1 (c_X6_moves l g z 158 139 tb_i158 0 159 139 tb_i159 0 (by decide) (by decide) ⟨by decide, by decide⟩) ky_X6_moves.1 ky_X6_moves.2 wm_170 rfl rfl (Nat.le_of_ble_eq_true rfl) ⟨by decide, by decide⟩ ⟨by decide, by decide⟩ dX6_ifPassed_33 (fun H locs hH => ?_)
  have hH : tb_H g s.heap (tb_nZ0 z) H locs := hH
  refine lv_aload_n X.1 X.2.1 dX6_ifPassed_36 rfl (lv_at hl 0 rfl) ?_
  refine lv_iload_n X.1 X.2.1 dX6_ifPassed_37 rfl (lv_at hl 1 rfl) ?_
  refine tb_cVi X hH hl.1 (c_X6_passes l g (tb_nZ0 z) t (by omega) hW) ky_X6_passes.1 ky_X6_passes.2 wm_439 tb_oM rfl rfl (Nat.le_of_ble_eq_true rfl) ⟨by decide, by decide⟩ ⟨by decide, by decide⟩ dX6_ifPassed_38 (fun H locs hH => ?_)
  refine lv_istore_n (lv' := [(3, .int ((tb_mpN (tb_nZ0 z) t))), (0, .ref (tb_ad g (157))), (1, .int (nI (t))), (2, .int (nI (2)))]) X.1 X.2.1 dX6_ifPassed_41 rfl hl (by decide) rfl (fun ls hl => ?_)
  refine lv_iload_n X.1 X.2.1 dX6_ifPassed_42 rfl (lv_at hl 3 rfl) ?_
  refine tb_zne (tgt := 50) X (by omega) dX6_ifPassed_43 (by decide) (fun _ => ?_) (fun c => ((by revert c; decide +kernel) : False).elim)
  refine lv_iload_n X.1 X.2.1 dX6_ifPassed_50 rfl (lv_at hl 3 rfl) ?_
  refine lv_iconst (v := nI (1)) X.1 X.2.1 dX6_ifPassed_51 (by decide +kernel) ?_
  refine tb_nne (tgt := 64) X (by omega) (by omega) dX6_ifPassed_52 (by decide) (fun _ => ?_) (fun c => ((by omega) : False).elim)
  refine lv_aload_n X.1 X.2.1 dX6_ifPassed_64 rfl (lv_at hl 1 rfl) ?_
  refine lv_iload_n X.1 X.2.1 dX6_ifPassed_65 rfl (lv_at hl 3 rfl) ?_
  refine lv_iconst (v := nI (2)) X.1 X.2.1 dX6_ifPassed_66 (by decide +kernel) ?_
  refine tb_isubN X (by decide) dX6_ifPassed_67 ?_
  refine tb_top (x2 := nI 0) rfl ?_
  refine lv_iconst (v := nI (0)) X.1 X.2.1 dX6_ifPassed_68 (by decide +kernel) ?_
  refine tb_cVi X hH hl.1 (c_X6_part l g (tb_mpZ (tb_nZ0 z) t) 0 0 (by decide)) ky_X6_part.1 ky_X6_part.2 wm_229 tb_oM rfl rfl (Nat.le_of_ble_eq_true rfl) ⟨by decide, by decide⟩ ⟨by decide, by decide⟩ dX6_ifPassed_69 (fun H locs hH => ?_)
  refine lv_istore (lv' := [(4, .int (((tb_mpZ (tb_nZ0 z) t) 158 ((11 + (46 * 0)) + 0)))), (3, .int ((tb_mpN (tb_nZ0 z) t))), (0, .ref (tb_ad g (157))), (1, .int (nI (t))), (2, .int (nI (2)))]) X.1 X.2.1 dX6_ifPassed_72 hl (by decide) rfl (fun ls hl => ?_)
  refine lv_aload_n X.1 X.2.1 dX6_ifPassed_74 rfl (lv_at hl 2 rfl) ?_
  refine tb_get X hH tb_Mc.1 (tb_Mc.2 _ _) rfl inlX6 1 (by decide) wm_100 (v := .ref (tb_ad g (159))) rfl dX6_ifPassed_75 ?_
  refine lv_iconst (v := nI (0)) X.1 X.2.1 dX6_ifPassed_78 (by decide +kernel) ?_
  refine lv_aload_n X.1 X.2.1 dX6_ifPassed_79 rfl (lv_at hl 2 rfl) ?_
  refine tb_get X hH tb_Mc.1 (tb_Mc.2 _ _) rfl inlX6 0 (by decide) wm_99 (v := .ref (tb_ad g (158))) rfl dX6_ifPassed_80 ?_
  refine lv_iconst (v := nI (0)) X.1 X.2.1 dX6_ifPassed_83 (by decide +kernel) ?_
  refine tb_cSv X hH hl.1 (c_X6_moves l g (tb_mpZ (tb_nZ0 z) t) 159 139 tb_i159 0 158 139 tb_i158 0 (by decide) (by decide) ⟨by decide, by decide⟩) ky_X6_moves.1 ky_X6_moves.2 wm_170 rfl rfl (Nat.le_of_ble_eq_true rfl) ⟨by decide, by decide⟩ ⟨by decide, by decide⟩ dX6_ifPassed_84 (fun H locs hH => ?_)
  refine lv_iload X.1 X.2.1 dX6_ifPassed_87 (lv_at hl 0 rfl) ?_
  exact tb_ri X hr hlk hH ⟨rfl, rfl⟩ dX6_ifPassed_89
set_option maxHeartbeats 1000000 in
set_option maxRecDepth 100000 in
theorem c_X6_ifPassed_3 (l : Launch) (g : tb_G) (z : tb_M) (t : Nat) (ht : 1 ≤ t ∧ t ≤ 500) (hW : ∀ i, i < t → tb_okTM (tb_mpZ (tb_nZ0 z) i)) : tb_Mi (.int) l yX6_ifPassed cX6_ifPassed 5 8 g z [.ref (tb_ad g 157), .int (nI t), .int (nI 3)] (((tb_mpZ (tb_nZ0 z) t) 158 ((11 + (46 * 1)) + 0))) (tb_mv (tb_mpZ (tb_nZ0 z) t) 159 0 158 0 139) := by
  refine tb_goi (own := RX6) (by decide +kernel) rfl (Nat.le_of_ble_eq_true rfl) ?_
  intro p e s m below meth c ls X hr hlk hH hl
  have hl : lv_has ls 5 [(0, .ref (tb_ad g (157))), (1, .int (nI (t))), (2, .int (nI (3)))] := hl
  refine lv_iload_n X.1 X.2.1 dX6_ifPassed_0 rfl (lv_at hl 1 rfl) ?_
  refine lv_iconst (v := nI (1)) X.1 X.2.1 dX6_ifPassed_1 (by decide +kernel) ?_
  refine lv_sipush (v := nI (500)) X.1 X.2.1 dX6_ifPassed_2 (by decide +kernel) ?_
  refine tb_cSi X hH hl.1 (c_X6_within l g z (nI (t)) (nI (1)) (nI (500))) ky_X6_within.1 ky_X6_within.2 wm_162 rfl rfl (Nat.le_of_ble_eq_true rfl) ⟨by decide, by decide⟩ ⟨by decide, by decide⟩ dX6_ifPassed_5 (fun H locs hH => ?_)
  refine tb_jbeq (tgt := 20) X dX6_ifPassed_8 (by decide) (fun c => (c ⟨nI_nlt (by omega) (by omega), nI_nlt (by omega) (by omega)⟩ : False).elim) (fun _ => ?_)
  refine lv_iload_n X.1 X.2.1 dX6_ifPassed_11 rfl (lv_at hl 2 rfl) ?_
  refine lv_iconst (v := nI (0)) X.1 X.2.1 dX6_ifPassed_12 (by decide +kernel) ?_
  refine lv_iconst (v := nI (3)) X.1 X.2.1 dX6_ifPassed_13 (by decide +kernel) ?_
  refine tb_cSi X hH hl.1 (c_X6_within l g z (nI (3)) (nI (0)) (nI (3))) ky_X6_within.1 ky_X6_within.2 wm_162 rfl rfl (Nat.le_of_ble_eq_true rfl) ⟨by decide, by decide⟩ ⟨by decide, by decide⟩ dX6_ifPassed_14 (fun H locs hH => ?_)
  refine tb_jbne (tgt := 23) X dX6_ifPassed_17 (by decide) (fun _ => ?_) (fun c => (c ⟨nI_nlt (by omega) (by omega), nI_nlt (by omega) (by omega)⟩ : False).elim)
  refine lv_aload_n X.1 X.2.1 dX6_ifPassed_23 rfl (lv_at hl 0 rfl) ?_
  refine tb_get X hH tb_Mc.1 (tb_Mc.2 _ _) rfl inlX6 0 (by decide) wm_99 (v := .ref (tb_ad g (158))) rfl dX6_ifPassed_24 ?_
  refine lv_iconst (v := nI (0)) X.1 X.2.1 dX6_ifPassed_27 (by decide +kernel) ?_
  refine lv_aload_n X.1 X.2.1 dX6_ifPassed_28 rfl (lv_at hl 0 rfl) ?_
  refine tb_get X hH tb_Mc.1 (tb_Mc.2 _ _) rfl inlX6 1 (by decide) wm_100 (v := .ref (tb_ad g (159))) rfl dX6_ifPassed_29 ?_
  refine lv_iconst (v := nI (0)) X.1 X.2.1 dX6_ifPassed_32 (by decide +kernel) ?_
  refine tb_cSv X hH hl.1 (c_X6_moves l g z 158 139 tb_i158 0 159 139 tb_i159 0 (by decide) (by decide) ⟨by decide, by decide⟩) ky_X6_moves.1 ky_X6_moves.2 wm_170 rfl rfl (Nat.le_of_ble_eq_true rfl) ⟨by decide, by decide⟩ ⟨by decide, by decide⟩ dX6_ifPassed_33 (fun H locs hH => ?_)
  have hH : tb_H g s.heap (tb_nZ0 z) H locs := hH
  refine lv_aload_n X.1 X.2.1 dX6_ifPassed_36 rfl (lv_at hl 0 rfl) ?_
  refine lv_iload_n X.1 X.2.1 dX6_ifPassed_37 rfl (lv_at hl 1 rfl) ?_
  refine tb_cVi X hH hl.1 (c_X6_passes l g (tb_nZ0 z) t (by omega) hW) ky_X6_passes.1 ky_X6_passes.2 wm_439 tb_oM rfl rfl (Nat.le_of_ble_eq_true rfl) ⟨by decide, by decide⟩ ⟨by decide, by decide⟩ dX6_ifPassed_38 (fun H locs hH => ?_)
  refine lv_istore_n (lv' := [(3, .int ((tb_mpN (tb_nZ0 z) t))), (0, .ref (tb_ad g (157))), (1, .int (nI (t))), (2, .int (nI (3)))]) X.1 X.2.1 dX6_ifPassed_41 rfl hl (by decide) rfl (fun ls hl => ?_)
  refine lv_iload_n X.1 X.2.1 dX6_ifPassed_42 rfl (lv_at hl 3 rfl) ?_
  refine tb_zne (tgt := 50) X (by omega) dX6_ifPassed_43 (by decide) (fun _ => ?_) (fun c => ((by revert c; decide +kernel) : False).elim)
  refine lv_iload_n X.1 X.2.1 dX6_ifPassed_50 rfl (lv_at hl 3 rfl) ?_
  refine lv_iconst (v := nI (1)) X.1 X.2.1 dX6_ifPassed_51 (by decide +kernel) ?_
  refine tb_nne (tgt := 64) X (by omega) (by omega) dX6_ifPassed_52 (by decide) (fun _ => ?_) (fun c => ((by omega) : False).elim)
  refine lv_aload_n X.1 X.2.1 dX6_ifPassed_64 rfl (lv_at hl 1 rfl) ?_
  refine lv_iload_n X.1 X.2.1 dX6_ifPassed_65 rfl (lv_at hl 3 rfl) ?_
  refine lv_iconst (v := nI (2)) X.1 X.2.1 dX6_ifPassed_66 (by decide +kernel) ?_
  refine tb_isubN X (by decide) dX6_ifPassed_67 ?_
  refine tb_top (x2 := nI 1) rfl ?_
  refine lv_iconst (v := nI (0)) X.1 X.2.1 dX6_ifPassed_68 (by decide +kernel) ?_
  refine tb_cVi X hH hl.1 (c_X6_part l g (tb_mpZ (tb_nZ0 z) t) 1 0 (by decide)) ky_X6_part.1 ky_X6_part.2 wm_229 tb_oM rfl rfl (Nat.le_of_ble_eq_true rfl) ⟨by decide, by decide⟩ ⟨by decide, by decide⟩ dX6_ifPassed_69 (fun H locs hH => ?_)
  refine lv_istore (lv' := [(4, .int (((tb_mpZ (tb_nZ0 z) t) 158 ((11 + (46 * 1)) + 0)))), (3, .int ((tb_mpN (tb_nZ0 z) t))), (0, .ref (tb_ad g (157))), (1, .int (nI (t))), (2, .int (nI (3)))]) X.1 X.2.1 dX6_ifPassed_72 hl (by decide) rfl (fun ls hl => ?_)
  refine lv_aload_n X.1 X.2.1 dX6_ifPassed_74 rfl (lv_at hl 2 rfl) ?_
  refine tb_get X hH tb_Mc.1 (tb_Mc.2 _ _) rfl inlX6 1 (by decide) wm_100 (v := .ref (tb_ad g (159))) rfl dX6_ifPassed_75 ?_
  refine lv_iconst (v := nI (0)) X.1 X.2.1 dX6_ifPassed_78 (by decide +kernel) ?_
  refine lv_aload_n X.1 X.2.1 dX6_ifPassed_79 rfl (lv_at hl 2 rfl) ?_
  refine tb_get X hH tb_Mc.1 (tb_Mc.2 _ _) rfl inlX6 0 (by decide) wm_99 (v := .ref (tb_ad g (158))) rfl dX6_ifPassed_80 ?_
  refine lv_iconst (v := nI (0)) X.1 X.2.1 dX6_ifPassed_83 (by decide +kernel) ?_
  refine tb_cSv X hH hl.1 (c_X6_moves l g (tb_mpZ (tb_nZ0 z) t) 159 139 tb_i159 0 158 139 tb_i158 0 (by decide) (by decide) ⟨by decide, by decide⟩) ky_X6_moves.1 ky_X6_moves.2 wm_170 rfl rfl (Nat.le_of_ble_eq_true rfl) ⟨by decide, by decide⟩ ⟨by decide, by decide⟩ dX6_ifPassed_84 (fun H locs hH => ?_)
  refine lv_iload X.1 X.2.1 dX6_ifPassed_87 (lv_at hl 0 rfl) ?_
  exact tb_ri X hr hlk hH ⟨rfl, rfl⟩ dX6_ifPassed_89
def sz_X6_nextStart (z : tb_M)  : tb_M := tb_mv (tb_mpZ (tb_nZ0 z) (tb_nJ (tb_nZ0 z) 2000 0 false)) 159 0 158 0 139
def sr_X6_nextStart (z : tb_M)  : Int32 := if tb_nB (tb_nZ0 z) 2000 0 false = true then (nI (tb_nJ (tb_nZ0 z) 2000 0 false)) else ((-6))
set_option maxHeartbeats 1000000 in
set_option maxRecDepth 100000 in
theorem c_X6_nextStart (l : Launch) (g : tb_G) (z : tb_M) (hW : ∀ i, i < 2000 → tb_okTM (tb_mpZ (tb_nZ0 z) i)) : tb_Mi (.int) l yX6_nextStart cX6_nextStart 3 7 g z [.ref (tb_ad g 157)] (sr_X6_nextStart z ) (sz_X6_nextStart z ) := by
  refine tb_goi (own := RX6) (by decide +kernel) rfl (Nat.le_of_ble_eq_true rfl) ?_
  intro p e s m below meth c ls X hr hlk hH hl
  have hl : lv_has ls 3 [(0, .ref (tb_ad g (157)))] := hl
  have hj9 : tb_nJ (tb_nZ0 z) 2000 0 false ≤ 2000 := tb_nJ_le _ _ _ _
  refine lv_aload_n X.1 X.2.1 dX6_nextStart_0 rfl (lv_at hl 0 rfl) ?_
  refine tb_get X hH tb_Mc.1 (tb_Mc.2 _ _) rfl inlX6 0 (by decide) wm_99 (v := .ref (tb_ad g (158))) rfl dX6_nextStart_1 ?_
  refine lv_iconst (v := nI (0)) X.1 X.2.1 dX6_nextStart_4 (by decide +kernel) ?_
  refine lv_aload_n X.1 X.2.1 dX6_nextStart_5 rfl (lv_at hl 0 rfl) ?_
  refine tb_get X hH tb_Mc.1 (tb_Mc.2 _ _) rfl inlX6 1 (by decide) wm_100 (v := .ref (tb_ad g (159))) rfl dX6_nextStart_6 ?_
  refine lv_iconst (v := nI (0)) X.1 X.2.1 dX6_nextStart_9 (by decide +kernel) ?_
  refine tb_cSv X hH hl.1 (c_X6_moves l g z 158 139 tb_i158 0 159 139 tb_i159 0 (by decide) (by decide) ⟨by decide, by decide⟩) ky_X6_moves.1 ky_X6_moves.2 wm_170 rfl rfl (Nat.le_of_ble_eq_true rfl) ⟨by decide, by decide⟩ ⟨by decide, by decide⟩ dX6_nextStart_10 (fun H locs hH => ?_)
  have hH : tb_H g s.heap (tb_nZ0 z) H locs := hH
  refine lv_iconst (v := nI (0)) X.1 X.2.1 dX6_nextStart_13 (by decide +kernel) ?_
  refine lv_istore_n (lv' := [(1, .int (nI (0))), (0, .ref (tb_ad g (157)))]) X.1 X.2.1 dX6_nextStart_14 rfl hl (by decide) rfl (fun ls hl => ?_)
  refine lv_iconst (v := nI (0)) X.1 X.2.1 dX6_nextStart_15 (by decide +kernel) ?_
  refine lv_istore_n (lv' := [(2, .int (nI (0))), (1, .int (nI (0))), (0, .ref (tb_ad g (157)))]) X.1 X.2.1 dX6_nextStart_16 rfl hl (by decide) rfl (fun ls hl => ?_)
  have K_39 : ∀ (H : Heap) (locs : List Loc) (ls : Array Slot), tb_H g s.heap (tb_mpZ (tb_nZ0 z) (tb_nJ (tb_nZ0 z) 2000 0 false)) H locs → lv_has ls 3 [(0, .ref (tb_ad g (157))), (1, .int (nI (tb_nJ (tb_nZ0 z) 2000 0 false))), (2, .int (tb_b (tb_nB (tb_nZ0 z) 2000 0 false = true)))] → W p l e (tb_rm 7) s m ([.ref (tb_ad g 157)] : List Value).toArray below meth c H locs 0 0 (MQ below (va_Qi (fun r9 u9 => r9 = sr_X6_nextStart z  ∧ u9 = sz_X6_nextStart z ) (tb_B g) (tb_A g)) ([.ref (tb_ad g 157)] : List Value).toArray s 0 0 (tb_A g)) (F0 m 39 ls []) := by
    intro H locs ls hH hl
    refine lv_aload_n X.1 X.2.1 dX6_nextStart_39 rfl (lv_at hl 0 rfl) ?_
    refine tb_get X hH tb_Mc.1 (tb_Mc.2 _ _) rfl inlX6 1 (by decide) wm_100 (v := .ref (tb_ad g (159))) rfl dX6_nextStart_40 ?_
    refine lv_iconst (v := nI (0)) X.1 X.2.1 dX6_nextStart_43 (by decide +kernel) ?_
    refine lv_aload_n X.1 X.2.1 dX6_nextStart_44 rfl (lv_at hl 0 rfl) ?_
    refine tb_get X hH tb_Mc.1 (tb_Mc.2 _ _) rfl inlX6 0 (by decide) wm_99 (v := .ref (tb_ad g (158))) rfl dX6_nextStart_45 ?_
    refine lv_iconst (v := nI (0)) X.1 X.2.1 dX6_nextStart_48 (by decide +kernel) ?_
    refine tb_cSv X hH hl.1 (c_X6_moves l g (tb_mpZ (tb_nZ0 z) (tb_nJ (tb_nZ0 z) 2000 0 false)) 159 139 tb_i159 0 158 139 tb_i158 0 (by decide) (by decide) ⟨by decide, by decide⟩) ky_X6_moves.1 ky_X6_moves.2 wm_170 rfl rfl (Nat.le_of_ble_eq_true rfl) ⟨by decide, by decide⟩ ⟨by decide, by decide⟩ dX6_nextStart_49 (fun H locs hH => ?_)
    refine lv_iload_n X.1 X.2.1 dX6_nextStart_52 rfl (lv_at hl 2 rfl) ?_
    have J_1 : ∀ (H : Heap) (locs : List Loc) (ls : Array Slot) (vq1 : Int32), vq1 = (if tb_nB (tb_nZ0 z) 2000 0 false = true then (nI (tb_nJ (tb_nZ0 z) 2000 0 false)) else ((-6))) → tb_H g s.heap (tb_mv (tb_mpZ (tb_nZ0 z) (tb_nJ (tb_nZ0 z) 2000 0 false)) 159 0 158 0 139) H locs → lv_has ls 3 [(0, .ref (tb_ad g (157))), (1, .int (nI (tb_nJ (tb_nZ0 z) 2000 0 false))), (2, .int (tb_b (tb_nB (tb_nZ0 z) 2000 0 false = true)))] → W p l e (tb_rm 7) s m ([.ref (tb_ad g 157)] : List Value).toArray below meth c H locs 0 0 (MQ below (va_Qi (fun r9 u9 => r9 = sr_X6_nextStart z  ∧ u9 = sz_X6_nextStart z ) (tb_B g) (tb_A g)) ([.ref (tb_ad g 157)] : List Value).toArray s 0 0 (tb_A g)) (F0 m 62 ls [.int vq1]) := by
      intro H locs ls vq1 evq1 hH hl
      subst evq1
      exact tb_ri X hr hlk hH ⟨(by rw [sr_X6_nextStart]), (by rw [sz_X6_nextStart])⟩ dX6_nextStart_62
    refine tb_jbeq (tgt := 60) X dX6_nextStart_53 (by decide) (fun c_51 => ?_) (fun c_51 => ?_)
    · refine lv_bipush (v := (-6)) X.1 X.2.1 dX6_nextStart_60 (by decide +kernel) ?_
      exact J_1 _ _ _ _ (by simp only [if_neg c_51]) hH (lv_sub hl [0, 1, 2] rfl)
    · refine lv_iload_n X.1 X.2.1 dX6_nextStart_56 rfl (lv_at hl 1 rfl) ?_
      refine lv_goto (tgt := 62) X.1 X.2.1 dX6_nextStart_57 (by decide) ?_
      exact J_1 _ _ _ _ (by simp only [if_pos c_51]) hH (lv_sub hl [0, 1, 2] rfl)
  have L_17 : ∀ (k : Nat) (i : Nat) (b : Bool), i + k = 2000 → tb_nJ (tb_nZ0 z) 2000 0 false = tb_nJ (tb_nZ0 z) k i b → tb_nB (tb_nZ0 z) 2000 0 false = tb_nB (tb_nZ0 z) k i b → ∀ (H : Heap) (locs : List Loc) (ls : Array Slot), tb_H g s.heap (tb_mpZ (tb_nZ0 z) i) H locs → lv_has ls 3 [(0, .ref (tb_ad g (157))), (1, .int (nI (i))), (2, .int (tb_b (b = true)))] → W p l e (tb_rm 7) s m ([.ref (tb_ad g 157)] : List Value).toArray below meth c H locs 0 0 (MQ below (va_Qi (fun r9 u9 => r9 = sr_X6_nextStart z  ∧ u9 = sz_X6_nextStart z ) (tb_B g) (tb_A g)) ([.ref (tb_ad g 157)] : List Value).toArray s 0 0 (tb_A g)) (F0 m 17 ls []) := by
    intro k
    induction k with
    | zero =>
      intro i b hik hI hB H locs ls hH hl
      refine lv_iload_n X.1 X.2.1 dX6_nextStart_17 rfl (lv_at hl 2 rfl) ?_
      refine tb_jbne (tgt := 39) X dX6_nextStart_18 (by decide) (fun c_52 => ?_) (fun c_52 => ?_)
      · exact K_39 _ _ _ (by first | (rw [hI]; exact hH) | (rw [hI, tb_nJ, if_pos c_52]; exact hH)) (by first | (rw [hI, hB]; exact (lv_sub hl [0, 1, 2] rfl)) | (rw [hI, hB, tb_nJ, tb_nB, if_pos c_52, if_pos c_52]; exact (lv_sub hl [0, 1, 2] rfl)))
      · refine lv_iload_n X.1 X.2.1 dX6_nextStart_21 rfl (lv_at hl 1 rfl) ?_
        refine lv_sipush (v := nI (2000)) X.1 X.2.1 dX6_nextStart_22 (by decide +kernel) ?_
        refine tb_nge (tgt := 39) X (by omega) (by omega) dX6_nextStart_25 (by decide) (fun _ => ?_) (fun c => ((by omega) : False).elim)
        exact K_39 _ _ _ (by first | (rw [hI]; exact hH) | (rw [hI, tb_nJ, if_pos c_52]; exact hH)) (by first | (rw [hI, hB]; exact (lv_sub hl [0, 1, 2] rfl)) | (rw [hI, hB, tb_nJ, tb_nB, if_pos c_52, if_pos c_52]; exact (lv_sub hl [0, 1, 2] rfl)))
    | succ k ih_17 =>
      intro i b hik hI hB H locs ls hH hl
      refine lv_iload_n X.1 X.2.1 dX6_nextStart_17 rfl (lv_at hl 2 rfl) ?_
      refine tb_jbne (tgt := 39) X dX6_nextStart_18 (by decide) (fun c_53 => ?_) (fun c_53 => ?_)
      · exact K_39 _ _ _ (by first | (rw [hI]; exact hH) | (rw [hI, tb_nJ, if_pos c_53]; exact hH)) (by first | (rw [hI, hB]; exact (lv_sub hl [0, 1, 2] rfl)) | (rw [hI, hB, tb_nJ, tb_nB, if_pos c_53, if_pos c_53]; exact (lv_sub hl [0, 1, 2] rfl)))
      · refine lv_iload_n X.1 X.2.1 dX6_nextStart_21 rfl (lv_at hl 1 rfl) ?_
        refine lv_sipush (v := nI (2000)) X.1 X.2.1 dX6_nextStart_22 (by decide +kernel) ?_
        refine tb_nge (tgt := 39) X (by omega) (by omega) dX6_nextStart_25 (by decide) (fun c => ((by omega) : False).elim) (fun _ => ?_)
        refine lv_aload_n X.1 X.2.1 dX6_nextStart_28 rfl (lv_at hl 0 rfl) ?_
        refine tb_cVi X hH hl.1 (c_X6_tick l g (tb_mpZ (tb_nZ0 z) i) (hW i (by omega))) ky_X6_tick.1 ky_X6_tick.2 wm_443 tb_oM rfl rfl (Nat.le_of_ble_eq_true rfl) ⟨by decide, by decide⟩ ⟨by decide, by decide⟩ dX6_nextStart_29 (fun H locs hH => ?_)
        refine tb_top (x2 := tb_b (decide ((sp_X6_tick (tb_mpZ (tb_nZ0 z) i) )) = true)) (tb_b_c tb_decP) ?_
        refine lv_istore_n (lv' := [(2, .int (tb_b (decide ((sp_X6_tick (tb_mpZ (tb_nZ0 z) i) )) = true))), (0, .ref (tb_ad g (157))), (1, .int (nI (i)))]) X.1 X.2.1 dX6_nextStart_32 rfl hl (by decide) rfl (fun ls hl => ?_)
        refine lv_iinc (v := nI (i + 1)) (lv' := [(1, .int (nI (i + 1))), (2, .int (tb_b (decide ((sp_X6_tick (tb_mpZ (tb_nZ0 z) i) )) = true))), (0, .ref (tb_ad g (157)))]) X.1 X.2.1 dX6_nextStart_33 hl (k := 2) rfl (nI_add _ _) (by decide) rfl (fun ls hl => ?_)
        refine lv_goto (tgt := 17) X.1 X.2.1 dX6_nextStart_36 (by decide) ?_
        exact ih_17 (i + 1) (decide (sp_X6_tick (tb_mpZ (tb_nZ0 z) i))) (by omega) (by rw [hI, tb_nJ, if_neg c_53]) (by rw [hB, tb_nB, if_neg c_53]) _ _ _ hH (lv_sub hl [2, 0, 1] rfl)
  exact L_17 2000 0 false rfl rfl rfl _ _ _ hH (lv_sub hl [2, 1, 0] rfl)
set_option maxHeartbeats 1000000 in
set_option maxRecDepth 100000 in
theorem c_X6_lasts_len (l : Launch) (g : tb_G) (z : tb_M) (sl : Nat) (n : Int32) (hsl : sl < 2) (hn : ¬ (¬ (n < nI 2) ∧ (¬ (nI 32 < n)))) : tb_Mi (.int) l yX6_lasts cX6_lasts 4 2 g z [.ref (tb_ad g 157), .int (nI sl), .int n] ((-2)) (z) := by
  refine tb_goi (own := RX6) (by decide +kernel) rfl (Nat.le_of_ble_eq_true rfl) ?_
  intro p e s m below meth c ls X hr hlk hH hl
  have hl : lv_has ls 4 [(0, .ref (tb_ad g (157))), (1, .int (nI (sl))), (2, .int (n))] := hl
  refine lv_iload_n X.1 X.2.1 dX6_lasts_0 rfl (lv_at hl 1 rfl) ?_
  refine tb_cSi X hH hl.1 (c_X6_isSlot l g z (nI (sl))) ky_X6_isSlot.1 ky_X6_isSlot.2 wm_215 rfl rfl (Nat.le_of_ble_eq_true rfl) ⟨by decide, by decide⟩ ⟨by decide, by decide⟩ dX6_lasts_1 (fun H locs hH => ?_)
  refine tb_jbne (tgt := 9) X dX6_lasts_4 (by decide) (fun _ => ?_) (fun c => (c ⟨nI_nlt (by omega) (by omega), nI_nlt (by omega) (by omega)⟩ : False).elim)
  refine lv_iload_n X.1 X.2.1 dX6_lasts_9 rfl (lv_at hl 2 rfl) ?_
  refine lv_iconst (v := nI (2)) X.1 X.2.1 dX6_lasts_10 (by decide +kernel) ?_
  refine lv_bipush (v := nI (32)) X.1 X.2.1 dX6_lasts_11 (by decide +kernel) ?_
  refine tb_cSi X hH hl.1 (c_X6_within l g z n (nI (2)) (nI (32))) ky_X6_within.1 ky_X6_within.2 wm_162 rfl rfl (Nat.le_of_ble_eq_true rfl) ⟨by decide, by decide⟩ ⟨by decide, by decide⟩ dX6_lasts_13 (fun H locs hH => ?_)
  refine tb_jbne (tgt := 22) X dX6_lasts_16 (by decide) (fun c => (hn c : False).elim) (fun _ => ?_)
  refine lv_bipush (v := (-2)) X.1 X.2.1 dX6_lasts_19 (by decide +kernel) ?_
  exact tb_ri X hr hlk hH ⟨rfl, rfl⟩ dX6_lasts_21
def sr_X6_lasts (z : tb_M) (sl : Nat) (n : Nat) : Int32 := if 0 ≤ ((z 158 2) - ((tb_gx (fun i => z 158 ((11 + (46 * sl)) + (6 + i))) (((n + 4 - 1) / 4))))) then ((z 158 2) - ((tb_gx (fun i => z 158 ((11 + (46 * sl)) + (6 + i))) (((n + 4 - 1) / 4))))) else (nI (0))
set_option maxHeartbeats 1000000 in
set_option maxRecDepth 100000 in
theorem c_X6_lasts (l : Launch) (g : tb_G) (z : tb_M) (sl : Nat) (n : Nat) (hsl : sl < 2) (hn : 2 ≤ n ∧ n ≤ 32) : tb_Mi (.int) l yX6_lasts cX6_lasts 4 2 g z [.ref (tb_ad g 157), .int (nI sl), .int (nI n)] (sr_X6_lasts z sl n) (z) := by
  refine tb_goi (own := RX6) (by decide +kernel) rfl (Nat.le_of_ble_eq_true rfl) ?_
  intro p e s m below meth c ls X hr hlk hH hl
  have hl : lv_has ls 4 [(0, .ref (tb_ad g (157))), (1, .int (nI (sl))), (2, .int (nI (n)))] := hl
  refine lv_iload_n X.1 X.2.1 dX6_lasts_0 rfl (lv_at hl 1 rfl) ?_
  refine tb_cSi X hH hl.1 (c_X6_isSlot l g z (nI (sl))) ky_X6_isSlot.1 ky_X6_isSlot.2 wm_215 rfl rfl (Nat.le_of_ble_eq_true rfl) ⟨by decide, by decide⟩ ⟨by decide, by decide⟩ dX6_lasts_1 (fun H locs hH => ?_)
  refine tb_jbne (tgt := 9) X dX6_lasts_4 (by decide) (fun _ => ?_) (fun c => (c ⟨nI_nlt (by omega) (by omega), nI_nlt (by omega) (by omega)⟩ : False).elim)
  refine lv_iload_n X.1 X.2.1 dX6_lasts_9 rfl (lv_at hl 2 rfl) ?_
  refine lv_iconst (v := nI (2)) X.1 X.2.1 dX6_lasts_10 (by decide +kernel) ?_
  refine lv_bipush (v := nI (32)) X.1 X.2.1 dX6_lasts_11 (by decide +kernel) ?_
  refine tb_cSi X hH hl.1 (c_X6_within l g z (nI (n)) (nI (2)) (nI (32))) ky_X6_within.1 ky_X6_within.2 wm_162 rfl rfl (Nat.le_of_ble_eq_true rfl) ⟨by decide, by decide⟩ ⟨by decide, by decide⟩ dX6_lasts_13 (fun H locs hH => ?_)
  refine tb_jbne (tgt := 22) X dX6_lasts_16 (by decide) (fun _ => ?_) (fun c => (c ⟨nI_nlt (by omega) (by omega), nI_nlt (by omega) (by omega)⟩ : False).elim)
  refine lv_aload_n X.1 X.2.1 dX6_lasts_22 rfl (lv_at hl 0 rfl) ?_
  refine tb_get X hH tb_Mc.1 (tb_Mc.2 _ _) rfl inlX6 0 (by decide) wm_99 (v := .ref (tb_ad g (158))) rfl dX6_lasts_23 ?_
  refine lv_iconst (v := nI (2)) X.1 X.2.1 dX6_lasts_26 (by decide +kernel) ?_
  refine tb_ald X hH tb_i158 (2) rfl (by decide) (by first | decide | omega) dX6_lasts_27 ?_
  refine lv_aload_n X.1 X.2.1 dX6_lasts_28 rfl (lv_at hl 0 rfl) ?_
  refine lv_iload_n X.1 X.2.1 dX6_lasts_29 rfl (lv_at hl 1 rfl) ?_
  refine lv_iload_n X.1 X.2.1 dX6_lasts_30 rfl (lv_at hl 2 rfl) ?_
  refine tb_cSi X hH hl.1 (c_X6_pagesOf l g z n (by omega)) ky_X6_pagesOf.1 ky_X6_pagesOf.2 wm_218 rfl rfl (Nat.le_of_ble_eq_true rfl) ⟨by decide, by decide⟩ ⟨by decide, by decide⟩ dX6_lasts_31 (fun H locs hH => ?_)
  refine tb_cVi X hH hl.1 (c_X6_greatestWear l g z sl (((n + 4 - 1) / 4)) hsl (by omega)) ky_X6_greatestWear.1 ky_X6_greatestWear.2 wm_237 tb_oM rfl rfl (Nat.le_of_ble_eq_true rfl) ⟨by decide, by decide⟩ ⟨by decide, by decide⟩ dX6_lasts_34 (fun H locs hH => ?_)
  refine lv_isub X.1 X.2.1 dX6_lasts_37 ?_
  refine lv_istore_n (lv' := [(3, .int ((z 158 2) - ((tb_gx (fun i => z 158 ((11 + (46 * sl)) + (6 + i))) (((n + 4 - 1) / 4)))))), (0, .ref (tb_ad g (157))), (1, .int (nI (sl))), (2, .int (nI (n)))]) X.1 X.2.1 dX6_lasts_38 rfl hl (by decide) rfl (fun ls hl => ?_)
  refine lv_iload_n X.1 X.2.1 dX6_lasts_39 rfl (lv_at hl 0 rfl) ?_
  have J_1 : ∀ (H : Heap) (locs : List Loc) (ls : Array Slot) (vq1 : Int32), vq1 = (if 0 ≤ ((z 158 2) - ((tb_gx (fun i => z 158 ((11 + (46 * sl)) + (6 + i))) (((n + 4 - 1) / 4))))) then ((z 158 2) - ((tb_gx (fun i => z 158 ((11 + (46 * sl)) + (6 + i))) (((n + 4 - 1) / 4))))) else (nI (0))) → tb_H g s.heap z H locs → lv_has ls 4 [(3, .int ((z 158 2) - ((tb_gx (fun i => z 158 ((11 + (46 * sl)) + (6 + i))) (((n + 4 - 1) / 4)))))), (0, .ref (tb_ad g (157))), (1, .int (nI (sl))), (2, .int (nI (n)))] → W p l e (tb_rm 2) s m ([.ref (tb_ad g 157), .int (nI sl), .int (nI n)] : List Value).toArray below meth c H locs 0 0 (MQ below (va_Qi (fun r9 u9 => r9 = sr_X6_lasts z sl n ∧ u9 = z) (tb_B g) (tb_A g)) ([.ref (tb_ad g 157), .int (nI sl), .int (nI n)] : List Value).toArray s 0 0 (tb_A g)) (F0 m 48 ls [.int vq1]) := by
    intro H locs ls vq1 evq1 hH hl
    subst evq1
    exact tb_ri X hr hlk hH ⟨(by rw [sr_X6_lasts]), rfl⟩ dX6_lasts_48
  refine lv_if_ge (tgt := 47) X.1 X.2.1 dX6_lasts_40 (by decide) (fun c_1 => ?_) (fun c_1 => ?_)
  · refine lv_iload_n X.1 X.2.1 dX6_lasts_47 rfl (lv_at hl 0 rfl) ?_
    exact J_1 _ _ _ _ (by simp only [if_pos c_1]) hH (lv_sub hl [0, 1, 2, 3] rfl)
  · refine lv_iconst (v := nI (0)) X.1 X.2.1 dX6_lasts_43 (by decide +kernel) ?_
    refine lv_goto (tgt := 48) X.1 X.2.1 dX6_lasts_44 (by decide) ?_
    exact J_1 _ _ _ _ (by simp only [if_neg c_1]) hH (lv_sub hl [0, 1, 2, 3] rfl)
def sz_X6_undo (z : tb_M)  : tb_M := if (tb_rcM z) = 0 then z else (tb_mv (tb_up z 157 3 (nI ((tb_rcM z) - 1))) 160 ((tb_rcM z - 1) * 139) 158 0 139)
def sr_X6_undo (z : tb_M)  : Int32 := if (tb_rcM z) = 0 then ((-5)) else ((tb_mv (tb_up z 157 3 (nI ((tb_rcM z) - 1))) 160 ((tb_rcM z - 1) * 139) 158 0 139) 157 3)
set_option maxHeartbeats 1000000 in
set_option maxRecDepth 100000 in
theorem c_X6_undo (l : Launch) (g : tb_G) (z : tb_M) (hrc : tb_okRM z) : tb_Mi (.int) l yX6_undo cX6_undo 1 1 g z [.ref (tb_ad g 157)] (sr_X6_undo z ) (sz_X6_undo z ) := by
  refine tb_goi (own := RX6) (by decide +kernel) rfl (Nat.le_of_ble_eq_true rfl) ?_
  intro p e s m below meth c ls X hr hlk hH hl
  have hl : lv_has ls 1 [(0, .ref (tb_ad g (157)))] := hl
  have hrc2 := hrc.2
  refine lv_aload_n X.1 X.2.1 dX6_undo_0 rfl (lv_at hl 0 rfl) ?_
  refine tb_get X hH tb_Mc.1 (tb_Mc.2 _ _) rfl inlX6 3 (by decide) wm_169 (v := .int (z 157 3)) rfl dX6_undo_1 ?_
  refine tb_top (x2 := nI (tb_rcM z)) (hrc.1) ?_
  refine tb_zne (tgt := 10) X (by omega) dX6_undo_4 (by decide) (fun c_1 => ?_) (fun c_1 => ?_)
  · refine lv_aload_n X.1 X.2.1 dX6_undo_10 rfl (lv_at hl 0 rfl) ?_
    refine lv_dup X.1 X.2.1 dX6_undo_11 rfl ?_
    refine tb_get X hH tb_Mc.1 (tb_Mc.2 _ _) rfl inlX6 3 (by decide) wm_169 (v := .int (z 157 3)) rfl dX6_undo_12 ?_
    refine tb_top (x2 := nI (tb_rcM z)) (hrc.1) ?_
    refine lv_iconst (v := nI (1)) X.1 X.2.1 dX6_undo_15 (by decide +kernel) ?_
    refine tb_isubN X (by omega) dX6_undo_16 ?_
    refine tb_putM X hH 3 (by decide) wm_169 dX6_undo_17 (fun H locs hH => ?_)
    refine lv_aload_n X.1 X.2.1 dX6_undo_20 rfl (lv_at hl 0 rfl) ?_
    refine tb_get X hH tb_Mc.1 (tb_Mc.2 _ _) rfl inlX6 2 (by decide) wm_101 (v := .ref (tb_ad g (160))) rfl dX6_undo_21 ?_
    refine lv_aload_n X.1 X.2.1 dX6_undo_24 rfl (lv_at hl 0 rfl) ?_
    refine tb_get X hH tb_Mc.1 (tb_Mc.2 _ _) rfl inlX6 3 (by decide) wm_169 (v := .int ((tb_up z 157 3 (nI ((tb_rcM z) - 1))) 157 3)) rfl dX6_undo_25 ?_
    refine tb_top (x2 := nI (tb_rcM z - 1)) (tb_up_s _ _ _ _) ?_
    refine lv_sipush (v := nI (139)) X.1 X.2.1 dX6_undo_28 (by decide +kernel) ?_
    refine tb_imulN X dX6_undo_31 ?_
    refine lv_aload_n X.1 X.2.1 dX6_undo_32 rfl (lv_at hl 0 rfl) ?_
    refine tb_get X hH tb_Mc.1 (tb_Mc.2 _ _) rfl inlX6 0 (by decide) wm_99 (v := .ref (tb_ad g (158))) rfl dX6_undo_33 ?_
    refine lv_iconst (v := nI (0)) X.1 X.2.1 dX6_undo_36 (by decide +kernel) ?_
    refine tb_cSv X hH hl.1 (c_X6_moves l g (tb_up z 157 3 (nI ((tb_rcM z) - 1))) 160 834 tb_i160 ((tb_rcM z - 1) * 139) 158 139 tb_i158 0 (by omega) (by decide) ⟨by decide, by decide⟩) ky_X6_moves.1 ky_X6_moves.2 wm_170 rfl rfl (Nat.le_of_ble_eq_true rfl) ⟨by decide, by decide⟩ ⟨by decide, by decide⟩ dX6_undo_37 (fun H locs hH => ?_)
    refine lv_aload_n X.1 X.2.1 dX6_undo_40 rfl (lv_at hl 0 rfl) ?_
    refine tb_get X hH tb_Mc.1 (tb_Mc.2 _ _) rfl inlX6 3 (by decide) wm_169 (v := .int ((tb_mv (tb_up z 157 3 (nI ((tb_rcM z) - 1))) 160 ((tb_rcM z - 1) * 139) 158 0 139) 157 3)) rfl dX6_undo_41 ?_
    exact tb_ri X hr hlk hH ⟨(by rw [sr_X6_undo]; simp only [if_neg c_1]), (by rw [sz_X6_undo]; simp only [if_neg c_1])⟩ dX6_undo_44
  · refine lv_bipush (v := (-5)) X.1 X.2.1 dX6_undo_7 (by decide +kernel) ?_
    exact tb_ri X hr hlk hH ⟨(by rw [sr_X6_undo]; simp only [if_pos c_1]), (by rw [sz_X6_undo]; simp only [if_pos c_1])⟩ dX6_undo_9
set_option maxHeartbeats 1000000 in
set_option maxRecDepth 100000 in
theorem c_X6_save_bad (l : Launch) (g : tb_G) (z : tb_M) (x : Int32) (hx : ¬ (¬ (x < nI 0) ∧ (¬ (nI 1 < x)))) : tb_Mi (.int) l yX6_save cX6_save 2 1 g z [.ref (tb_ad g 157), .int x] ((-2)) (z) := by
  refine tb_goi (own := RX6) (by decide +kernel) rfl (Nat.le_of_ble_eq_true rfl) ?_
  intro p e s m below meth c ls X hr hlk hH hl
  have hl : lv_has ls 2 [(0, .ref (tb_ad g (157))), (1, .int (x))] := hl
  refine lv_iload_n X.1 X.2.1 dX6_save_0 rfl (lv_at hl 1 rfl) ?_
  refine lv_iconst (v := nI (0)) X.1 X.2.1 dX6_save_1 (by decide +kernel) ?_
  refine lv_iconst (v := nI (1)) X.1 X.2.1 dX6_save_2 (by decide +kernel) ?_
  refine tb_cSi X hH hl.1 (c_X6_within l g z x (nI (0)) (nI (1))) ky_X6_within.1 ky_X6_within.2 wm_162 rfl rfl (Nat.le_of_ble_eq_true rfl) ⟨by decide, by decide⟩ ⟨by decide, by decide⟩ dX6_save_3 (fun H locs hH => ?_)
  refine tb_jbne (tgt := 12) X dX6_save_6 (by decide) (fun c => (hx c : False).elim) (fun _ => ?_)
  refine lv_bipush (v := (-2)) X.1 X.2.1 dX6_save_9 (by decide +kernel) ?_
  exact tb_ri X hr hlk hH ⟨rfl, rfl⟩ dX6_save_11
def sr_X6_save (z : tb_M) (q : Nat) : Int32 := (tb_up (tb_mv z 158 0 161 (139 * q) 139) 162 q (nI (1))) 158 3
set_option maxHeartbeats 1000000 in
set_option maxRecDepth 100000 in
theorem c_X6_save (l : Launch) (g : tb_G) (z : tb_M) (q : Nat) (hq : q < 2) : tb_Mi (.int) l yX6_save cX6_save 2 1 g z [.ref (tb_ad g 157), .int (nI q)] (sr_X6_save z q) (tb_up (tb_mv z 158 0 161 (139 * q) 139) 162 q (nI (1))) := by
  refine tb_goi (own := RX6) (by decide +kernel) rfl (Nat.le_of_ble_eq_true rfl) ?_
  intro p e s m below meth c ls X hr hlk hH hl
  have hl : lv_has ls 2 [(0, .ref (tb_ad g (157))), (1, .int (nI (q)))] := hl
  refine lv_iload_n X.1 X.2.1 dX6_save_0 rfl (lv_at hl 1 rfl) ?_
  refine lv_iconst (v := nI (0)) X.1 X.2.1 dX6_save_1 (by decide +kernel) ?_
  refine lv_iconst (v := nI (1)) X.1 X.2.1 dX6_save_2 (by decide +kernel) ?_
  refine tb_cSi X hH hl.1 (c_X6_within l g z (nI (q)) (nI (0)) (nI (1))) ky_X6_within.1 ky_X6_within.2 wm_162 rfl rfl (Nat.le_of_ble_eq_true rfl) ⟨by decide, by decide⟩ ⟨by decide, by decide⟩ dX6_save_3 (fun H locs hH => ?_)
  refine tb_jbne (tgt := 12) X dX6_save_6 (by decide) (fun _ => ?_) (fun c => (c ⟨nI_nlt (by omega) (by omega), nI_nlt (by omega) (by omega)⟩ : False).elim)
  refine lv_aload_n X.1 X.2.1 dX6_save_12 rfl (lv_at hl 0 rfl) ?_
  refine tb_get X hH tb_Mc.1 (tb_Mc.2 _ _) rfl inlX6 0 (by decide) wm_99 (v := .ref (tb_ad g (158))) rfl dX6_save_13 ?_
  refine lv_iconst (v := nI (0)) X.1 X.2.1 dX6_save_16 (by decide +kernel) ?_
  refine lv_aload_n X.1 X.2.1 dX6_save_17 rfl (lv_at hl 0 rfl) ?_
  refine tb_get X hH tb_Mc.1 (tb_Mc.2 _ _) rfl inlX6 4 (by decide) wm_102 (v := .ref (tb_ad g (161))) rfl dX6_save_18 ?_
  refine lv_sipush (v := nI (139)) X.1 X.2.1 dX6_save_21 (by decide +kernel) ?_
  refine lv_iload_n X.1 X.2.1 dX6_save_24 rfl (lv_at hl 1 rfl) ?_
  refine tb_imulN X dX6_save_25 ?_
  refine tb_cSv X hH hl.1 (c_X6_moves l g z 158 139 tb_i158 0 161 278 tb_i161 (139 * q) (by decide) (by omega) ⟨by decide, by decide⟩) ky_X6_moves.1 ky_X6_moves.2 wm_170 rfl rfl (Nat.le_of_ble_eq_true rfl) ⟨by decide, by decide⟩ ⟨by decide, by decide⟩ dX6_save_26 (fun H locs hH => ?_)
  refine lv_aload_n X.1 X.2.1 dX6_save_29 rfl (lv_at hl 0 rfl) ?_
  refine tb_get X hH tb_Mc.1 (tb_Mc.2 _ _) rfl inlX6 5 (by decide) wm_103 (v := .ref (tb_ad g (162))) rfl dX6_save_30 ?_
  refine lv_iload_n X.1 X.2.1 dX6_save_33 rfl (lv_at hl 1 rfl) ?_
  refine lv_iconst (v := nI (1)) X.1 X.2.1 dX6_save_34 (by decide +kernel) ?_
  refine tb_ast X hH tb_i162 (q) rfl (by omega) (by first | decide | omega) dX6_save_35 (fun H locs hH => ?_)
  refine lv_aload_n X.1 X.2.1 dX6_save_36 rfl (lv_at hl 0 rfl) ?_
  refine tb_get X hH tb_Mc.1 (tb_Mc.2 _ _) rfl inlX6 0 (by decide) wm_99 (v := .ref (tb_ad g (158))) rfl dX6_save_37 ?_
  refine lv_iconst (v := nI (3)) X.1 X.2.1 dX6_save_40 (by decide +kernel) ?_
  refine tb_ald X hH tb_i158 (3) rfl (by decide) (by first | decide | omega) dX6_save_41 ?_
  exact tb_ri X hr hlk hH ⟨(by rw [sr_X6_save]), rfl⟩ dX6_save_42
set_option maxHeartbeats 1000000 in
set_option maxRecDepth 100000 in
theorem c_X6_restore_bad (l : Launch) (g : tb_G) (z : tb_M) (x : Int32) (hx : ¬ (¬ (x < nI 0) ∧ (¬ (nI 1 < x)))) : tb_Mi (.int) l yX6_restore cX6_restore 2 1 g z [.ref (tb_ad g 157), .int x] ((-2)) (z) := by
  refine tb_goi (own := RX6) (by decide +kernel) rfl (Nat.le_of_ble_eq_true rfl) ?_
  intro p e s m below meth c ls X hr hlk hH hl
  have hl : lv_has ls 2 [(0, .ref (tb_ad g (157))), (1, .int (x))] := hl
  refine lv_iload_n X.1 X.2.1 dX6_restore_0 rfl (lv_at hl 1 rfl) ?_
  refine lv_iconst (v := nI (0)) X.1 X.2.1 dX6_restore_1 (by decide +kernel) ?_
  refine lv_iconst (v := nI (1)) X.1 X.2.1 dX6_restore_2 (by decide +kernel) ?_
  refine tb_cSi X hH hl.1 (c_X6_within l g z x (nI (0)) (nI (1))) ky_X6_within.1 ky_X6_within.2 wm_162 rfl rfl (Nat.le_of_ble_eq_true rfl) ⟨by decide, by decide⟩ ⟨by decide, by decide⟩ dX6_restore_3 (fun H locs hH => ?_)
  refine tb_jbne (tgt := 12) X dX6_restore_6 (by decide) (fun c => (hx c : False).elim) (fun _ => ?_)
  refine lv_bipush (v := (-2)) X.1 X.2.1 dX6_restore_9 (by decide +kernel) ?_
  exact tb_ri X hr hlk hH ⟨rfl, rfl⟩ dX6_restore_11
def sz_X6_restore_m1 (z : tb_M) (q : Nat) : tb_M := tb_mv (tb_recM z) 161 (139 * q) 158 0 139
def sz_X6_restore (z : tb_M) (q : Nat) : tb_M := if (z 162 q) = 0 then z else (sz_X6_restore_m1 z q)
def sr_X6_restore (z : tb_M) (q : Nat) : Int32 := if (z 162 q) = 0 then ((-5)) else ((sz_X6_restore_m1 z q) 158 3)
set_option maxHeartbeats 1000000 in
set_option maxRecDepth 100000 in
theorem c_X6_restore (l : Launch) (g : tb_G) (z : tb_M) (q : Nat) (hq : q < 2) (hrc : tb_okRM z) : tb_Mi (.int) l yX6_restore cX6_restore 2 2 g z [.ref (tb_ad g 157), .int (nI q)] (sr_X6_restore z q) (sz_X6_restore z q) := by
  refine tb_goi (own := RX6) (by decide +kernel) rfl (Nat.le_of_ble_eq_true rfl) ?_
  intro p e s m below meth c ls X hr hlk hH hl
  have hl : lv_has ls 2 [(0, .ref (tb_ad g (157))), (1, .int (nI (q)))] := hl
  refine lv_iload_n X.1 X.2.1 dX6_restore_0 rfl (lv_at hl 1 rfl) ?_
  refine lv_iconst (v := nI (0)) X.1 X.2.1 dX6_restore_1 (by decide +kernel) ?_
  refine lv_iconst (v := nI (1)) X.1 X.2.1 dX6_restore_2 (by decide +kernel) ?_
  refine tb_cSi X hH hl.1 (c_X6_within l g z (nI (q)) (nI (0)) (nI (1))) ky_X6_within.1 ky_X6_within.2 wm_162 rfl rfl (Nat.le_of_ble_eq_true rfl) ⟨by decide, by decide⟩ ⟨by decide, by decide⟩ dX6_restore_3 (fun H locs hH => ?_)
  refine tb_jbne (tgt := 12) X dX6_restore_6 (by decide) (fun _ => ?_) (fun c => (c ⟨nI_nlt (by omega) (by omega), nI_nlt (by omega) (by omega)⟩ : False).elim)
  refine lv_aload_n X.1 X.2.1 dX6_restore_12 rfl (lv_at hl 0 rfl) ?_
  refine tb_get X hH tb_Mc.1 (tb_Mc.2 _ _) rfl inlX6 5 (by decide) wm_103 (v := .ref (tb_ad g (162))) rfl dX6_restore_13 ?_
  refine lv_iload_n X.1 X.2.1 dX6_restore_16 rfl (lv_at hl 1 rfl) ?_
  refine tb_ald X hH tb_i162 (q) rfl (by omega) (by first | decide | omega) dX6_restore_17 ?_
  refine lv_if_ne (tgt := 24) X.1 X.2.1 dX6_restore_18 (by decide) (fun c_1 => ?_) (fun c_1 => ?_)
  · refine lv_aload_n X.1 X.2.1 dX6_restore_24 rfl (lv_at hl 0 rfl) ?_
    refine tb_cVv X hH hl.1 (c_X6_record l g z hrc) ky_X6_record.1 ky_X6_record.2 wm_165 tb_oM rfl rfl (Nat.le_of_ble_eq_true rfl) ⟨by decide, by decide⟩ ⟨by decide, by decide⟩ dX6_restore_25 (fun H locs hH => ?_)
    refine lv_aload_n X.1 X.2.1 dX6_restore_28 rfl (lv_at hl 0 rfl) ?_
    refine tb_get X hH tb_Mc.1 (tb_Mc.2 _ _) rfl inlX6 4 (by decide) wm_102 (v := .ref (tb_ad g (161))) rfl dX6_restore_29 ?_
    refine lv_sipush (v := nI (139)) X.1 X.2.1 dX6_restore_32 (by decide +kernel) ?_
    refine lv_iload_n X.1 X.2.1 dX6_restore_35 rfl (lv_at hl 1 rfl) ?_
    refine tb_imulN X dX6_restore_36 ?_
    refine lv_aload_n X.1 X.2.1 dX6_restore_37 rfl (lv_at hl 0 rfl) ?_
    refine tb_get X hH tb_Mc.1 (tb_Mc.2 _ _) rfl inlX6 0 (by decide) wm_99 (v := .ref (tb_ad g (158))) rfl dX6_restore_38 ?_
    refine lv_iconst (v := nI (0)) X.1 X.2.1 dX6_restore_41 (by decide +kernel) ?_
    refine tb_cSv X hH hl.1 (c_X6_moves l g (tb_recM z) 161 278 tb_i161 (139 * q) 158 139 tb_i158 0 (by omega) (by decide) ⟨by decide, by decide⟩) ky_X6_moves.1 ky_X6_moves.2 wm_170 rfl rfl (Nat.le_of_ble_eq_true rfl) ⟨by decide, by decide⟩ ⟨by decide, by decide⟩ dX6_restore_42 (fun H locs hH => ?_)
    have hH : tb_H g s.heap (sz_X6_restore_m1 z q) H locs := hH
    refine lv_aload_n X.1 X.2.1 dX6_restore_45 rfl (lv_at hl 0 rfl) ?_
    refine tb_get X hH tb_Mc.1 (tb_Mc.2 _ _) rfl inlX6 0 (by decide) wm_99 (v := .ref (tb_ad g (158))) rfl dX6_restore_46 ?_
    refine lv_iconst (v := nI (3)) X.1 X.2.1 dX6_restore_49 (by decide +kernel) ?_
    refine tb_ald X hH tb_i158 (3) rfl (by decide) (by first | decide | omega) dX6_restore_50 ?_
    exact tb_ri X hr hlk hH ⟨(by rw [sr_X6_restore]; simp only [if_neg c_1]), (by rw [sz_X6_restore]; simp only [if_neg c_1])⟩ dX6_restore_51
  · refine lv_bipush (v := (-5)) X.1 X.2.1 dX6_restore_21 (by decide +kernel) ?_
    exact tb_ri X hr hlk hH ⟨(by rw [sr_X6_restore]; simp only [if_pos c_1]), (by rw [sz_X6_restore]; simp only [if_pos c_1])⟩ dX6_restore_23
