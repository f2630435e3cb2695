/-! THE CLASS'S CONSTRUCTOR -/
section TCROWSD
variable {p : Program} {l : Launch} {e : Env} {R : Room} {s : State} {m : MethodId} {args : Array Value} {below : List Frame} {meth : Method} {c : Code} {H : Heap} {locs : List Loc} {cells slots : Nat} {Q : State → Prop}
variable {cc : ByteArray} {pc nLc : Nat} {ls : Array Slot} {rest : List Value} {g : tb_G} {own : String} {A : Nat → Prop} {ws : va_W} {a : Nat} {y : MethodName} {cy : ByteArray} {nL nf mc ms : Nat} {e0 : va_E} {post : Nat → va_W → Prop}
theorem tc_callNL {host : String} (X : tc_X own cc nLc g p c s m args) (hA : ∀ q, s.heap.size ≤ q → A q) (hH : tc_H g A s.heap (ws ++ [(a, e0)]) H locs) (hls : ls.size = nLc) (hM : tc_M l y cy nL nf mc ms g e0 post) (hY : tb_Y y cy nL none 0) (hnm : y.name = "<init>") (hV : Cond.instanceMethod y ∈ wsL_law) {idx : Nat} (hlk : va_Nw (.methodLinkNest own idx y host) s) (hcat : (rest.map fun v => v.category).sum ≤ 8) (hR : nf + 1 ≤ R.frames ∧ 8 + (nL + 11) + 36 * nf ≤ R.locals) (hcs : cells + mc ≤ R.cells ∧ slots + ms ≤ R.slots) (hdg : decode cc pc = .ok (.invokespecial idx, 3))
    (kk : ∀ (w1 : va_W) (H1 : Heap) (locs1 : List Loc), post a w1 → tc_H g A s.heap (ws ++ w1) H1 locs1 → W p l e R s m args below meth c H1 locs1 (cells + mc) (slots + ms) Q (F0 m (pc + 3) ls rest)) : W p l e R s m args below meth c H locs cells slots Q (F0 m pc ls (.ref a :: rest)) :=
  tc_callN X hA hH hls hM hY hnm hV hlk ws.length (tc_L2 ws _) ws (List.range ws.length) (tc_L1 ws _) (tc_nd List.nodup_range) (fun i hi h => by
    have h1 := List.mem_range.mp hi
    have h2 := List.mem_singleton.mp h
    omega) hcat hR hcs hdg kk
theorem tc_newz (X : tc_X own cc nLc g p c s m args) (hA : ∀ q, s.heap.size ≤ q → A q) (hH : tc_H g A s.heap ws H locs) {N : Nat} (hN : N < 1000) {n : Int32} (hn : n = nI N) (hcs : cells + 1 ≤ R.cells ∧ slots + N ≤ R.slots) (hdg : decode cc pc = .ok (.newarray .boolean, 2))
    (kk : ∀ (q : Nat) (H1 : Heap), tc_H g A s.heap (ws ++ [(q, .inl (g.2.2.2.2.1, N, .inl (fun _ => nI 0)))]) H1 locs → W p l e R s m args below meth c H1 locs (cells + 1) (slots + N) Q (F0 m (pc + 2) ls (.ref q :: rest))) : W p l e R s m args below meth c H locs cells slots Q (F0 m pc ls (.int n :: rest)) := by
  subst hn
  refine va_newa (atype := .boolean) (ty := .boolean) (a0 := (N, .inl (fun _ => nI 0))) X.1 X.2.1 (X.2.2.1 _ wm_19) rfl X.2.2.2.2.1.1 hH.1 hH.2.1 hH.2.2 hA (fun cA => rfl) (nI_pos (by omega)) (nI_clamp (by omega)) (by show N * 1 ≤ 536870912; omega) hcs.1 hcs.2 hdg (fun q cA H1 hK h1 h2 h3 => ?_)
  have e1 := (hK.2 1 _ rfl).2
  have e2 := (hK.2 3 _ rfl).2
  have e3 : g.2.2.2.2.1 = cA := Option.some.inj (e1.symm.trans e2)
  subst e3
  exact kk q H1 ⟨h1, h2, h3⟩
end TCROWSD
abbrev tc_eT (x0 x1 x2 x3 x4 x5 : Value) : va_E := .inr (5, [x0, x1, x2, x3, x4, x5])
abbrev tc_eQ (g : tb_G) (n : Nat) (f : Nat → Option Nat) : va_E := .inl (g.2.2.2.2.2, n, .inr (.inr (.inr (.inr f))))
def tc_t0 : va_E := tc_eT .null .null .null .null .null .null
def tc_pT (g : tb_G) (h0 : Nat) (w : va_W) : Prop := ∃ (sq bq hq tq pq kq : Nat) (fS fH : Nat → Option Nat) (ad0 ad1 ad2 ad3 : Nat → Nat) (z0 z1 z2 z3 : Nat → Nat → Int32) (ads : Nat → Nat → Nat) (zs : Nat → Nat → Nat → Int32), w = [(h0, tc_eT (.ref (ad0 0)) (.ref (ad1 0)) (.ref sq) (.ref bq) (.ref hq) (.ref pq))] ++ tc_bl g ad0 z0 ++ tc_bl g ad1 z1 ++ [(sq, tc_eQ g 2 fS)] ++ tc_bl g ad2 z2 ++ tc_bl g ad3 z3 ++ [(bq, .inl (g.2.2.2.2.1, 2, .inl (fun _ => nI 0)))] ++ ([(hq, .inr (2, [.int (nI 0), .int (nI 0), .ref tq])), (tq, tc_eQ g 6 fH)] ++ tc_ds g ads zs 6) ++ [(pq, .inr (3, [.int (nI 0), .ref kq])), (kq, tc_eI g 64 (fun _ => nI 0))] ∧ tc_Z z0 ∧ tc_Z z1 ∧ tc_Z z2 ∧ tc_Z z3 ∧ (fS 0 = some (ad2 0) ∧ fS 1 = some (ad3 0)) ∧ ∀ i, i < 6 → fH i = some (ads i 0) ∧ tc_Z (zs i)
set_option maxHeartbeats 1000000 in
set_option maxRecDepth 100000 in
theorem k_X5_init (l : Launch) (g : tb_G) : tc_M l yX5_init cX5_init 1 5 156 2069 g tc_t0 (tc_pT g) := by
  refine tc_go (own := RX5) (by decide +kernel) rfl (by decide) ?_
  intro p e s m below meth c ls A h0 X hr hlk hnm hA hH hl
  refine lv_aload_n X.1 X.2.1 dX5_init_0 rfl (lv_at hl 0 rfl) ?_
  refine tc_obj X hl.1 wm_10 (Nat.le_of_ble_eq_true rfl) ⟨by decide, by decide⟩ dX5_init_1 ?_
  refine lv_aload_n X.1 X.2.1 dX5_init_4 rfl (lv_at hl 0 rfl) ?_
  refine tc_new (ci := 1) X hA hH inlX1 tyX1 tyX1_ok wm_13 wm_14 wm_15 rfl [.null, .null, .null, .null, .null, .int (nI 0), .int (nI 0), .int (nI 0), .int (nI 0), .int (nI 0)] (fun j hj => by rcases (show j = 0 ∨ j = 1 ∨ j = 2 ∨ j = 3 ∨ j = 4 ∨ j = 5 ∨ j = 6 ∨ j = 7 ∨ j = 8 ∨ j = 9 by omega) with rfl | rfl | rfl | rfl | rfl | rfl | rfl | rfl | rfl | rfl <;> rfl) ⟨by decide, by decide⟩ dX5_init_5 (fun d0 H hH => ?_)
  refine W.widen (k := 1) (n := 10) (by omega) (by omega) ?_
  refine lv_dup X.1 X.2.1 dX5_init_8 rfl ?_
  refine tc_callL X hA hH hl.1 (k_X1_init l g) ky_X1_init.1 rfl ky_X1_init.2 wm_29 (Nat.le_of_ble_eq_true rfl) ⟨by decide, by decide⟩ ⟨by decide, by decide⟩ dX5_init_9 (fun w0 Hx locsx hw0 hK => ?_)
  refine W.widen (k := 15) (n := 199) (by omega) (by omega) ?_
  obtain ⟨ad0, z0, hw0, had0, hz0⟩ := hw0
  subst hw0 had0
  have hH : tc_H g A s.heap ([(h0, tc_eT .null .null .null .null .null .null)] ++ tc_bl g ad0 z0) Hx locsx := hK
  refine tc_putF X hH inlX5 tyX5 tyX5_ok nmX5 0 rfl rfl 0 (by decide) wm_16 rfl hnm rfl (ty := .object "TrialBoots$Device") (by decide +kernel) rfl rfl (Nat.le_of_ble_eq_true rfl) dX5_init_12 (fun H locs hH => ?_)
  have hH : tc_H g A s.heap ([(h0, tc_eT (.ref (ad0 0)) .null .null .null .null .null)] ++ tc_bl g ad0 z0) H locs := hH
  refine lv_aload_n X.1 X.2.1 dX5_init_15 rfl (lv_at hl 0 rfl) ?_
  refine tc_new (ci := 1) X hA hH inlX1 tyX1 tyX1_ok wm_13 wm_14 wm_15 rfl [.null, .null, .null, .null, .null, .int (nI 0), .int (nI 0), .int (nI 0), .int (nI 0), .int (nI 0)] (fun j hj => by rcases (show j = 0 ∨ j = 1 ∨ j = 2 ∨ j = 3 ∨ j = 4 ∨ j = 5 ∨ j = 6 ∨ j = 7 ∨ j = 8 ∨ j = 9 by omega) with rfl | rfl | rfl | rfl | rfl | rfl | rfl | rfl | rfl | rfl <;> rfl) ⟨by decide, by decide⟩ dX5_init_16 (fun d1 H hH => ?_)
  refine W.widen (k := 16) (n := 209) (by omega) (by omega) ?_
  refine lv_dup X.1 X.2.1 dX5_init_19 rfl ?_
  refine tc_callL X hA hH hl.1 (k_X1_init l g) ky_X1_init.1 rfl ky_X1_init.2 wm_29 (Nat.le_of_ble_eq_true rfl) ⟨by decide, by decide⟩ ⟨by decide, by decide⟩ dX5_init_20 (fun w1 Hx locsx hw1 hK => ?_)
  refine W.widen (k := 30) (n := 398) (by omega) (by omega) ?_
  obtain ⟨ad1, z1, hw1, had1, hz1⟩ := hw1
  subst hw1 had1
  have hH : tc_H g A s.heap ([(h0, tc_eT (.ref (ad0 0)) .null .null .null .null .null)] ++ tc_bl g ad0 z0 ++ tc_bl g ad1 z1) Hx locsx := hK
  refine tc_putF X hH inlX5 tyX5 tyX5_ok nmX5 0 rfl rfl 1 (by decide) wm_17 rfl hnm rfl (ty := .object "TrialBoots$Device") (by decide +kernel) rfl rfl (Nat.le_of_ble_eq_true rfl) dX5_init_23 (fun H locs hH => ?_)
  have hH : tc_H g A s.heap ([(h0, tc_eT (.ref (ad0 0)) (.ref (ad1 0)) .null .null .null .null)] ++ tc_bl g ad0 z0 ++ tc_bl g ad1 z1) H locs := hH
  refine lv_aload_n X.1 X.2.1 dX5_init_26 rfl (lv_at hl 0 rfl) ?_
  refine lv_iconst (v := nI 2) X.1 X.2.1 dX5_init_27 (by decide +kernel) ?_
  refine tc_newq X hA hH (N := 2) (by decide) rfl wm_13 ⟨by decide, by decide⟩ dX5_init_28 (fun sq H hH => ?_)
  refine W.widen (k := 31) (n := 400) (by omega) (by omega) ?_
  refine lv_dup X.1 X.2.1 dX5_init_31 rfl ?_
  refine lv_iconst (v := nI 0) X.1 X.2.1 dX5_init_32 (by decide +kernel) ?_
  refine tc_new (ci := 1) X hA hH inlX1 tyX1 tyX1_ok wm_13 wm_14 wm_15 rfl [.null, .null, .null, .null, .null, .int (nI 0), .int (nI 0), .int (nI 0), .int (nI 0), .int (nI 0)] (fun j hj => by rcases (show j = 0 ∨ j = 1 ∨ j = 2 ∨ j = 3 ∨ j = 4 ∨ j = 5 ∨ j = 6 ∨ j = 7 ∨ j = 8 ∨ j = 9 by omega) with rfl | rfl | rfl | rfl | rfl | rfl | rfl | rfl | rfl | rfl <;> rfl) ⟨by decide, by decide⟩ dX5_init_33 (fun d2 H hH => ?_)
  refine W.widen (k := 32) (n := 410) (by omega) (by omega) ?_
  refine lv_dup X.1 X.2.1 dX5_init_36 rfl ?_
  refine tc_callL X hA hH hl.1 (k_X1_init l g) ky_X1_init.1 rfl ky_X1_init.2 wm_29 (Nat.le_of_ble_eq_true rfl) ⟨by decide, by decide⟩ ⟨by decide, by decide⟩ dX5_init_37 (fun w2 Hx locsx hw2 hK => ?_)
  refine W.widen (k := 46) (n := 599) (by omega) (by omega) ?_
  obtain ⟨ad2, z2, hw2, had2, hz2⟩ := hw2
  subst hw2 had2
  have hH : tc_H g A s.heap ([(h0, tc_eT (.ref (ad0 0)) (.ref (ad1 0)) .null .null .null .null)] ++ tc_bl g ad0 z0 ++ tc_bl g ad1 z1 ++ [(sq, tc_eQ g 2 (fun _ => none))] ++ tc_bl g ad2 z2) Hx locsx := hK
  refine tc_astq X hH 31 32 rfl (v := ad2 0) (vs := [.ref (ad2 1), .ref (ad2 2), .ref (ad2 5), .ref (ad2 8), .ref (ad2 11), .int (z2 0 5), .int (z2 0 6), .int (z2 0 7), .int (z2 0 8), .int (z2 0 9)]) rfl 0 rfl (by decide) (by decide) dX5_init_40 (fun H locs hH => ?_)
  have hH : tc_H g A s.heap ([(h0, tc_eT (.ref (ad0 0)) (.ref (ad1 0)) .null .null .null .null)] ++ tc_bl g ad0 z0 ++ tc_bl g ad1 z1 ++ [(sq, tc_eQ g 2 (va_up (fun _ => none) 0 (some (ad2 0))))] ++ tc_bl g ad2 z2) H locs := hH
  refine lv_dup X.1 X.2.1 dX5_init_41 rfl ?_
  refine lv_iconst (v := nI 1) X.1 X.2.1 dX5_init_42 (by decide +kernel) ?_
  refine tc_new (ci := 1) X hA hH inlX1 tyX1 tyX1_ok wm_13 wm_14 wm_15 rfl [.null, .null, .null, .null, .null, .int (nI 0), .int (nI 0), .int (nI 0), .int (nI 0), .int (nI 0)] (fun j hj => by rcases (show j = 0 ∨ j = 1 ∨ j = 2 ∨ j = 3 ∨ j = 4 ∨ j = 5 ∨ j = 6 ∨ j = 7 ∨ j = 8 ∨ j = 9 by omega) with rfl | rfl | rfl | rfl | rfl | rfl | rfl | rfl | rfl | rfl <;> rfl) ⟨by decide, by decide⟩ dX5_init_43 (fun d3 H hH => ?_)
  refine W.widen (k := 47) (n := 609) (by omega) (by omega) ?_
  refine lv_dup X.1 X.2.1 dX5_init_46 rfl ?_
  refine tc_callL X hA hH hl.1 (k_X1_init l g) ky_X1_init.1 rfl ky_X1_init.2 wm_29 (Nat.le_of_ble_eq_true rfl) ⟨by decide, by decide⟩ ⟨by decide, by decide⟩ dX5_init_47 (fun w3 Hx locsx hw3 hK => ?_)
  refine W.widen (k := 61) (n := 798) (by omega) (by omega) ?_
  obtain ⟨ad3, z3, hw3, had3, hz3⟩ := hw3
  subst hw3 had3
  have hH : tc_H g A s.heap ([(h0, tc_eT (.ref (ad0 0)) (.ref (ad1 0)) .null .null .null .null)] ++ tc_bl g ad0 z0 ++ tc_bl g ad1 z1 ++ [(sq, tc_eQ g 2 (va_up (fun _ => none) 0 (some (ad2 0))))] ++ tc_bl g ad2 z2 ++ tc_bl g ad3 z3) Hx locsx := hK
  refine tc_astq X hH 31 47 rfl (v := ad3 0) (vs := [.ref (ad3 1), .ref (ad3 2), .ref (ad3 5), .ref (ad3 8), .ref (ad3 11), .int (z3 0 5), .int (z3 0 6), .int (z3 0 7), .int (z3 0 8), .int (z3 0 9)]) rfl 1 rfl (by decide) (by decide) dX5_init_50 (fun H locs hH => ?_)
  have hH : tc_H g A s.heap ([(h0, tc_eT (.ref (ad0 0)) (.ref (ad1 0)) .null .null .null .null)] ++ tc_bl g ad0 z0 ++ tc_bl g ad1 z1 ++ [(sq, tc_eQ g 2 (va_up (va_up (fun _ => none) 0 (some (ad2 0))) 1 (some (ad3 0))))] ++ tc_bl g ad2 z2 ++ tc_bl g ad3 z3) H locs := hH
  refine tc_putF X hH inlX5 tyX5 tyX5_ok nmX5 0 rfl rfl 2 (by decide) wm_18 rfl hnm rfl (ty := .array (.object "TrialBoots$Device")) (by decide +kernel) rfl rfl (Nat.le_of_ble_eq_true rfl) dX5_init_51 (fun H locs hH => ?_)
  have hH : tc_H g A s.heap ([(h0, tc_eT (.ref (ad0 0)) (.ref (ad1 0)) (.ref sq) .null .null .null)] ++ tc_bl g ad0 z0 ++ tc_bl g ad1 z1 ++ [(sq, tc_eQ g 2 (va_up (va_up (fun _ => none) 0 (some (ad2 0))) 1 (some (ad3 0))))] ++ tc_bl g ad2 z2 ++ tc_bl g ad3 z3) H locs := hH
  refine lv_aload_n X.1 X.2.1 dX5_init_54 rfl (lv_at hl 0 rfl) ?_
  refine lv_iconst (v := nI 2) X.1 X.2.1 dX5_init_55 (by decide +kernel) ?_
  refine tc_newz X hA hH (N := 2) (by decide) rfl ⟨by decide, by decide⟩ dX5_init_56 (fun bq H hH => ?_)
  refine W.widen (k := 62) (n := 800) (by omega) (by omega) ?_
  refine tc_putF X hH inlX5 tyX5 tyX5_ok nmX5 0 rfl rfl 3 (by decide) wm_20 rfl hnm rfl (ty := .array .boolean) (by decide +kernel) rfl rfl (Nat.le_of_ble_eq_true rfl) dX5_init_58 (fun H locs hH => ?_)
  have hH : tc_H g A s.heap ([(h0, tc_eT (.ref (ad0 0)) (.ref (ad1 0)) (.ref sq) (.ref bq) .null .null)] ++ tc_bl g ad0 z0 ++ tc_bl g ad1 z1 ++ [(sq, tc_eQ g 2 (va_up (va_up (fun _ => none) 0 (some (ad2 0))) 1 (some (ad3 0))))] ++ tc_bl g ad2 z2 ++ tc_bl g ad3 z3 ++ [(bq, .inl (g.2.2.2.2.1, 2, .inl (fun _ => nI 0)))]) H locs := hH
  refine lv_aload_n X.1 X.2.1 dX5_init_61 rfl (lv_at hl 0 rfl) ?_
  refine tc_new (ci := 2) X hA hH inlX2 tyX2 tyX2_ok wm_21 wm_22 wm_23 rfl [.int (nI 0), .int (nI 0), .null] (fun j hj => by rcases (show j = 0 ∨ j = 1 ∨ j = 2 by omega) with rfl | rfl | rfl <;> rfl) ⟨by decide, by decide⟩ dX5_init_62 (fun hq H hH => ?_)
  refine W.widen (k := 63) (n := 803) (by omega) (by omega) ?_
  refine lv_dup X.1 X.2.1 dX5_init_65 rfl ?_
  refine tc_callL X hA hH hl.1 (k_X2_init l g) ky_X2_init.1 rfl ky_X2_init.2 wm_84 (Nat.le_of_ble_eq_true rfl) ⟨by decide, by decide⟩ ⟨by decide, by decide⟩ dX5_init_66 (fun w H locs hw hH => ?_)
  refine W.widen (k := 154) (n := 2003) (by omega) (by omega) ?_
  obtain ⟨tq, fH, ads, zs, rfl, hfH⟩ := hw
  refine tc_putF X hH inlX5 tyX5 tyX5_ok nmX5 0 rfl rfl 4 (by decide) wm_24 rfl hnm rfl (ty := .object "TrialBoots$History") (by decide +kernel) rfl rfl (Nat.le_of_ble_eq_true rfl) dX5_init_69 (fun H locs hH => ?_)
  have hH : tc_H g A s.heap ([(h0, tc_eT (.ref (ad0 0)) (.ref (ad1 0)) (.ref sq) (.ref bq) (.ref hq) .null)] ++ tc_bl g ad0 z0 ++ tc_bl g ad1 z1 ++ [(sq, tc_eQ g 2 (va_up (va_up (fun _ => none) 0 (some (ad2 0))) 1 (some (ad3 0))))] ++ tc_bl g ad2 z2 ++ tc_bl g ad3 z3 ++ [(bq, .inl (g.2.2.2.2.1, 2, .inl (fun _ => nI 0)))] ++ ([(hq, .inr (2, [.int (nI 0), .int (nI 0), .ref tq])), (tq, tc_eQ g 6 fH)] ++ tc_ds g ads zs 6)) H locs := hH
  refine lv_aload_n X.1 X.2.1 dX5_init_72 rfl (lv_at hl 0 rfl) ?_
  refine tc_new (ci := 3) X hA hH inlX3 tyX3 tyX3_ok wm_25 wm_26 wm_27 rfl [.int (nI 0), .null] (fun j hj => by rcases (show j = 0 ∨ j = 1 by omega) with rfl | rfl <;> rfl) ⟨by decide, by decide⟩ dX5_init_73 (fun pq H hH => ?_)
  refine W.widen (k := 155) (n := 2005) (by omega) (by omega) ?_
  refine lv_dup X.1 X.2.1 dX5_init_76 rfl ?_
  refine tc_callNL X hA hH hl.1 (k_X3_init l g) ky_X3_init.1 rfl ky_X3_init.2 X.2.2.2.2.1.2.2.2.1 (Nat.le_of_ble_eq_true rfl) ⟨by decide, by decide⟩ ⟨by decide, by decide⟩ dX5_init_77 (fun w H locs hw hH => ?_)
  refine W.widen (k := 156) (n := 2069) (by omega) (by omega) ?_
  obtain ⟨kq, rfl⟩ := hw
  refine tc_putF X hH inlX5 tyX5 tyX5_ok nmX5 0 rfl rfl 5 (by decide) wm_28 rfl hnm rfl (ty := .object "TrialBoots$Pad") (by decide +kernel) rfl rfl (Nat.le_of_ble_eq_true rfl) dX5_init_80 (fun H locs hH => ?_)
  have hH : tc_H g A s.heap ([(h0, tc_eT (.ref (ad0 0)) (.ref (ad1 0)) (.ref sq) (.ref bq) (.ref hq) (.ref pq))] ++ tc_bl g ad0 z0 ++ tc_bl g ad1 z1 ++ [(sq, tc_eQ g 2 (va_up (va_up (fun _ => none) 0 (some (ad2 0))) 1 (some (ad3 0))))] ++ tc_bl g ad2 z2 ++ tc_bl g ad3 z3 ++ [(bq, .inl (g.2.2.2.2.1, 2, .inl (fun _ => nI 0)))] ++ ([(hq, .inr (2, [.int (nI 0), .int (nI 0), .ref tq])), (tq, tc_eQ g 6 fH)] ++ tc_ds g ads zs 6) ++ [(pq, .inr (3, [.int (nI 0), .ref kq])), (kq, tc_eI g 64 (fun _ => nI 0))]) H locs := hH
  exact tc_rv X hr hlk hH ⟨sq, bq, hq, tq, pq, kq, _, fH, ad0, ad1, ad2, ad3, z0, z1, z2, z3, ads, zs, rfl, hz0, hz1, hz2, hz3, ⟨rfl, rfl⟩, hfH⟩ dX5_init_83
