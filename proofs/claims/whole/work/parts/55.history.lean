/-! THE HISTORY'S CONSTRUCTOR: six devices in a loop -/
theorem tc_nd : ∀ {l : List Nat}, l.Nodup → va_nd l = true
  | [], _ => rfl
  | a :: l, h => by
    have h' := List.nodup_cons.mp h
    show (decide (a ∉ l) && va_nd l) = true
    rw [tc_nd h'.2, decide_eq_true h'.1]
    rfl
theorem tc_L1 (ws : va_W) (x : Nat × va_E) : (List.range ws.length).map (fun i => (ws ++ [x])[i]?) = ws.map some := by
  apply List.ext_getElem?
  intro i
  by_cases h : i < ws.length
  · rw [List.getElem?_map, List.getElem?_range h, List.getElem?_map, Option.map_some, List.getElem?_append_left h, List.getElem?_eq_getElem h]
    rfl
  · rw [List.getElem?_eq_none (by simp; omega), List.getElem?_eq_none (by simp; omega)]
theorem tc_L2 (ws : va_W) (x : Nat × va_E) : (ws ++ [x])[ws.length]? = some x := by
  rw [List.getElem?_append_right (Nat.le_refl _), Nat.sub_self]
  rfl
section TCROWSC
variable {p : Program} {l : Launch} {e : Env} {R : Room} {s : State} {m : MethodId} {args : Array Value} {below : List Frame} {meth : Method} {c : Code} {H : Heap} {locs : List Loc} {cells slots : Nat} {Q : State → Prop}
variable {cc : ByteArray} {pc nLc : Nat} {ls : Array Slot} {rest : List Value} {g : tb_G} {own : String} {A : Nat → Prop} {ws : va_W} {a : Nat} {y : MethodName} {cy : ByteArray} {nL nf mc ms : Nat} {e0 : va_E} {post : Nat → va_W → Prop}
/-- the new object is the last cell of the world -/
theorem tc_callL (X : tc_X own cc nLc g p c s m args) (hA : ∀ q, s.heap.size ≤ q → A q) (hH : tc_H g A s.heap (ws ++ [(a, e0)]) H locs) (hls : ls.size = nLc) (hM : tc_M l y cy nL nf mc ms g e0 post) (hY : tb_Y y cy nL none 0) (hnm : y.name = "<init>") (hV : Cond.instanceMethod y ∈ wsL_law) {idx : Nat} (hlk : Cond.methodLink own idx y ∈ wsL_law) (hcat : (rest.map fun v => v.category).sum ≤ 8) (hR : nf + 1 ≤ R.frames ∧ 8 + (nL + 11) + 36 * nf ≤ R.locals) (hcs : cells + mc ≤ R.cells ∧ slots + ms ≤ R.slots) (hdg : decode cc pc = .ok (.invokespecial idx, 3))
    (kk : ∀ (w1 : va_W) (H1 : Heap) (locs1 : List Loc), post a w1 → tc_H g A s.heap (ws ++ w1) H1 locs1 → W p l e R s m args below meth c H1 locs1 (cells + mc) (slots + ms) Q (F0 m (pc + 3) ls rest)) : W p l e R s m args below meth c H locs cells slots Q (F0 m pc ls (.ref a :: rest)) :=
  tc_call X hA hH hls hM hY hnm hV hlk ws.length (tc_L2 ws _) ws (List.range ws.length) (tc_L1 ws _) (tc_nd List.nodup_range) (fun i hi h => by
    have h1 := List.mem_range.mp hi
    have h2 := List.mem_singleton.mp h
    omega) hcat hR hcs hdg kk
theorem tc_newq (X : tc_X own cc nLc g p c s m args) (hA : ∀ q, s.heap.size ≤ q → A q) (hH : tc_H g A s.heap ws H locs) {N idx : Nat} (hN : N < 1000) {n : Int32} (hn : n = nI N) (hcl : Cond.classLink own idx RX1 ∈ wsL_law) (hcs : cells + 1 ≤ R.cells ∧ slots + N ≤ R.slots) (hdg : decode cc pc = .ok (.anewarray idx, 3))
    (kk : ∀ (q : Nat) (H1 : Heap), tc_H g A s.heap (ws ++ [(q, .inl (g.2.2.2.2.2, N, .inr (.inr (.inr (.inr (fun _ => none))))))]) H1 locs → W p l e R s m args below meth c H1 locs (cells + 1) (slots + N) Q (F0 m (pc + 3) ls (.ref q :: rest))) : W p l e R s m args below meth c H locs cells slots Q (F0 m pc ls (.int n :: rest)) := by
  subst hn
  refine va_newq X.1 X.2.1 X.2.2.2.1 (X.2.2.1 _ hcl) X.2.2.2.2.1.2.2.2.2 X.2.2.2.2.1.1 hH.1 hH.2.1 hH.2.2 hA (nI_pos (by omega)) (nI_clamp (by omega)) (by omega) hcs.1 hcs.2 hdg (fun q cA H1 hK h1 h2 h3 => ?_)
  obtain ⟨_, _, _, _, _, e1⟩ := (hK.2 2 _ rfl).2
  obtain ⟨_, _, _, _, _, e2⟩ := (hK.2 3 _ rfl).2
  have e3 : g.2.2.2.2.2 = cA := Option.some.inj (e1.symm.trans e2)
  subst e3
  exact kk q H1 ⟨h1, h2, h3⟩
theorem tc_astq (X : tc_X own cc nLc g p c s m args) (hH : tc_H g A s.heap ws H locs) (q0 qk : Nat) {n v : Nat} {vs : List Value} {f : Nat → Option Nat} (ha : ws[q0]? = some (a, .inl (g.2.2.2.2.2, n, .inr (.inr (.inr (.inr f)))))) (hv : ws[qk]? = some (v, .inr (1, vs))) (j : Nat) {i : Int32} (hi : i = nI j) (hj : j < n) (hn : n < 1000) (hdg : decode cc pc = .ok (.aastore, 1))
    (kk : ∀ (H1 : Heap) (locs1 : List Loc), tc_H g A s.heap (ws.set q0 (a, .inl (g.2.2.2.2.2, n, .inr (.inr (.inr (.inr (va_up f j (some v)))))))) H1 locs1 → W p l e R s m args below meth c H1 locs1 cells slots Q (F0 m (pc + 1) ls rest)) : W p l e R s m args below meth c H locs cells slots Q (F0 m pc ls (.ref v :: .int i :: .ref a :: rest)) := by
  subst hi
  refine va_astq X.1 X.2.1 X.2.2.2.2.1.1 hH.1 hH.2.1 hH.2.2 q0 2 qk 1 ha (r := (RX1, TX1, 10)) rfl hv rfl (vp_in_nI hj (by omega)) hdg (fun H1 locs1 h1 h2 h3 => ?_)
  rw [nI_clamp (by omega)] at h1 h2
  exact kk H1 locs1 ⟨h1, h2, h3⟩
end TCROWSC
def tc_bl (g : tb_G) (ad : Nat → Nat) (z : Nat → Nat → Int32) : va_W := (List.range 15).map (fun c => (ad c, tb_d (tc_ga g ad) 0 c (z c)))
def tc_ds (g : tb_G) (ads : Nat → Nat → Nat) (zs : Nat → Nat → Nat → Int32) : Nat → va_W
  | 0 => []
  | i + 1 => tc_ds g ads zs i ++ tc_bl g (ads i) (zs i)
theorem tc_ds_c (g : tb_G) {ads ads' : Nat → Nat → Nat} {zs zs' : Nat → Nat → Nat → Int32} : ∀ {n : Nat}, (∀ i, i < n → ads' i = ads i ∧ zs' i = zs i) → tc_ds g ads' zs' n = tc_ds g ads zs n
  | 0, _ => rfl
  | n + 1, h => by
    show tc_ds g ads' zs' n ++ tc_bl g (ads' n) (zs' n) = tc_ds g ads zs n ++ tc_bl g (ads n) (zs n)
    rw [tc_ds_c g (fun i hi => h i (by omega)), (h n (by omega)).1, (h n (by omega)).2]
def tc_h0 : va_E := .inr (2, [.int (nI 0), .int (nI 0), .null])
def tc_pH (g : tb_G) (h0 : Nat) (w : va_W) : Prop := ∃ (q : Nat) (f : Nat → Option Nat) (ads : Nat → Nat → Nat) (zs : Nat → Nat → Nat → Int32), w = [(h0, .inr (2, [.int (nI 0), .int (nI 0), .ref q])), (q, .inl (g.2.2.2.2.2, 6, .inr (.inr (.inr (.inr f)))))] ++ tc_ds g ads zs 6 ∧ ∀ i, i < 6 → f i = some (ads i 0) ∧ tc_Z (zs i)
set_option maxHeartbeats 1000000 in
set_option maxRecDepth 100000 in
theorem k_X2_init (l : Launch) (g : tb_G) : tc_M l yX2_init cX2_init 2 4 91 1200 g tc_h0 (tc_pH g) := by
  refine tc_go (own := RX2) (by decide +kernel) rfl (by decide) ?_
  intro p e s m below meth c ls A h0 X hr hlk hnm hA hH hl
  refine lv_aload_n X.1 X.2.1 dX2_init_0 rfl (lv_at hl 0 rfl) ?_
  refine tc_obj X hl.1 wm_87 (Nat.le_of_ble_eq_true rfl) ⟨by decide, by decide⟩ dX2_init_1 ?_
  refine lv_aload_n X.1 X.2.1 dX2_init_4 rfl (lv_at hl 0 rfl) ?_
  refine lv_bipush (v := nI 6) X.1 X.2.1 dX2_init_5 (by decide +kernel) ?_
  refine tc_newq X hA hH (N := 6) (by decide) rfl wm_88 ⟨by decide, by decide⟩ dX2_init_7 (fun q1 H hH => ?_)
  refine W.widen (k := 1) (n := 6) (by omega) (by omega) ?_
  refine tc_putF X hH inlX2 tyX2 tyX2_ok nmX2 0 rfl rfl 2 (by decide) wm_89 rfl hnm rfl (ty := .array (.object "TrialBoots$Device")) (by decide +kernel) rfl rfl (Nat.le_of_ble_eq_true rfl) dX2_init_10 (fun H locs hH => ?_)
  refine lv_iconst (v := nI 0) X.1 X.2.1 dX2_init_13 (by decide +kernel) ?_
  refine lv_istore_n (lv' := [(1, .int (nI 0)), (0, .ref h0)]) X.1 X.2.1 dX2_init_14 rfl hl (by decide) rfl (fun ls hl => ?_)
  have L : ∀ (k i : Nat), i + k = 6 → ∀ (f : Nat → Option Nat) (ads : Nat → Nat → Nat) (zs : Nat → Nat → Nat → Int32), (∀ j, j < i → f j = some (ads j 0) ∧ tc_Z (zs j)) → ∀ (H : Heap) (locs : List Loc) (ls : Array Slot), tc_H g A s.heap ([(h0, .inr (2, [.int (nI 0), .int (nI 0), .ref q1])), (q1, .inl (g.2.2.2.2.2, 6, .inr (.inr (.inr (.inr f)))))] ++ tc_ds g ads zs i) H locs → lv_has ls 2 [(1, .int (nI i)), (0, .ref h0)] → W p l e (tc_rm 4 91 1200) s m #[.ref h0] below meth c H locs (1 + 15 * i) (6 + 199 * i) (MQ below (va_Qv (fun w : va_W => tc_pH g h0 w) (tc_B g A) A) #[.ref h0] s 91 1200 A) (F0 m 15 ls []) := by
    intro k
    induction k with
    | zero =>
      intro i hik f ads zs hf H locs ls hH hl
      have hi6 : i = 6 := by omega
      subst hi6
      refine lv_iload_n X.1 X.2.1 dX2_init_15 rfl (lv_at hl 0 rfl) ?_
      refine lv_bipush (v := nI 6) X.1 X.2.1 dX2_init_16 (by decide +kernel) ?_
      refine lv_icmp_ge (tgt := 40) X.1 X.2.1 dX2_init_18 (by decide) (fun _ => ?_) (fun h => (h (nI_le (by omega) (by omega)) : False).elim)
      refine W.widen (k := 91) (n := 1200) (by omega) (by omega) ?_
      exact tc_rv X hr hlk hH ⟨q1, f, ads, zs, rfl, hf⟩ dX2_init_40
    | succ k ih =>
      intro i hik f ads zs hf H locs ls hH hl
      refine lv_iload_n X.1 X.2.1 dX2_init_15 rfl (lv_at hl 0 rfl) ?_
      refine lv_bipush (v := nI 6) X.1 X.2.1 dX2_init_16 (by decide +kernel) ?_
      refine lv_icmp_ge (tgt := 40) X.1 X.2.1 dX2_init_18 (by decide) (fun h => (nI_ge (by omega) (by decide) h : False).elim) (fun _ => ?_)
      refine lv_aload_n X.1 X.2.1 dX2_init_21 rfl (lv_at hl 1 rfl) ?_
      refine tc_get X hH inlX2 0 rfl rfl 2 (by decide) wm_89 (v := .ref q1) rfl dX2_init_22 ?_
      refine lv_iload_n X.1 X.2.1 dX2_init_25 rfl (lv_at hl 0 rfl) ?_
      refine tc_new (ci := 1) X hA hH inlX1 tyX1 tyX1_ok wm_88 wm_14 wm_15 rfl [.null, .null, .null, .null, .null, .int (nI 0), .int (nI 0), .int (nI 0), .int (nI 0), .int (nI 0)] (fun j hj => by rcases (show j = 0 ∨ j = 1 ∨ j = 2 ∨ j = 3 ∨ j = 4 ∨ j = 5 ∨ j = 6 ∨ j = 7 ∨ j = 8 ∨ j = 9 by omega) with rfl | rfl | rfl | rfl | rfl | rfl | rfl | rfl | rfl | rfl <;> rfl) ⟨by show _ ≤ 91; omega, by show _ ≤ 1200; omega⟩ dX2_init_26 (fun d0 H hH => ?_)
      refine lv_dup X.1 X.2.1 dX2_init_29 rfl ?_
      refine tc_callL X hA hH hl.1 (k_X1_init l g) ky_X1_init.1 rfl ky_X1_init.2 wm_90 (Nat.le_of_ble_eq_true rfl) ⟨by decide, by decide⟩ ⟨by show _ ≤ 91; omega, by show _ ≤ 1200; omega⟩ dX2_init_30 (fun w1 H2 locs2 hw hH2 => ?_)
      obtain ⟨ad, z, rfl, rfl, hz⟩ := hw
      refine tc_astq X hH2 1 (2 + (tc_ds g ads zs i).length) rfl (v := ad 0) (vs := [.ref (ad 1), .ref (ad 2), .ref (ad 5), .ref (ad 8), .ref (ad 11), .int (z 0 5), .int (z 0 6), .int (z 0 7), .int (z 0 8), .int (z 0 9)]) ?_ i rfl (by omega) (by decide) dX2_init_33 (fun H locs hH => ?_)
      · rw [List.getElem?_append_right (by simp; omega)]
        have : 2 + (tc_ds g ads zs i).length - ([(h0, (.inr (2, [.int (nI 0), .int (nI 0), .ref q1]) : va_E)), (q1, .inl (g.2.2.2.2.2, 6, .inr (.inr (.inr (.inr f)))))] ++ tc_ds g ads zs i).length = 0 := by
          simp
          omega
        rw [this]
        rfl
      refine lv_iinc (v := nI (i + 1)) (lv' := [(1, .int (nI (i + 1))), (0, .ref h0)]) X.1 X.2.1 dX2_init_34 hl (k := 0) rfl (nI_add _ _) (by decide) rfl (fun ls hl => ?_)
      refine lv_goto (tgt := 15) X.1 X.2.1 dX2_init_37 (by decide) ?_
      refine W.widen (k := 1 + 15 * (i + 1)) (n := 6 + 199 * (i + 1)) (by omega) (by omega) ?_
      have hds : tc_ds g (fun j => if j = i then ad else ads j) (fun j => if j = i then z else zs j) (i + 1) = tc_ds g ads zs i ++ tc_bl g ad z := by
        show tc_ds g (fun j => if j = i then ad else ads j) (fun j => if j = i then z else zs j) i ++ tc_bl g (if i = i then ad else ads i) (if i = i then z else zs i) = _
        rw [if_pos rfl, if_pos rfl, tc_ds_c g (fun j hj => ⟨if_neg (by omega), if_neg (by omega)⟩)]
      refine ih (i + 1) (by omega) (va_up f i (some (ad 0))) (fun j => if j = i then ad else ads j) (fun j => if j = i then z else zs j) (fun j hj => ?_) H locs ls (by rw [hds]; exact hH) hl
      unfold va_up
      by_cases h : j = i
      · rw [if_pos h, if_pos h, if_pos h]
        exact ⟨rfl, hz⟩
      · rw [if_neg h, if_neg h, if_neg h]
        exact hf j (by omega)
  exact L 6 0 (by decide) (fun _ => none) (fun _ _ => 0) (fun _ _ _ => nI 0) (fun j hj => absurd hj (Nat.not_lt_zero j)) H locs ls hH hl
