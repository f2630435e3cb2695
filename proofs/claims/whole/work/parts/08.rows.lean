/-! ROWS over the one memory -/
section TBROWS
variable {p : Program} {l : Launch} {e : Env} {R : Room} {s : State} {m : MethodId} {args : Array Value} {below : List Frame} {meth : Method} {c : Code} {H : Heap} {locs : List Loc} {cells slots : Nat} {Q : State → Prop}
variable {cc : ByteArray} {pc nLc : Nat} {ls : Array Slot} {rest : List Value} {g : tb_G} {H0 : Heap} {z : tb_M} {own : String}
theorem tb_get (X : tb_X own cc nLc g p c s m args) (hH : tb_H g H0 z H locs) {k ci N : Nat} {C : String} {T : u_T} {fs : List Value} (hk : k < 164) (hc : tb_c g k (z k) = .inr (ci, fs)) (hci : vwCl[ci]? = some (C, T, N)) (hin : ∀ w ∈ u_ws C T N, w ∈ wsL_law) (j : Nat) (hj : j < N) {idx : Nat} (hlk : Cond.fieldLink own idx (T j).1 (T j).2.1 (T j).2.2.1 ∈ wsL_law) {v : Value} (hv : fs[j]? = some v) (hdg : decode cc pc = .ok (.getfield idx, 3))
    (kk : W p l e R s m args below meth c H locs cells slots Q (F0 m (pc + 3) ls (v :: rest))) : W p l e R s m args below meth c H locs cells slots Q (F0 m pc ls (.ref (tb_ad g k) :: rest)) :=
  va_get X.1 X.2.1 X.2.2.1 hin X.2.2.2.1 X.2.2.2.2.1.1 hH.1 k (by rw [tb_Wg g z hk, hc]) hci j hj (X.2.2.1 _ hlk) (fun _ h => h) hv hdg kk
theorem tb_put (X : tb_X own cc nLc g p c s m args) (hH : tb_H g H0 z H locs) {k ci N : Nat} {C : String} {T : u_T} {fs : List Value} (hk : k < 164) (hc : tb_c g k (z k) = .inr (ci, fs)) (hci : vwCl[ci]? = some (C, T, N)) (hin : ∀ w ∈ u_ws C T N, w ∈ wsL_law) (ty0 : Nat → FieldType) (hty : ∀ k, k < N → parseFieldDescriptor (T k).2.2.1 = some (ty0 k)) (hnm : ∀ a, a < N → ∀ b, b < N → a ≠ b → (T a).2.1 ≠ (T b).2.1) (j : Nat) (hj : j < N) {idx : Nat} (hlk : Cond.fieldLink own idx (T j).1 (T j).2.1 (T j).2.2.1 ∈ wsL_law) (hfin : (T j).2.2.2 = false) (hd : parseFieldDescriptor (T j).2.2.1 = some .int) {x : Int32} (hl : j < fs.length) (hc' : tb_c g k (tb_up z k j x k) = .inr (ci, fs.set j (.int x))) (hdg : decode cc pc = .ok (.putfield idx, 3))
    (kk : ∀ (H1 : Heap) (locs1 : List Loc), tb_H g H0 (tb_up z k j x) H1 locs1 → W p l e R s m args below meth c H1 locs1 cells slots Q (F0 m (pc + 3) ls rest)) : W p l e R s m args below meth c H locs cells slots Q (F0 m pc ls (.int x :: .ref (tb_ad g k) :: rest)) :=
  va_put X.1 X.2.1 X.2.2.1 hin ty0 hty hnm X.2.2.2.1 X.2.2.2.2.1.1 hH.1 (tb_Dj X.2.2.2.2.1.2.1 z) hH.2 k (by rw [tb_Wg g z hk, hc]) hci j hj (X.2.2.1 _ hlk) (fun _ h => h) hfin hd rfl rfl hl hdg
    (fun H1 locs1 h1 _ h3 => kk H1 locs1 ⟨by rw [← tb_Ws g z (tb_up z k j x) hk hc' (fun a ha => tb_up_k z j x ha)]; exact h1, h3⟩)
theorem tb_putA (X : tb_X own cc nLc g p c s m args) (hH : tb_H g H0 z H locs) {a : Nat} (ha : tb_isA a) (j : Nat) (hj : j < 6) {idx : Nat} (hlk : Cond.fieldLink own idx (TX0 j).1 (TX0 j).2.1 (TX0 j).2.2.1 ∈ wsL_law) {x : Int32} (hdg : decode cc pc = .ok (.putfield idx, 3))
    (kk : ∀ (H1 : Heap) (locs1 : List Loc), tb_H g H0 (tb_up z a j x) H1 locs1 → W p l e R s m args below meth c H1 locs1 cells slots Q (F0 m (pc + 3) ls rest)) : W p l e R s m args below meth c H locs cells slots Q (F0 m pc ls (.int x :: .ref (tb_ad g a) :: rest)) := by
  refine tb_put X hH (tb_Ac ha).1 ((tb_Ac ha).2 g _) rfl inlX0 tyX0 tyX0_ok nmX0 j (by omega) hlk ?_ ?_ ?_ ?_ hdg kk
  · rcases (show j = 0 ∨ j = 1 ∨ j = 2 ∨ j = 3 ∨ j = 4 ∨ j = 5 by omega) with rfl | rfl | rfl | rfl | rfl | rfl <;> rfl
  · rcases (show j = 0 ∨ j = 1 ∨ j = 2 ∨ j = 3 ∨ j = 4 ∨ j = 5 by omega) with rfl | rfl | rfl | rfl | rfl | rfl <;> decide +kernel
  · show j < 8
    omega
  · rw [(tb_Ac ha).2, tb_up_row]
    rcases (show j = 0 ∨ j = 1 ∨ j = 2 ∨ j = 3 ∨ j = 4 ∨ j = 5 by omega) with rfl | rfl | rfl | rfl | rfl | rfl <;> rfl
theorem tb_putD (X : tb_X own cc nLc g p c s m args) (hH : tb_H g H0 z H locs) {d : Nat} (hd : tb_isD d) (j : Nat) (hj : 5 ≤ j ∧ j < 10) {idx : Nat} (hlk : Cond.fieldLink own idx (TX1 j).1 (TX1 j).2.1 (TX1 j).2.2.1 ∈ wsL_law) {x : Int32} (hdg : decode cc pc = .ok (.putfield idx, 3))
    (kk : ∀ (H1 : Heap) (locs1 : List Loc), tb_H g H0 (tb_up z d j x) H1 locs1 → W p l e R s m args below meth c H1 locs1 cells slots Q (F0 m (pc + 3) ls rest)) : W p l e R s m args below meth c H locs cells slots Q (F0 m pc ls (.int x :: .ref (tb_ad g d) :: rest)) := by
  refine tb_put X hH (tb_Dc hd).1 ((tb_Dc hd).2 g _) rfl inlX1 tyX1 tyX1_ok nmX1 j hj.2 hlk ?_ ?_ ?_ ?_ hdg kk
  · rcases (show j = 5 ∨ j = 6 ∨ j = 7 ∨ j = 8 ∨ j = 9 by omega) with rfl | rfl | rfl | rfl | rfl <;> rfl
  · rcases (show j = 5 ∨ j = 6 ∨ j = 7 ∨ j = 8 ∨ j = 9 by omega) with rfl | rfl | rfl | rfl | rfl <;> decide +kernel
  · exact hj.2
  · rw [(tb_Dc hd).2, tb_up_row]
    rcases (show j = 5 ∨ j = 6 ∨ j = 7 ∨ j = 8 ∨ j = 9 by omega) with rfl | rfl | rfl | rfl | rfl <;> rfl
theorem tb_putS (X : tb_X own cc nLc g p c s m args) (hH : tb_H g H0 z H locs) {q : Nat} (hq : tb_isS q) (j : Nat) (hj : j < 3) {idx : Nat} (hlk : Cond.fieldLink own idx (TX4 j).1 (TX4 j).2.1 (TX4 j).2.2.1 ∈ wsL_law) {x : Int32} (hdg : decode cc pc = .ok (.putfield idx, 3))
    (kk : ∀ (H1 : Heap) (locs1 : List Loc), tb_H g H0 (tb_up z q j x) H1 locs1 → W p l e R s m args below meth c H1 locs1 cells slots Q (F0 m (pc + 3) ls rest)) : W p l e R s m args below meth c H locs cells slots Q (F0 m pc ls (.int x :: .ref (tb_ad g q) :: rest)) := by
  refine tb_put X hH (tb_Sc hq).1 ((tb_Sc hq).2 g _) rfl inlX4 tyX4 tyX4_ok nmX4 j (by omega) hlk ?_ ?_ ?_ ?_ hdg kk
  · rcases (show j = 0 ∨ j = 1 ∨ j = 2 by omega) with rfl | rfl | rfl <;> rfl
  · rcases (show j = 0 ∨ j = 1 ∨ j = 2 by omega) with rfl | rfl | rfl <;> decide +kernel
  · show j < 6
    omega
  · rw [(tb_Sc hq).2, tb_up_row]
    rcases (show j = 0 ∨ j = 1 ∨ j = 2 by omega) with rfl | rfl | rfl <;> rfl
theorem tb_putHi (X : tb_X own cc nLc g p c s m args) (hH : tb_H g H0 z H locs) (j : Nat) (hj : j < 2) {idx : Nat} (hlk : Cond.fieldLink own idx (TX2 j).1 (TX2 j).2.1 (TX2 j).2.2.1 ∈ wsL_law) {x : Int32} (hdg : decode cc pc = .ok (.putfield idx, 3))
    (kk : ∀ (H1 : Heap) (locs1 : List Loc), tb_H g H0 (tb_up z 153 j x) H1 locs1 → W p l e R s m args below meth c H1 locs1 cells slots Q (F0 m (pc + 3) ls rest)) : W p l e R s m args below meth c H locs cells slots Q (F0 m pc ls (.int x :: .ref (tb_ad g 153) :: rest)) := by
  refine tb_put X hH tb_Hc.1 (tb_Hc.2 g _) rfl inlX2 tyX2 tyX2_ok nmX2 j (by omega) hlk ?_ ?_ ?_ ?_ hdg kk
  · rcases (show j = 0 ∨ j = 1 by omega) with rfl | rfl <;> rfl
  · rcases (show j = 0 ∨ j = 1 by omega) with rfl | rfl <;> decide +kernel
  · show j < 3
    omega
  · rw [tb_Hc.2, tb_up_row]
    rcases (show j = 0 ∨ j = 1 by omega) with rfl | rfl <;> rfl
theorem tb_putP (X : tb_X own cc nLc g p c s m args) (hH : tb_H g H0 z H locs) {idx : Nat} (hlk : Cond.fieldLink own idx (TX3 0).1 (TX3 0).2.1 (TX3 0).2.2.1 ∈ wsL_law) {x : Int32} (hdg : decode cc pc = .ok (.putfield idx, 3))
    (kk : ∀ (H1 : Heap) (locs1 : List Loc), tb_H g H0 (tb_up z 155 0 x) H1 locs1 → W p l e R s m args below meth c H1 locs1 cells slots Q (F0 m (pc + 3) ls rest)) : W p l e R s m args below meth c H locs cells slots Q (F0 m pc ls (.int x :: .ref (tb_ad g 155) :: rest)) := by
  refine tb_put X hH tb_Pc.1 (tb_Pc.2 g _) rfl inlX3 tyX3 tyX3_ok nmX3 0 (by decide) hlk rfl (by decide +kernel) (by show 0 < 2; decide) ?_ hdg kk
  rw [tb_Pc.2, tb_up_row]
  rfl
theorem tb_putM (X : tb_X own cc nLc g p c s m args) (hH : tb_H g H0 z H locs) (j : Nat) (hj : j = 3 ∨ j = 7) {idx : Nat} (hlk : Cond.fieldLink own idx (TX6 j).1 (TX6 j).2.1 (TX6 j).2.2.1 ∈ wsL_law) {x : Int32} (hdg : decode cc pc = .ok (.putfield idx, 3))
    (kk : ∀ (H1 : Heap) (locs1 : List Loc), tb_H g H0 (tb_up z 157 j x) H1 locs1 → W p l e R s m args below meth c H1 locs1 cells slots Q (F0 m (pc + 3) ls rest)) : W p l e R s m args below meth c H locs cells slots Q (F0 m pc ls (.int x :: .ref (tb_ad g 157) :: rest)) := by
  refine tb_put X hH tb_Mc.1 (tb_Mc.2 g _) rfl inlX6 tyX6 tyX6_ok nmX6 j (by omega) hlk ?_ ?_ ?_ ?_ hdg kk
  · rcases hj with rfl | rfl <;> rfl
  · rcases hj with rfl | rfl <;> decide +kernel
  · show j < 8
    omega
  · rw [tb_Mc.2, tb_up_row]
    rcases hj with rfl | rfl <;> rfl
-- arrays of ints
theorem tb_ald (X : tb_X own cc nLc g p c s m args) (hH : tb_H g H0 z H locs) {k n : Nat} (hI : tb_isI k n) (j : Nat) {i : Int32} (hi : i = nI j) (hj : j < n) (hn : n < 1000) (hdg : decode cc pc = .ok (.iaload, 1))
    (kk : W p l e R s m args below meth c H locs cells slots Q (F0 m (pc + 1) ls (.int (z k j) :: rest))) : W p l e R s m args below meth c H locs cells slots Q (F0 m pc ls (.int i :: .ref (tb_ad g k) :: rest)) := by
  subst hi
  refine va_iald X.1 X.2.1 X.2.2.2.2.1.1 hH.1 k 0 (cA := g.2.2.2.1) (n := n) (f := z k) (by rw [tb_Wg g z hI.1, hI.2]; rfl) rfl (vp_in_nI hj (by omega)) hdg ?_
  rw [nI_clamp (by omega)]
  exact kk
theorem tb_ast (X : tb_X own cc nLc g p c s m args) (hH : tb_H g H0 z H locs) {k n : Nat} (hI : tb_isI k n) (j : Nat) {i x : Int32} (hi : i = nI j) (hj : j < n) (hn : n < 1000) (hdg : decode cc pc = .ok (.iastore, 1))
    (kk : ∀ (H1 : Heap) (locs1 : List Loc), tb_H g H0 (tb_up z k j x) H1 locs1 → W p l e R s m args below meth c H1 locs1 cells slots Q (F0 m (pc + 1) ls rest)) : W p l e R s m args below meth c H locs cells slots Q (F0 m pc ls (.int x :: .int i :: .ref (tb_ad g k) :: rest)) := by
  subst hi
  refine va_iast X.1 X.2.1 X.2.2.2.2.1.1 hH.1 (tb_Dj X.2.2.2.2.1.2.1 z) hH.2 k 0 (cA := g.2.2.2.1) (n := n) (f := z k) (by rw [tb_Wg g z hI.1, hI.2]; rfl) rfl (vp_in_nI hj (by omega)) hdg (fun H1 locs1 h1 _ h3 => kk H1 locs1 ⟨?_, h3⟩)
  rw [← tb_Ws g z (tb_up z k j x) hI.1 (e := .inl (g.2.2.2.1, n, .inl (upd (z k) j x))) (by rw [hI.2, tb_up_row]; rfl) (fun a ha => tb_up_k z j x ha)]
  rw [nI_clamp (by omega)] at h1
  exact h1
theorem tb_zld (X : tb_X own cc nLc g p c s m args) (hH : tb_H g H0 z H locs) (j : Nat) {i : Int32} (hi : i = nI j) (hj : j < 2) (hdg : decode cc pc = .ok (.baload, 1))
    (kk : W p l e R s m args below meth c H locs cells slots Q (F0 m (pc + 1) ls (.int (z 152 j) :: rest))) : W p l e R s m args below meth c H locs cells slots Q (F0 m pc ls (.int i :: .ref (tb_ad g 152) :: rest)) := by
  subst hi
  refine va_zald X.1 X.2.1 X.2.2.2.2.1.1 hH.1 152 1 (cA := g.2.2.2.2.1) (n := 2) (f := z 152) (by rw [tb_Wg g z (by decide)]; rfl) rfl (vp_in_nI hj (by omega)) hdg ?_
  rw [nI_clamp (by omega)]
  exact kk
theorem tb_zst (X : tb_X own cc nLc g p c s m args) (hH : tb_H g H0 z H locs) (j : Nat) {i : Int32} (hi : i = nI j) (hj : j < 2) (hdg : decode cc pc = .ok (.bastore, 1))
    (kk : ∀ (H1 : Heap) (locs1 : List Loc), tb_H g H0 (tb_up z 152 j (nI 1)) H1 locs1 → W p l e R s m args below meth c H1 locs1 cells slots Q (F0 m (pc + 1) ls rest)) : W p l e R s m args below meth c H locs cells slots Q (F0 m pc ls (.int (nI 1) :: .int i :: .ref (tb_ad g 152) :: rest)) := by
  subst hi
  refine va_zast X.1 X.2.1 X.2.2.2.2.1.1 hH.1 (tb_Dj X.2.2.2.2.1.2.1 z) hH.2 152 1 (cA := g.2.2.2.2.1) (n := 2) (f := z 152) (by rw [tb_Wg g z (by decide)]; rfl) rfl (vp_in_nI hj (by omega)) hdg (fun H1 locs1 h1 _ h3 => kk H1 locs1 ⟨?_, h3⟩)
  rw [← tb_Ws g z (tb_up z 152 j (nI 1)) (by decide) (e := .inl (g.2.2.2.2.1, 2, .inl (upd (z 152) j (nI 1)))) (by rw [tb_up_row]; rfl) (fun a ha => tb_up_k z j _ ha)]
  rw [nI_clamp (by omega)] at h1
  exact h1
theorem tb_aalS (X : tb_X own cc nLc g p c s m args) (hH : tb_H g H0 z H locs) (j : Nat) {i : Int32} (hi : i = nI j) (hj : j < 2) (hdg : decode cc pc = .ok (.aaload, 1))
    (kk : W p l e R s m args below meth c H locs cells slots Q (F0 m (pc + 1) ls (.ref (tb_ad g (30 + 15 * j)) :: rest))) : W p l e R s m args below meth c H locs cells slots Q (F0 m pc ls (.int i :: .ref (tb_ad g 151) :: rest)) := by
  subst hi
  refine va_aldq X.1 X.2.1 X.2.2.2.2.1.1 hH.1 151 2 (cA := g.2.2.2.2.2) (C := RX1) (n := 2) (f := fun j => some (tb_ad g (30 + 15 * j))) (by rw [tb_Wg g z (by decide)]; rfl) rfl (vp_in_nI hj (by omega)) hdg ?_
  rw [nI_clamp (by omega)]
  exact kk
theorem tb_aalH (X : tb_X own cc nLc g p c s m args) (hH : tb_H g H0 z H locs) (j : Nat) {i : Int32} (hi : i = nI j) (hj : j < 6) (hdg : decode cc pc = .ok (.aaload, 1))
    (kk : W p l e R s m args below meth c H locs cells slots Q (F0 m (pc + 1) ls (.ref (tb_ad g (60 + 15 * j)) :: rest))) : W p l e R s m args below meth c H locs cells slots Q (F0 m pc ls (.int i :: .ref (tb_ad g 154) :: rest)) := by
  subst hi
  refine va_aldq X.1 X.2.1 X.2.2.2.2.1.1 hH.1 154 2 (cA := g.2.2.2.2.2) (C := RX1) (n := 6) (f := fun j => some (tb_ad g (60 + 15 * j))) (by rw [tb_Wg g z (by decide)]; rfl) rfl (vp_in_nI hj (by omega)) hdg ?_
  rw [nI_clamp (by omega)]
  exact kk
theorem tb_acp (X : tb_X own cc nLc g p c s m args) (hH : tb_H g H0 z H locs) (hls : ls.size = nLc) {k1 k2 n1 n2 : Nat} (hI1 : tb_isI k1 n1) (hI2 : tb_isI k2 n2) (n : Nat) (h1 : n ≤ n1) (h2 : n ≤ n2) (h3 : n1 < 1000) {idx : Nat} (w1 : Cond.methodLink own idx arraycopyName ∈ wsL_law) (w2 : Cond.native arraycopyName ∈ wsL_law) (w3 : Cond.static arraycopyName ∈ wsL_law) (w4 : Cond.initialized "java/lang/System" ∈ wsL_law) (hfr : 1 ≤ R.frames) (hlo : (rest.map fun v => v.category).sum + 18 ≤ R.locals) (hdg : decode cc pc = .ok (.invokestatic idx, 3))
    (kk : ∀ (H1 : Heap) (locs1 : List Loc), tb_H g H0 (tb_cp z k1 k2 n) H1 locs1 → W p l e R s m args below meth c H1 locs1 cells slots Q (F0 m (pc + 3) ls rest)) : W p l e R s m args below meth c H locs cells slots Q (F0 m pc ls (.int (nI n) :: .int (nI 0) :: .ref (tb_ad g k2) :: .int (nI 0) :: .ref (tb_ad g k1) :: rest)) := by
  have e0 : (nI 0).toNatClampNeg = 0 := nI_clamp (by decide)
  have en : (nI n).toNatClampNeg = n := nI_clamp (by omega)
  refine va_copyi X.1 X.2.1 (X.2.2.2.2.2.trans hls.symm) X.2.2.2.1 (X.2.2.1 _ w1) (X.2.2.1 _ w2) (X.2.2.1 _ w3) (X.2.2.1 _ w4) X.2.2.2.2.1.1 hH.1 (tb_Dj X.2.2.2.2.1.2.1 z) hH.2 k1 k2 0 0 (c0 := g.2.2.2.1) (c1 := g.2.2.2.1) (n0 := n1) (n1 := n2) (f := z k1) (g := z k2) (ty := .int) (by rw [tb_Wg g z hI1.1, hI1.2]; rfl) (by rw [tb_Wg g z hI2.1, hI2.2]; rfl) rfl rfl rfl (nI_pos (by decide)) (nI_pos (by decide)) (nI_pos (by omega)) (by rw [e0, en]; omega) (by rw [e0, en]; omega) (fun _ _ => rfl) hfr ?_ hdg (fun H1 locs1 q1 _ q3 => kk H1 locs1 ⟨?_, q3⟩)
  · have : nativeFrameWords "java/lang/System" "arraycopy" 5 = 7 := by decide +kernel
    omega
  · rw [← tb_Ws g z (tb_cp z k1 k2 n) hI2.1 (e := .inl (g.2.2.2.1, n2, .inl (va_cpy (z k1) (z k2) 0 0 n))) ?_ (fun a ha => tb_cp_k z n ha)]
    · rw [e0, en] at q1
      exact q1
    · rw [hI2.2]
      have : tb_cp z k1 k2 n k2 = va_cpy (z k1) (z k2) 0 0 n := by
        funext b
        simp [tb_cp, va_cpy]
      rw [this]
      rfl
-- numbers
theorem tb_iaddN (X : tb_X own cc nLc g p c s m args) {a b : Nat} (hdg : decode cc pc = .ok (.iadd, 1)) (kk : W p l e R s m args below meth c H locs cells slots Q (F0 m (pc + 1) ls (.int (nI (a + b)) :: rest))) : W p l e R s m args below meth c H locs cells slots Q (F0 m pc ls (.int (nI b) :: .int (nI a) :: rest)) := by
  refine lv_iadd X.1 X.2.1 hdg ?_
  rw [nI_add]
  exact kk
theorem tb_imulN (X : tb_X own cc nLc g p c s m args) {a b : Nat} (hdg : decode cc pc = .ok (.imul, 1)) (kk : W p l e R s m args below meth c H locs cells slots Q (F0 m (pc + 1) ls (.int (nI (a * b)) :: rest))) : W p l e R s m args below meth c H locs cells slots Q (F0 m pc ls (.int (nI b) :: .int (nI a) :: rest)) := by
  refine lv_imul X.1 X.2.1 hdg ?_
  rw [pk_mul]
  exact kk
theorem tb_isubN (X : tb_X own cc nLc g p c s m args) {a b : Nat} (hab : b ≤ a) (hdg : decode cc pc = .ok (.isub, 1)) (kk : W p l e R s m args below meth c H locs cells slots Q (F0 m (pc + 1) ls (.int (nI (a - b)) :: rest))) : W p l e R s m args below meth c H locs cells slots Q (F0 m pc ls (.int (nI b) :: .int (nI a) :: rest)) := by
  refine lv_isub X.1 X.2.1 hdg ?_
  rw [pk_sub hab]
  exact kk
end TBROWS
