/-! THE MODEL'S CONSTRUCTOR -/
set_option maxHeartbeats 1000000 in
set_option maxRecDepth 100000 in
theorem k_X6_setPart (l : Launch) (g : tb_G) (w0 : va_W) (h0 a1 : Nat) (fs : List Value) (f : Nat → Int32) (sl q : Nat) (v : Int32) (he : w0[0]? = some (h0, .inr (6, fs))) (hfs : fs[0]? = some (.ref a1)) (ha : w0[1]? = some (a1, tc_eI g 139 f)) (hj : 11 + 46 * sl + q < 139) (sz : Nat) : Met l yX6_setPart (Cond.code yX6_setPart cX6_setPart 4 none :: wsL_law) (tc_rm 0 0 0) (va_Pc [.ref h0, .int (nI sl), .int (nI q), .int v] (tc_Pr g w0 sz)) (va_Qv (fun w : va_W => w = w0.set 1 (a1, tc_eI g 139 (upd f (11 + 46 * sl + q) v))) (tc_B g (va_A w0 sz)) (va_A w0 sz)) 0 0 (va_A w0 sz) := by
  refine Met.ofW (cc := cX6_setPart) (maxL := 4) (ret := none) (by decide +kernel) rfl ?_
  intro p e s m args below meth c s₁ B hml hv
  obtain ⟨rfl, hsz, hP, hK, hD0⟩ := hv
  have hts := atoms_spec (ws := Cond.code yX6_setPart cX6_setPart 4 none :: wsL_law) B.pre
  subst hsz
  rw [lg_entry_eq]
  have hl := lv_entry [.ref h0, .int (nI sl), .int (nI q), .int v] (n := 4) (Nat.le_of_ble_eq_true rfl)
  have X : tc_X RX6 cX6_setPart 4 g p c s m [.ref h0, .int (nI sl), .int (nI q), .int v].toArray := ⟨B.exec, B.bytes, fun w hw => hts w (List.mem_cons_of_mem _ hw), findClass_of_methodNamed B.named, hK, hml⟩
  have hr := B.returns
  have hlk := B.notSynchronized
  have hH : tc_H g (va_A w0 s.heap.size) s.heap w0 s.heap [] := ⟨hP, hD0.self, va_S.rf⟩
  generalize (lg_sl ([.ref h0, .int (nI sl), .int (nI q), .int v]) ++ List.replicate (4 - (lg_sl ([.ref h0, .int (nI sl), .int (nI q), .int v])).length) Slot.unset).toArray = ls at hl ⊢
  have hl : lv_has ls 4 [(0, .ref h0), (1, .int (nI sl)), (2, .int (nI q)), (3, .int v)] := hl
  refine lv_aload_n X.1 X.2.1 dX6_setPart_0 rfl (lv_at hl 0 rfl) ?_
  refine tc_get X hH inlX6 0 he rfl 0 (by decide) wm_99 (v := .ref a1) hfs dX6_setPart_1 ?_
  refine lv_bipush (v := nI 11) X.1 X.2.1 dX6_setPart_4 (by decide +kernel) ?_
  refine lv_bipush (v := nI 46) X.1 X.2.1 dX6_setPart_6 (by decide +kernel) ?_
  refine lv_iload_n X.1 X.2.1 dX6_setPart_8 rfl (lv_at hl 1 rfl) ?_
  refine lv_imul X.1 X.2.1 dX6_setPart_9 ?_
  refine lv_iadd X.1 X.2.1 dX6_setPart_10 ?_
  refine lv_iload_n X.1 X.2.1 dX6_setPart_11 rfl (lv_at hl 2 rfl) ?_
  refine lv_iadd X.1 X.2.1 dX6_setPart_12 ?_
  refine lv_iload_n X.1 X.2.1 dX6_setPart_13 rfl (lv_at hl 3 rfl) ?_
  refine tc_ast X hH 1 ha (11 + 46 * sl + q) (by rw [pk_mul, nI_add, nI_add]) hj (by decide) dX6_setPart_14 (fun H locs hH => ?_)
  exact W.vret X.1 X.2.1 hr (fun t ht _ => ⟨⟨_, rfl, rfl, by rw [ht]; exact hH.1, hH.2.1⟩, hH.2.2.F ht⟩) hH.2.2.2.2 dX6_setPart_15 hlk
def tc_m0 : va_E := .inr (6, [.null, .null, .null, .int (nI 0), .null, .null, .null, .int (nI 0)])
def tc_wM (g : tb_G) (h0 a1 a2 a3 a4 a5 a6 : Nat) (f : Nat → Int32) : va_W := [(h0, .inr (6, [.ref a1, .ref a2, .ref a3, .int (nI 0), .ref a4, .ref a5, .ref a6, .int (nI 0)])), (a1, tc_eI g 139 f), (a2, tc_eI g 139 (fun _ => nI 0)), (a3, tc_eI g 834 (fun _ => nI 0)), (a4, tc_eI g 278 (fun _ => nI 0)), (a5, tc_eI g 2 (fun _ => nI 0)), (a6, tc_eI g 64 (fun _ => nI 0))]
/-- the reference's row at first -/
def tc_ZM (f : Nat → Int32) : Prop := f 0 = nI 3 ∧ f 1 = nI 10 ∧ f 2 = nI 20 ∧ f 3 = nI 2 ∧ (∀ r, r < 2 → ∀ w, w < 32 → f (11 + 46 * r + (14 + w)) = nI 255) ∧ ∀ j, 4 ≤ j → j < 139 → (∀ r, r < 2 → ∀ w, w < 32 → j ≠ 11 + 46 * r + (14 + w)) → f j = nI 0
def tc_pM (g : tb_G) (h0 : Nat) (w : va_W) : Prop := ∃ (a1 a2 a3 a4 a5 a6 : Nat) (f : Nat → Int32), w = tc_wM g h0 a1 a2 a3 a4 a5 a6 f ∧ tc_ZM f
section TCROWSE
variable {p : Program} {l : Launch} {e : Env} {R : Room} {s : State} {m : MethodId} {args : Array Value} {below : List Frame} {meth : Method} {c : Code} {H : Heap} {locs : List Loc} {cells slots : Nat} {Q : State → Prop}
variable {cc : ByteArray} {pc nLc : Nat} {ls : Array Slot} {rest : List Value} {g : tb_G} {own : String} {A : Nat → Prop} {h0 a1 a2 a3 a4 a5 a6 : Nat} {f : Nat → Int32}
theorem tc_setp (X : tc_X own cc nLc g p c s m args) (hA : ∀ q, s.heap.size ≤ q → A q) (hH : tc_H g A s.heap (tc_wM g h0 a1 a2 a3 a4 a5 a6 f) H locs) (hls : ls.size = nLc) {idx : Nat} (hlk : Cond.methodLink own idx yX6_setPart ∈ wsL_law) {sl q : Nat} {v : Int32} (hj : 11 + 46 * sl + q < 139) (hcat : (rest.map fun v => v.category).sum ≤ 8) (hR : 1 ≤ R.frames ∧ 30 ≤ R.locals) (hcs : cells ≤ R.cells ∧ slots ≤ R.slots) (hdg : decode cc pc = .ok (.invokevirtual idx, 3))
    (kk : ∀ (H1 : Heap) (locs1 : List Loc), tc_H g A s.heap (tc_wM g h0 a1 a2 a3 a4 a5 a6 (upd f (11 + 46 * sl + q) v)) H1 locs1 → W p l e R s m args below meth c H1 locs1 cells slots Q (F0 m (pc + 3) ls rest)) : W p l e R s m args below meth c H locs cells slots Q (F0 m pc ls (.int v :: .int (nI q) :: .int (nI sl) :: .ref h0 :: rest)) := by
  have hC : ([0, 1, 2, 3, 4, 5, 6]).map (fun i => (tc_wM g h0 a1 a2 a3 a4 a5 a6 f)[i]?) = (tc_wM g h0 a1 a2 a3 a4 a5 a6 f).map some := rfl
  have hFc := va_free (wc := tc_wM g h0 a1 a2 a3 a4 a5 a6 f) hH.2.1 hH.2.2 hA [0, 1, 2, 3, 4, 5, 6] hC
  have CB : CallB R s args own idx yX6_setPart cX6_setPart 4 none (Cond.code yX6_setPart cX6_setPart 4 none :: wsL_law) (tc_rm 0 0 0) 0 0 3 := ⟨rfl, rfl, hR.1, by show 8 + (4 + 11) + 36 * 0 ≤ R.locals; omega, tc_words X ky_X6_setPart.1.1, List.mem_cons_self, X.2.2.1 _ ky_X6_setPart.1.1, X.2.2.1 _ ky_X6_setPart.1.2.1, ky_X6_setPart.1.2.2.1, tb_sigN ky_X6_setPart.1.2.2.2, X.2.2.1 _ hlk⟩
  have hrc : ∃ cellB : Cell, H[h0]? = some cellB ∧ cellB.vm.isStatics = false ∧ s.vm.findClass RX6 = some cellB.cls := va_recv (q := (RX6, TX6, 8)) X.2.2.2.2.1.1 hH.1 (q0 := 0) (ci := 6) rfl rfl
  refine va_callv (va_runV (As := [.int (nI sl), .int (nI q), .int v]) (rest := rest) ⟨X.1, X.2.1, X.2.2.2.2.2, X.2.2.2.1, X.2.2.1⟩ (k_X6_setPart l g (tc_wM g h0 a1 a2 a3 a4 a5 a6 f) h0 a1 _ f sl q v rfl rfl rfl hj H.size) ⟨CB, X.2.2.1 _ ky_X6_setPart.2.1, X.2.2.1 _ ky_X6_setPart.2.2⟩ ⟨tc_blind g _ _ _, hrc, fun U hU hW => ⟨rfl, by rw [hU], by rw [hU]; exact hH.1, X.2.2.2.2.1.warm hW, hH.2.1.weaken (fun _ _ _ _ => trivial)⟩⟩ rfl rfl hls rfl (lv_room hcat) hdg ⟨hcs.1, hcs.2⟩) hH.2.2 (fun q _ h => hFc q h) hFc (fun u t H1 locs1 ht hvm hw hB _ hk1 hS => ?_)
  subst hw
  obtain ⟨hP1, hD1⟩ := hB
  rw [ht] at hP1
  obtain ⟨hP, hD⟩ := va_join (wr := []) hH.1 hH.2.1 [0, 1, 2, 3, 4, 5, 6] [] hC rfl rfl (by decide) hk1 hFc hP1 hD1
  exact kk H1 locs1 ⟨hP, hD, hS⟩
end TCROWSE
