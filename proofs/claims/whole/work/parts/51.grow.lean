/-! CONSTRUCTORS: worlds that grow -/
def tc_K (g : tb_G) (U : State) : Prop := va_K (g.1, g.2.1) vwCl [(g.2.2.2.1, .int), (g.2.2.2.2.1, .boolean), (g.2.2.2.2.2, .object RX1)] U ∧ tb_N U ∧ va_Nw (.methodLinkNest RX1 30 yX4_init RX5) U ∧ va_Nw (.methodLinkNest RX5 36 yX3_init RX5) U ∧ va_AO RX1 U
theorem tc_K.warm {g : tb_G} {s U : State} (hW : s.WarmedH U.vm) (h : tc_K g s) : tc_K g U := ⟨va_K.moved hW.alike h.1, h.2.1.warm hW, va_Nw.warmM hW h.2.2.1, va_Nw.warmM hW h.2.2.2.1, h.2.2.2.2.moved hW.alike⟩
theorem tc_K.same {g : tb_G} {s U : State} (hvm : s.vm = U.vm) (h : tc_K g s) : tc_K g U := ⟨va_K.moved (by rw [hvm]; exact Vm.Alike.refl _) h.1, h.2.1.same hvm, va_Nw.same rfl hvm h.2.2.1, va_Nw.same rfl hvm h.2.2.2.1, h.2.2.2.2.moved (by rw [hvm]; exact Vm.Alike.refl _)⟩
def tc_X (own : String) (cc : ByteArray) (nL : Nat) (g : tb_G) (p : Program) (c : Code) (s : State) (m : MethodId) (args : Array Value) : Prop :=
  p.tables.exec = Jvm.exec ∧ c.code = cc ∧ (∀ w ∈ wsL_law, w.before args s = true) ∧ s.vm.findClass own = some m.cls ∧ tc_K g s ∧ c.maxLocals = nL
def tc_H (g : tb_G) (A : Nat → Prop) (H0 : Heap) (ws : va_W) (H : Heap) (locs : List Loc) : Prop := va_P (g.1, g.2.1) vwCl ws H ∧ va_D A ws ∧ va_S A H0 H locs
def tc_rm (n mc ms : Nat) : Room := { frames := n, cells := mc, slots := ms, locals := 36 * n }
def tc_Pr (g : tb_G) (w : va_W) (sz : Nat) (U : State) : Prop := U.heap.size = sz ∧ va_P (g.1, g.2.1) vwCl w U.heap ∧ tc_K g U ∧ va_D (fun _ => True) w
def tc_B (g : tb_G) (A : Nat → Prop) (w : va_W) (t : State) : Prop := va_P (g.1, g.2.1) vwCl w t.heap ∧ va_D A w
/-- a constructor's contract: the new object alone (e0) becomes the cells of w -/
def tc_M (l : Launch) (y : MethodName) (cy : ByteArray) (nL n mc ms : Nat) (g : tb_G) (e0 : va_E) (post : Nat → va_W → Prop) : Prop :=
  ∀ (h0 sz : Nat), Met l y (Cond.code y cy nL none :: wsL_law) (tc_rm n mc ms) (va_Pc [.ref h0] (tc_Pr g [(h0, e0)] sz)) (va_Qv (fun w : va_W => post h0 w) (tc_B g (va_A [(h0, e0)] sz)) (va_A [(h0, e0)] sz)) mc ms (va_A [(h0, e0)] sz)
theorem tc_blind (g : tb_G) (w : va_W) (sz : Nat) (As : List Value) : FrameBlind (va_Pc As (tc_Pr g w sz)) := fun a U gg mk h => ⟨h.1, h.2.1, h.2.2.1, h.2.2.2.1.same (s := U) (U := U.calling gg mk a) rfl, h.2.2.2.2⟩
section TCROWS
variable {p : Program} {l : Launch} {e : Env} {R : Room} {s : State} {m : MethodId} {args : Array Value} {below : List Frame} {meth : Method} {c : Code} {H : Heap} {locs : List Loc} {cells slots : Nat} {Q : State → Prop}
variable {cc : ByteArray} {pc nLc : Nat} {ls : Array Slot} {rest : List Value} {g : tb_G} {own : String} {A : Nat → Prop} {ws : va_W} {a : Nat} {y : MethodName} {cy : ByteArray} {nL nf mc ms : Nat} {e0 : va_E} {post : Nat → va_W → Prop}
theorem tc_go (hy : plainName y.cls = true) (hown : y.cls = own) (hlen : 1 ≤ nL) (body : ∀ (p : Program) (e : Env) (s : State) (m : MethodId) (below : List Frame) (meth : Method) (c : Code) (ls : Array Slot) (A : Nat → Prop) (h0 : Nat), tc_X own cy nL g p c s m #[.ref h0] → meth.sig.returnType = none → meth.locks = false → meth.name = y.name → (∀ q, s.heap.size ≤ q → A q) → tc_H g A s.heap [(h0, e0)] s.heap [] → lv_has ls nL [(0, .ref h0)] → W p l e (tc_rm nf mc ms) s m #[.ref h0] below meth c s.heap [] 0 0 (MQ below (va_Qv (fun w : va_W => post h0 w) (tc_B g A) A) #[.ref h0] s mc ms A) (F0 m 0 ls [])) : tc_M l y cy nL nf mc ms g e0 post := by
  intro h0 sz
  refine Met.ofW (cc := cy) (maxL := nL) (ret := none) hy rfl ?_
  intro p e s m args below meth c s₁ B hml hv
  obtain ⟨rfl, hsz, hP, hK, hD0⟩ := hv
  have hts := atoms_spec (ws := Cond.code y cy nL none :: wsL_law) B.pre
  subst hsz
  rw [lg_entry_eq]
  exact body p e s m below meth c _ _ h0 ⟨B.exec, B.bytes, fun w hw => hts w (List.mem_cons_of_mem _ hw), by rw [← hown]; exact findClass_of_methodNamed B.named, hK, hml⟩ B.returns B.notSynchronized (name_of_methodNamed B.named B.method).1 (fun q h => Or.inr h) ⟨hP, hD0.self, va_S.rf⟩ (lv_entry [.ref h0] (n := nL) hlen)
/-- Object's constructor -/
theorem tc_obj (X : tc_X own cc nLc g p c s m args) (hls : ls.size = nLc) {idx : Nat} (hlk : Cond.methodLink own idx objectInit ∈ wsL_law) (hcat : (rest.map fun v => v.category).sum ≤ 8) (hR : 1 ≤ R.frames ∧ 36 ≤ R.locals) (hdg : decode cc pc = .ok (.invokespecial idx, 3))
    (kk : W p l e R s m args below meth c H locs cells slots Q (F0 m (pc + 3) ls rest)) : W p l e R s m args below meth c H locs cells slots Q (F0 m pc ls (.ref a :: rest)) := by
  refine W.objInit X.1 X.2.1 X.2.2.2.1 (X.2.2.1 _ hlk) (X.2.2.1 _ wm_11) (X.2.2.1 _ wm_12) rfl (hls.trans X.2.2.2.2.2.symm) rfl hdg hR.1 ?_ ?_
  · show 2 * 0 + (rest.map fun v => v.category).sum + 12 ≤ R.locals
    omega
  · exact kk
theorem tc_new (X : tc_X own cc nLc g p c s m args) (hA : ∀ q, s.heap.size ≤ q → A q) (hH : tc_H g A s.heap ws H locs) {C : String} {T : u_T} {N ci idx : Nat} (hin : ∀ w ∈ u_ws C T N, w ∈ wsL_law) (ty : Nat → FieldType) (hty : ∀ k, k < N → parseFieldDescriptor (T k).2.2.1 = some (ty k)) (hcl : Cond.classLink own idx C ∈ wsL_law) (hinst : Cond.instantiable C N ∈ wsL_law) (hini : Cond.initialized C ∈ wsL_law) (hc : vwCl[ci]? = some (C, T, N)) (fs : List Value) (hfs : ∀ j, j < N → defaultValue (ty j) = vp_V fs j) (hcs : cells + 1 ≤ R.cells ∧ slots + N ≤ R.slots) (hdg : decode cc pc = .ok (.new idx, 3))
    (kk : ∀ (q : Nat) (H1 : Heap), tc_H g A s.heap (ws ++ [(q, .inr (ci, fs))]) H1 locs → W p l e R s m args below meth c H1 locs (cells + 1) (slots + N) Q (F0 m (pc + 3) ls (.ref q :: rest))) : W p l e R s m args below meth c H locs cells slots Q (F0 m pc ls rest) :=
  va_new X.1 X.2.1 X.2.2.1 hin ty hty X.2.2.2.1 (X.2.2.1 _ hcl) (X.2.2.1 _ hinst) (X.2.2.1 _ hini) X.2.2.2.2.1.1 hH.1 hH.2.1 hH.2.2 hA hc hfs hcs.1 hcs.2 hdg (fun q H1 h1 h2 h3 => kk q H1 ⟨h1, h2, h3⟩)
theorem tc_newi (X : tc_X own cc nLc g p c s m args) (hA : ∀ q, s.heap.size ≤ q → A q) (hH : tc_H g A s.heap ws H locs) {N : Nat} (hN : N < 1000) {n : Int32} (hn : n = nI N) (hcs : cells + 1 ≤ R.cells ∧ slots + N ≤ R.slots) (hdg : decode cc pc = .ok (.newarray .int, 2))
    (kk : ∀ (q : Nat) (H1 : Heap), tc_H g A s.heap (ws ++ [(q, .inl (g.2.2.2.1, N, .inl (fun _ => nI 0)))]) H1 locs → W p l e R s m args below meth c H1 locs (cells + 1) (slots + N) Q (F0 m (pc + 2) ls (.ref q :: rest))) : W p l e R s m args below meth c H locs cells slots Q (F0 m pc ls (.int n :: rest)) := by
  subst hn
  refine va_newa (atype := .int) (ty := .int) (a0 := (N, .inl (fun _ => nI 0))) X.1 X.2.1 (X.2.2.1 _ wm_33) rfl X.2.2.2.2.1.1 hH.1 hH.2.1 hH.2.2 hA (fun cA => rfl) (nI_pos (by omega)) (nI_clamp (by omega)) (by show N * 4 ≤ 536870912; omega) hcs.1 hcs.2 hdg (fun q cA H1 hK h1 h2 h3 => ?_)
  have e1 := (hK.2 0 _ rfl).2
  have e2 := (hK.2 3 _ rfl).2
  have e3 : g.2.2.2.1 = cA := Option.some.inj (e1.symm.trans e2)
  subst e3
  exact kk q H1 ⟨h1, h2, h3⟩
theorem tc_putF (X : tc_X own cc nLc g p c s m args) (hH : tc_H g A s.heap ws H locs) {C : String} {T : u_T} {N ci idx : Nat} (hin : ∀ w ∈ u_ws C T N, w ∈ wsL_law) (ty0 : Nat → FieldType) (hty : ∀ k, k < N → parseFieldDescriptor (T k).2.2.1 = some (ty0 k)) (hnm : ∀ a, a < N → ∀ b, b < N → a ≠ b → (T a).2.1 ≠ (T b).2.1) (q0 : Nat) {fs : List Value} (he : ws[q0]? = some (a, .inr (ci, fs))) (hc : vwCl[ci]? = some (C, T, N)) (k : Nat) (hk : k < N) (hlk : Cond.fieldLink own idx (T k).1 (T k).2.1 (T k).2.2.1 ∈ wsL_law) (hfin : (T k).2.2.2 = true) (hin2 : meth.name = "<init>") (hdecl : (T k).1 = own) {ty : FieldType} {v : Value} (hd : parseFieldDescriptor (T k).2.2.1 = some ty) (hn : narrow ty v = v) (hfit : fits ty v = true) (hl : k < fs.length) (hdg : decode cc pc = .ok (.putfield idx, 3))
    (kk : ∀ (H1 : Heap) (locs1 : List Loc), tc_H g A s.heap (ws.set q0 (a, .inr (ci, fs.set k v))) H1 locs1 → W p l e R s m args below meth c H1 locs1 cells slots Q (F0 m (pc + 3) ls rest)) : W p l e R s m args below meth c H locs cells slots Q (F0 m pc ls (v :: .ref a :: rest)) :=
  va_putF X.1 X.2.1 X.2.2.1 hin ty0 hty hnm X.2.2.2.1 X.2.2.2.2.1.1 hH.1 hH.2.1 hH.2.2 q0 he hc k hk (X.2.2.1 _ hlk) (fun _ h => h) hfin hin2 hdecl hd hn hfit hl hdg (fun H1 locs1 h1 h2 h3 => kk H1 locs1 ⟨h1, h2, h3⟩)
theorem tc_put (X : tc_X own cc nLc g p c s m args) (hH : tc_H g A s.heap ws H locs) {C : String} {T : u_T} {N ci idx : Nat} (hin : ∀ w ∈ u_ws C T N, w ∈ wsL_law) (ty0 : Nat → FieldType) (hty : ∀ k, k < N → parseFieldDescriptor (T k).2.2.1 = some (ty0 k)) (hnm : ∀ a, a < N → ∀ b, b < N → a ≠ b → (T a).2.1 ≠ (T b).2.1) (q0 : Nat) {fs : List Value} (he : ws[q0]? = some (a, .inr (ci, fs))) (hc : vwCl[ci]? = some (C, T, N)) (k : Nat) (hk : k < N) (hlk : Cond.fieldLink own idx (T k).1 (T k).2.1 (T k).2.2.1 ∈ wsL_law) (hfin : (T k).2.2.2 = false) {ty : FieldType} {v : Value} (hd : parseFieldDescriptor (T k).2.2.1 = some ty) (hn : narrow ty v = v) (hfit : fits ty v = true) (hl : k < fs.length) (hdg : decode cc pc = .ok (.putfield idx, 3))
    (kk : ∀ (H1 : Heap) (locs1 : List Loc), tc_H g A s.heap (ws.set q0 (a, .inr (ci, fs.set k v))) H1 locs1 → W p l e R s m args below meth c H1 locs1 cells slots Q (F0 m (pc + 3) ls rest)) : W p l e R s m args below meth c H locs cells slots Q (F0 m pc ls (v :: .ref a :: rest)) :=
  va_put X.1 X.2.1 X.2.2.1 hin ty0 hty hnm X.2.2.2.1 X.2.2.2.2.1.1 hH.1 hH.2.1 hH.2.2 q0 he hc k hk (X.2.2.1 _ hlk) (fun _ h => h) hfin hd hn hfit hl hdg (fun H1 locs1 h1 h2 h3 => kk H1 locs1 ⟨h1, h2, h3⟩)
theorem tc_get (X : tc_X own cc nLc g p c s m args) (hH : tc_H g A s.heap ws H locs) {C : String} {T : u_T} {N ci idx : Nat} (hin : ∀ w ∈ u_ws C T N, w ∈ wsL_law) (q0 : Nat) {fs : List Value} (he : ws[q0]? = some (a, .inr (ci, fs))) (hc : vwCl[ci]? = some (C, T, N)) (k : Nat) (hk : k < N) (hlk : Cond.fieldLink own idx (T k).1 (T k).2.1 (T k).2.2.1 ∈ wsL_law) {v : Value} (hv : fs[k]? = some v) (hdg : decode cc pc = .ok (.getfield idx, 3))
    (kk : W p l e R s m args below meth c H locs cells slots Q (F0 m (pc + 3) ls (v :: rest))) : W p l e R s m args below meth c H locs cells slots Q (F0 m pc ls (.ref a :: rest)) :=
  va_get X.1 X.2.1 X.2.2.1 hin X.2.2.2.1 X.2.2.2.2.1.1 hH.1 q0 he hc k hk (X.2.2.1 _ hlk) (fun _ h => h) hv hdg kk
theorem tc_ast (X : tc_X own cc nLc g p c s m args) (hH : tc_H g A s.heap ws H locs) (q0 : Nat) {n : Nat} {f : Nat → Int32} (ha : ws[q0]? = some (a, .inl (g.2.2.2.1, n, .inl f))) (j : Nat) {i x : Int32} (hi : i = nI j) (hj : j < n) (hn : n < 1000) (hdg : decode cc pc = .ok (.iastore, 1))
    (kk : ∀ (H1 : Heap) (locs1 : List Loc), tc_H g A s.heap (ws.set q0 (a, .inl (g.2.2.2.1, n, .inl (upd f j x)))) H1 locs1 → W p l e R s m args below meth c H1 locs1 cells slots Q (F0 m (pc + 1) ls rest)) : W p l e R s m args below meth c H locs cells slots Q (F0 m pc ls (.int x :: .int i :: .ref a :: rest)) := by
  subst hi
  refine va_iast X.1 X.2.1 X.2.2.2.2.1.1 hH.1 hH.2.1 hH.2.2 q0 0 ha rfl (vp_in_nI hj (by omega)) hdg (fun H1 locs1 h1 h2 h3 => ?_)
  rw [nI_clamp (by omega)] at h1 h2
  exact kk H1 locs1 ⟨h1, h2, h3⟩
theorem tc_rv (X : tc_X own cc nLc g p c s m args) (hr : meth.sig.returnType = none) (hlk : meth.locks = false) (hH : tc_H g A s.heap ws H locs) {h0 : Nat} (hp : post h0 ws) (hdg : decode cc pc = .ok (.return_, 1)) : W p l e R s m args below meth c H locs mc ms (MQ below (va_Qv (fun w : va_W => post h0 w) (tc_B g A) A) args s mc ms A) (F0 m pc ls []) :=
  W.vret X.1 X.2.1 hr (fun t ht _ => ⟨⟨ws, rfl, hp, by rw [ht]; exact hH.1, hH.2.1⟩, hH.2.2.F ht⟩) hH.2.2.2.2 hdg hlk
/-- a constructor is called on a new object, which is the k0-th cell of the world; the rest wr stays -/
theorem tc_call (X : tc_X own cc nLc g p c s m args) (hA : ∀ q, s.heap.size ≤ q → A q) (hH : tc_H g A s.heap ws H locs) (hls : ls.size = nLc) (hM : tc_M l y cy nL nf mc ms g e0 post) (hY : tb_Y y cy nL none 0) (hnm : y.name = "<init>") (hV : Cond.instanceMethod y ∈ wsL_law) {idx : Nat} (hlk : Cond.methodLink own idx y ∈ wsL_law) (k0 : Nat) (he : ws[k0]? = some (a, e0)) (wr : va_W) (isR : List Nat) (hR' : isR.map (fun i => ws[i]?) = wr.map some) (hnd : va_nd isR = true) (hdis : ∀ i ∈ isR, i ∉ [k0]) (hcat : (rest.map fun v => v.category).sum ≤ 8) (hR : nf + 1 ≤ R.frames ∧ 8 + (nL + 11) + 36 * nf ≤ R.locals) (hcs : cells + mc ≤ R.cells ∧ slots + ms ≤ R.slots) (hdg : decode cc pc = .ok (.invokespecial idx, 3))
    (kk : ∀ (w1 : va_W) (H1 : Heap) (locs1 : List Loc), post a w1 → tc_H g A s.heap (wr ++ w1) H1 locs1 → W p l e R s m args below meth c H1 locs1 (cells + mc) (slots + ms) Q (F0 m (pc + 3) ls rest)) : W p l e R s m args below meth c H locs cells slots Q (F0 m pc ls (.ref a :: rest)) := by
  have hC : ([k0]).map (fun i => ws[i]?) = [(a, e0)].map some := by simp [he]
  have hPc : va_P (g.1, g.2.1) vwCl [(a, e0)] H := hH.1.sub [k0] (by simp [he])
  have hDc := hH.2.1.sub (ws' := [(a, e0)]) [k0] rfl hC
  have hFc := va_free (wc := [(a, e0)]) hH.2.1 hH.2.2 hA [k0] hC
  have hwords : ∀ w ∈ Cond.code y cy nL none :: wsL_law, ∀ (a' : Array Value) (U : State), s.WarmedH U.vm → w.before a' U = true := by
    intro w hw a' U hW
    have hw' : w ∈ wsL_law := by
      rcases List.mem_cons.mp hw with rfl | h
      · exact hY.1
      · exact h
    exact word_at hW (tb_good hw') (X.2.2.1 w hw')
  have CB : CallB R s args own idx y cy nL none (Cond.code y cy nL none :: wsL_law) (tc_rm nf mc ms) mc ms 0 := ⟨rfl, rfl, hR.1, hR.2, hwords, List.mem_cons_self, X.2.2.1 _ hY.1, X.2.2.1 _ hY.2.1, hY.2.2.1, tb_sigN hY.2.2.2, X.2.2.1 _ hlk⟩
  refine va_callv (va_runI (As := []) (rest := rest) ⟨X.1, X.2.1, X.2.2.2.2.2, X.2.2.2.1, X.2.2.1⟩ (hM a H.size) ⟨CB, hnm, X.2.2.1 _ hV⟩ ⟨tc_blind g _ _ _, fun U hU hW => ⟨rfl, by rw [hU], by rw [hU]; exact hPc, X.2.2.2.2.1.warm hW, hDc.weaken (fun _ _ _ _ => trivial)⟩⟩ rfl rfl hls rfl (lv_room hcat) hdg hcs) hH.2.2 (fun q _ h => hFc q h) hFc (fun u t H1 locs1 ht hvm hw hB _ hk1 hS => ?_)
  obtain ⟨hP1, hD1⟩ := hB
  rw [ht] at hP1
  obtain ⟨hP, hD⟩ := va_join hH.1 hH.2.1 [k0] isR hC hR' hnd hdis hk1 hFc hP1 hD1
  exact kk u H1 locs1 hw ⟨hP, hD, hS⟩
end TCROWS
