/-! A SMALL WORLD of one area alone (the cells 2, 3, 4): what a constructor calls while the rest is not there yet -/
def ts_in (k : Nat) : Prop := 2 ≤ k ∧ k < 5
def ts_W (g : tb_G) (z : tb_M) : va_W := [(tb_ad g 2, tb_c g 2 (z 2)), (tb_ad g 3, tb_c g 3 (z 3)), (tb_ad g 4, tb_c g 4 (z 4))]
theorem ts_in_e {k : Nat} (h : ts_in k) : k = 2 ∨ k = 3 ∨ k = 4 := by
  obtain ⟨a, b⟩ := h
  omega
theorem ts_Wg (g : tb_G) (z : tb_M) {k : Nat} (hk : ts_in k) : (ts_W g z)[k - 2]? = some (tb_ad g k, tb_c g k (z k)) := by
  rcases ts_in_e hk with rfl | rfl | rfl <;> rfl
theorem ts_Ws (g : tb_G) (z z' : tb_M) {k : Nat} {e : va_E} (hk : ts_in k) (he : tb_c g k (z' k) = e) (ho : ∀ j, j ≠ k → z' j = z j) : (ts_W g z).set (k - 2) (tb_ad g k, e) = ts_W g z' := by
  rcases ts_in_e hk with rfl | rfl | rfl
  · unfold ts_W
    rw [he, ho 3 (by decide), ho 4 (by decide)]
    rfl
  · unfold ts_W
    rw [he, ho 2 (by decide), ho 4 (by decide)]
    rfl
  · unfold ts_W
    rw [he, ho 2 (by decide), ho 3 (by decide)]
    rfl
theorem ts_Wi {g : tb_G} {z : tb_M} {k : Nat} {q : Nat × va_E} (h : (ts_W g z)[k]? = some q) : ts_in (k + 2) ∧ q = (tb_ad g (k + 2), tb_c g (k + 2) (z (k + 2))) := by
  have hl : k < 3 := (List.getElem?_eq_some_iff.mp h).1
  have hk : ts_in (k + 2) := ⟨by omega, by omega⟩
  have e := ts_Wg g z hk
  rw [show k + 2 - 2 = k by omega, h] at e
  exact ⟨hk, Option.some.inj e⟩
def ts_inj (g : tb_G) : Prop := ∀ i j : Nat, ts_in i → ts_in j → tb_ad g i = tb_ad g j → i = j
def ts_A (g : tb_G) : Nat → Prop := fun q => ∃ k, ts_in k ∧ q = tb_ad g k
theorem ts_Dj {g : tb_G} (hi : ts_inj g) (z : tb_M) : va_D (ts_A g) (ts_W g z) := by
  refine ⟨fun i j p q hp hq hpq => ?_, fun k q hq => ?_⟩
  · obtain ⟨h1, rfl⟩ := ts_Wi hp
    obtain ⟨h2, rfl⟩ := ts_Wi hq
    have := hi _ _ h1 h2 hpq
    omega
  · obtain ⟨h1, rfl⟩ := ts_Wi hq
    exact ⟨_, h1, rfl⟩
def ts_isA (a : Nat) : Prop := a = 2
def ts_isI (k n : Nat) : Prop := ts_in k ∧ ∀ (g : tb_G) (f : Nat → Int32), tb_c g k f = tb_ai g n f
theorem ts_Ac {a : Nat} (h : ts_isA a) : ts_in a ∧ ∀ (g : tb_G) (f : Nat → Int32), tb_c g a f = tb_area g a f := by
  rw [show a = 2 from h]
  exact ⟨⟨by decide, by decide⟩, fun _ _ => rfl⟩
theorem ts_iw {a : Nat} (h : ts_isA a) : ts_isI (a + 1) 32 := by
  rw [show a = 2 from h]
  exact ⟨⟨by decide, by decide⟩, fun _ _ => rfl⟩
def ts_isO (b : Nat) (C : String) : Prop := ts_in b ∧ ∃ (ci : Nat) (T : u_T) (N : Nat), vwCl[ci]? = some (C, T, N) ∧ ∀ (g : tb_G) (f : Nat → Int32), ∃ fs, tb_c g b f = .inr (ci, fs)
theorem ts_oA {a : Nat} (h : ts_isA a) : ts_isO a RX0 := ⟨(ts_Ac h).1, 0, TX0, 8, rfl, fun g f => ⟨_, (ts_Ac h).2 g f⟩⟩
def ts_K (g : tb_G) (U : State) : Prop := va_K (g.1, g.2.1) vwCl [(g.2.2.2.1, .int), (g.2.2.2.2.1, .boolean), (g.2.2.2.2.2, .object RX1)] U ∧ ts_inj g ∧ tb_N U ∧ True
theorem tb_N.warm {s U : State} (hW : s.WarmedH U.vm) (h : tb_N s) : tb_N U := ⟨va_Nw.warmM hW h.1, va_Nw.warmM hW h.2.1, va_Nw.warmM hW h.2.2.1, va_Nw.warmM hW h.2.2.2⟩
theorem tb_N.same {s U : State} (hvm : s.vm = U.vm) (h : tb_N s) : tb_N U := ⟨va_Nw.same rfl hvm h.1, va_Nw.same rfl hvm h.2.1, va_Nw.same rfl hvm h.2.2.1, va_Nw.same rfl hvm h.2.2.2⟩
theorem ts_K.warm {g : tb_G} {s U : State} (hW : s.WarmedH U.vm) (h : ts_K g s) : ts_K g U := ⟨va_K.moved hW.alike h.1, h.2.1, h.2.2.1.warm hW, trivial⟩
theorem ts_K.same {g : tb_G} {s U : State} (hvm : s.vm = U.vm) (h : ts_K g s) : ts_K g U := ⟨va_K.moved (by rw [hvm]; exact Vm.Alike.refl _) h.1, h.2.1, h.2.2.1.same hvm, trivial⟩
def ts_H (g : tb_G) (H0 : Heap) (z : tb_M) (H : Heap) (locs : List Loc) : Prop := va_P (g.1, g.2.1) vwCl (ts_W g z) H ∧ va_S (ts_A g) H0 H locs
def ts_X (own : String) (cc : ByteArray) (nL : Nat) (g : tb_G) (p : Program) (c : Code) (s : State) (m : MethodId) (args : Array Value) : Prop :=
  p.tables.exec = Jvm.exec ∧ c.code = cc ∧ (∀ w ∈ wsL_law, w.before args s = true) ∧ s.vm.findClass own = some m.cls ∧ ts_K g s ∧ c.maxLocals = nL

def ts_Pr (g : tb_G) (z : tb_M) (U : State) : Prop := va_P (g.1, g.2.1) vwCl (ts_W g z) U.heap ∧ ts_K g U
def ts_B (g : tb_G) : tb_M → State → Prop := fun u t => va_P (g.1, g.2.1) vwCl (ts_W g u) t.heap
def ts_Mi (ret : FieldType) (l : Launch) (y : MethodName) (cy : ByteArray) (nL n : Nat) (g : tb_G) (z : tb_M) (As : List Value) (r : Int32) (z1 : tb_M) : Prop :=
  Met l y (Cond.code y cy nL (some ret) :: wsL_law) (tb_rm n) (va_Pc As (ts_Pr g z)) (va_Qi (fun a u => a = r ∧ u = z1) (ts_B g) (ts_A g)) 0 0 (ts_A g)
def ts_Mv (l : Launch) (y : MethodName) (cy : ByteArray) (nL n : Nat) (g : tb_G) (z : tb_M) (As : List Value) (z1 : tb_M) : Prop :=
  Met l y (Cond.code y cy nL none :: wsL_law) (tb_rm n) (va_Pc As (ts_Pr g z)) (va_Qv (fun u => u = z1) (ts_B g) (ts_A g)) 0 0 (ts_A g)
theorem ts_blind (g : tb_G) (z : tb_M) (As : List Value) : FrameBlind (va_Pc As (ts_Pr g z)) := fun a U gg mk h => ⟨h.1, h.2.1, h.2.2.same (s := U) (U := U.calling gg mk a) rfl⟩
section TSCALLS
variable {p : Program} {l : Launch} {e : Env} {R : Room} {s : State} {m : MethodId} {args : Array Value} {below : List Frame} {meth : Method} {c : Code} {H : Heap} {locs : List Loc} {cells slots : Nat} {Q : State → Prop}
variable {cc : ByteArray} {pc nLc : Nat} {ls : Array Slot} {rest st : List Value} {g : tb_G} {z z1 : tb_M} {own : String} {ret : FieldType} {y : MethodName} {cy : ByteArray} {nL nf n idx b k : Nat} {As : List Value} {r : Int32} {cls : String}
theorem ts_words (X : ts_X own cc nLc g p c s m args) {w0 : Cond} (h0 : w0 ∈ wsL_law) : ∀ w ∈ w0 :: wsL_law, ∀ (a' : Array Value) (U : State), s.WarmedH U.vm → w.before a' U = true := by
  intro w hw a' U hW
  have hw' : w ∈ wsL_law := by
    rcases List.mem_cons.mp hw with rfl | h
    · exact h0
    · exact h
  exact word_at hW (tb_good hw') (X.2.2.1 w hw')
theorem ts_CB {rt : Option FieldType} (X : ts_X own cc nLc g p c s m args) (hY : tb_Y y cy nL rt n) (hlk : Cond.methodLink own idx y ∈ wsL_law) (hR : nf + 1 ≤ R.frames ∧ 8 + (nL + 11) + 36 * nf ≤ R.locals) : CallB R s args own idx y cy nL rt (Cond.code y cy nL rt :: wsL_law) (tb_rm nf) 0 0 n :=
  ⟨rfl, rfl, hR.1, hR.2, ts_words X hY.1, List.mem_cons_self, X.2.2.1 _ hY.1, X.2.2.1 _ hY.2.1, hY.2.2.1, tb_sigN hY.2.2.2, X.2.2.1 _ hlk⟩
theorem ts_CN {rt : Option FieldType} {host : String} (X : ts_X own cc nLc g p c s m args) (hY : tb_Y y cy nL rt n) (hlk : va_Nw (.methodLinkNest own idx y host) s) (hR : nf + 1 ≤ R.frames ∧ 8 + (nL + 11) + 36 * nf ≤ R.locals) : va_CN R s args own idx y host cy nL rt (Cond.code y cy nL rt :: wsL_law) (tb_rm nf) 0 0 n :=
  ⟨⟨rfl, rfl, hR.1, hR.2, ts_words X hY.1, List.mem_cons_self⟩, X.2.2.1 _ hY.1, X.2.2.1 _ hY.2.1, hY.2.2.1, tb_sigN hY.2.2.2, va_Nw.use rfl hlk⟩
theorem ts_recv (X : ts_X own cc nLc g p c s m args) (hH : ts_H g s.heap z H locs) {C : String} (hO : ts_isO b C) : ∃ cellB : Cell, H[tb_ad g b]? = some cellB ∧ cellB.vm.isStatics = false ∧ s.vm.findClass C = some cellB.cls := by
  obtain ⟨hb, ci, T, N, hc, hf⟩ := hO
  obtain ⟨fs, hfs⟩ := hf g (z b)
  exact va_recv (q := (C, T, N)) X.2.2.2.2.1.1 hH.1 (q0 := b - 2) (ci := ci) (fs := fs) hc (by rw [ts_Wg g z hb, hfs])
theorem ts_pre (X : ts_X own cc nLc g p c s m args) (hH : ts_H g s.heap z H locs) : ∀ U : State, U.heap = H → s.WarmedH U.vm → va_Pc As (ts_Pr g z) As.toArray U := fun U hU hW => ⟨rfl, by rw [hU]; exact hH.1, X.2.2.2.2.1.warm hW⟩
theorem ts_cVi (X : ts_X own cc nLc g p c s m args) (hH : ts_H g s.heap z H locs) (hls : ls.size = nLc) (hM : ts_Mi ret l y cy nL nf g z (.ref (tb_ad g b) :: As) r z1) (hY : tb_Y y cy nL (some ret) n) (hV : Cond.instanceMethod y ∈ wsL_law ∧ Cond.selects y.cls y y ∈ wsL_law) (hlk : Cond.methodLink own idx y ∈ wsL_law) (hO : ts_isO b y.cls) (hn : As.length = n) (hst : st = As.reverse ++ .ref (tb_ad g b) :: rest) (hcat : (rest.map fun v => v.category).sum ≤ 8) (hR : nf + 1 ≤ R.frames ∧ 8 + (nL + 11) + 36 * nf ≤ R.locals) (hcs : cells ≤ R.cells ∧ slots ≤ R.slots) (hdg : decode cc pc = .ok (.invokevirtual idx, 3))
    (kk : ∀ (H1 : Heap) (locs1 : List Loc), ts_H g s.heap z1 H1 locs1 → W p l e R s m args below meth c H1 locs1 cells slots Q (F0 m (pc + 3) ls (.int r :: rest))) : W p l e R s m args below meth c H locs cells slots Q (F0 m pc ls st) := by
  refine va_calli (va_runV (As := As) (rest := rest) ⟨X.1, X.2.1, X.2.2.2.2.2, X.2.2.2.1, X.2.2.1⟩ hM ⟨ts_CB X hY hlk hR, X.2.2.1 _ hV.1, X.2.2.1 _ hV.2⟩ ⟨ts_blind g z _, ts_recv X hH hO, ts_pre X hH⟩ rfl hn hls hst (lv_room hcat) hdg ⟨hcs.1, hcs.2⟩) hH.2 (fun q _ h => h) (fun q h => h) (fun r1 u t H1 locs1 ht hvm hw hB _ _ hS => ?_)
  obtain ⟨rfl, rfl⟩ := hw
  exact kk H1 locs1 ⟨by rw [← ht]; exact hB, hS⟩
theorem ts_cVv (X : ts_X own cc nLc g p c s m args) (hH : ts_H g s.heap z H locs) (hls : ls.size = nLc) (hM : ts_Mv l y cy nL nf g z (.ref (tb_ad g b) :: As) z1) (hY : tb_Y y cy nL none n) (hV : Cond.instanceMethod y ∈ wsL_law ∧ Cond.selects y.cls y y ∈ wsL_law) (hlk : Cond.methodLink own idx y ∈ wsL_law) (hO : ts_isO b y.cls) (hn : As.length = n) (hst : st = As.reverse ++ .ref (tb_ad g b) :: rest) (hcat : (rest.map fun v => v.category).sum ≤ 8) (hR : nf + 1 ≤ R.frames ∧ 8 + (nL + 11) + 36 * nf ≤ R.locals) (hcs : cells ≤ R.cells ∧ slots ≤ R.slots) (hdg : decode cc pc = .ok (.invokevirtual idx, 3))
    (kk : ∀ (H1 : Heap) (locs1 : List Loc), ts_H g s.heap z1 H1 locs1 → W p l e R s m args below meth c H1 locs1 cells slots Q (F0 m (pc + 3) ls rest)) : W p l e R s m args below meth c H locs cells slots Q (F0 m pc ls st) := by
  refine va_callv (va_runV (As := As) (rest := rest) ⟨X.1, X.2.1, X.2.2.2.2.2, X.2.2.2.1, X.2.2.1⟩ hM ⟨ts_CB X hY hlk hR, X.2.2.1 _ hV.1, X.2.2.1 _ hV.2⟩ ⟨ts_blind g z _, ts_recv X hH hO, ts_pre X hH⟩ rfl hn hls hst (lv_room hcat) hdg ⟨hcs.1, hcs.2⟩) hH.2 (fun q _ h => h) (fun q h => h) (fun u t H1 locs1 ht hvm hw hB _ _ hS => ?_)
  subst hw
  exact kk H1 locs1 ⟨by rw [← ht]; exact hB, hS⟩
theorem ts_cNi {host : String} (X : ts_X own cc nLc g p c s m args) (hH : ts_H g s.heap z H locs) (hls : ls.size = nLc) (hM : ts_Mi ret l y cy nL nf g z As r z1) (hY : tb_Y y cy nL (some ret) n) (hV : Cond.static y ∈ wsL_law) (hlk : va_Nw (.methodLinkNest own idx y host) s) (hn : As.length = n) (hst : st = As.reverse ++ rest) (hcat : (rest.map fun v => v.category).sum ≤ 8) (hR : nf + 1 ≤ R.frames ∧ 8 + (nL + 11) + 36 * nf ≤ R.locals) (hcs : cells ≤ R.cells ∧ slots ≤ R.slots) (hdg : decode cc pc = .ok (.invokestatic idx, 3))
    (kk : ∀ (H1 : Heap) (locs1 : List Loc), ts_H g s.heap z1 H1 locs1 → W p l e R s m args below meth c H1 locs1 cells slots Q (F0 m (pc + 3) ls (.int r :: rest))) : W p l e R s m args below meth c H locs cells slots Q (F0 m pc ls st) := by
  refine va_calli (va_runSN (As := As) (rest := rest) ⟨X.1, X.2.1, X.2.2.2.2.2, X.2.2.2.1, X.2.2.1⟩ hM ⟨ts_CN X hY hlk hR, X.2.2.1 _ hV, trivial⟩ ⟨ts_blind g z _, ts_pre X hH⟩ rfl hn hls hst (lv_room hcat) hdg ⟨hcs.1, hcs.2⟩) hH.2 (fun q _ h => h) (fun q h => h) (fun r1 u t H1 locs1 ht hvm hw hB _ _ hS => ?_)
  obtain ⟨rfl, rfl⟩ := hw
  exact kk H1 locs1 ⟨by rw [← ht]; exact hB, hS⟩
theorem ts_goi (hy : plainName y.cls = true) (hown : y.cls = own) (hlen : (lg_sl As).length ≤ nL) (body : ∀ (p : Program) (e : Env) (s : State) (m : MethodId) (below : List Frame) (meth : Method) (c : Code) (ls : Array Slot), ts_X own cy nL g p c s m As.toArray → meth.sig.returnType = some ret → meth.locks = false → ts_H g s.heap z s.heap [] → lv_has ls nL (lv_args 0 As) → W p l e (tb_rm n) s m As.toArray below meth c s.heap [] 0 0 (MQ below (va_Qi (fun a u => a = r ∧ u = z1) (ts_B g) (ts_A g)) As.toArray s 0 0 (ts_A g)) (F0 m 0 ls [])) : ts_Mi ret l y cy nL n g z As r z1 := by
  refine Met.ofW (cc := cy) (maxL := nL) (ret := some ret) hy rfl ?_
  intro p e s m args below meth c s₁ B hml hv
  obtain ⟨rfl, hP, hK⟩ := hv
  have hts := atoms_spec (ws := Cond.code y cy nL (some ret) :: wsL_law) B.pre
  rw [lg_entry_eq]
  exact body p e s m below meth c _ ⟨B.exec, B.bytes, fun w hw => hts w (List.mem_cons_of_mem _ hw), by rw [← hown]; exact findClass_of_methodNamed B.named, hK, hml⟩ B.returns B.notSynchronized ⟨hP, va_S.rf⟩ (lv_entry As (n := nL) hlen)
theorem ts_gov (hy : plainName y.cls = true) (hown : y.cls = own) (hlen : (lg_sl As).length ≤ nL) (body : ∀ (p : Program) (e : Env) (s : State) (m : MethodId) (below : List Frame) (meth : Method) (c : Code) (ls : Array Slot), ts_X own cy nL g p c s m As.toArray → meth.sig.returnType = none → meth.locks = false → ts_H g s.heap z s.heap [] → lv_has ls nL (lv_args 0 As) → W p l e (tb_rm n) s m As.toArray below meth c s.heap [] 0 0 (MQ below (va_Qv (fun u => u = z1) (ts_B g) (ts_A g)) As.toArray s 0 0 (ts_A g)) (F0 m 0 ls [])) : ts_Mv l y cy nL n g z As z1 := by
  refine Met.ofW (cc := cy) (maxL := nL) (ret := none) hy rfl ?_
  intro p e s m args below meth c s₁ B hml hv
  obtain ⟨rfl, hP, hK⟩ := hv
  have hts := atoms_spec (ws := Cond.code y cy nL none :: wsL_law) B.pre
  rw [lg_entry_eq]
  exact body p e s m below meth c _ ⟨B.exec, B.bytes, fun w hw => hts w (List.mem_cons_of_mem _ hw), by rw [← hown]; exact findClass_of_methodNamed B.named, hK, hml⟩ B.returns B.notSynchronized ⟨hP, va_S.rf⟩ (lv_entry As (n := nL) hlen)
theorem ts_ri (X : ts_X own cc nLc g p c s m args) (hr : meth.sig.returnType = some .int) (hlk : meth.locks = false) (hH : ts_H g s.heap z H locs) {v : Int32} (hv : v = r ∧ z = z1) (hdg : decode cc pc = .ok (.ireturn, 1)) : W p l e R s m args below meth c H locs 0 0 (MQ below (va_Qi (fun a u => a = r ∧ u = z1) (ts_B g) (ts_A g)) args s 0 0 (ts_A g)) (F0 m pc ls [.int v]) :=
  W.iret (v := v) X.1 X.2.1 hr (fun t ht _ => ⟨⟨v, z, rfl, hv, by show va_P _ _ _ t.heap; rw [ht]; exact hH.1⟩, hH.2.F ht⟩) hH.2.2.2 hdg hlk
theorem ts_rv (X : ts_X own cc nLc g p c s m args) (hr : meth.sig.returnType = none) (hlk : meth.locks = false) (hH : ts_H g s.heap z H locs) (hv : z = z1) (hdg : decode cc pc = .ok (.return_, 1)) : W p l e R s m args below meth c H locs 0 0 (MQ below (va_Qv (fun u => u = z1) (ts_B g) (ts_A g)) args s 0 0 (ts_A g)) (F0 m pc ls []) :=
  W.vret X.1 X.2.1 hr (fun t ht _ => ⟨⟨z, rfl, hv, by show va_P _ _ _ t.heap; rw [ht]; exact hH.1⟩, hH.2.F ht⟩) hH.2.2.2 hdg hlk
theorem ts_rz (X : ts_X own cc nLc g p c s m args) (hr : meth.sig.returnType = some .boolean) (hlk : meth.locks = false) (hH : ts_H g s.heap z H locs) {q q' : Prop} [Decidable q] [Decidable q'] (hv : (q ↔ q') ∧ z = z1) (hdg : decode cc pc = .ok (.ireturn, 1)) : W p l e R s m args below meth c H locs 0 0 (MQ below (va_Qi (fun a u => a = tb_b q' ∧ u = z1) (ts_B g) (ts_A g)) args s 0 0 (ts_A g)) (F0 m pc ls [.int (tb_b q)]) :=
  W.zret (v := tb_b q) (ty := .boolean) X.1 X.2.1 hr tb_b_n (fun t ht _ => ⟨⟨tb_b q, z, rfl, ⟨tb_b_c hv.1, hv.2⟩, by show va_P _ _ _ t.heap; rw [ht]; exact hH.1⟩, hH.2.F ht⟩) hH.2.2.2 hdg hlk
end TSCALLS
section TSROWS
variable {p : Program} {l : Launch} {e : Env} {R : Room} {s : State} {m : MethodId} {args : Array Value} {below : List Frame} {meth : Method} {c : Code} {H : Heap} {locs : List Loc} {cells slots : Nat} {Q : State → Prop}
variable {cc : ByteArray} {pc nLc : Nat} {ls : Array Slot} {rest : List Value} {g : tb_G} {H0 : Heap} {z : tb_M} {own : String}
theorem ts_get (X : ts_X own cc nLc g p c s m args) (hH : ts_H g H0 z H locs) {k ci N : Nat} {C : String} {T : u_T} {fs : List Value} (hk : ts_in k) (hc : tb_c g k (z k) = .inr (ci, fs)) (hci : vwCl[ci]? = some (C, T, N)) (hin : ∀ w ∈ u_ws C T N, w ∈ wsL_law) (j : Nat) (hj : j < N) {idx : Nat} (hlk : Cond.fieldLink own idx (T j).1 (T j).2.1 (T j).2.2.1 ∈ wsL_law) {v : Value} (hv : fs[j]? = some v) (hdg : decode cc pc = .ok (.getfield idx, 3))
    (kk : W p l e R s m args below meth c H locs cells slots Q (F0 m (pc + 3) ls (v :: rest))) : W p l e R s m args below meth c H locs cells slots Q (F0 m pc ls (.ref (tb_ad g k) :: rest)) :=
  va_get X.1 X.2.1 X.2.2.1 hin X.2.2.2.1 X.2.2.2.2.1.1 hH.1 (k - 2) (by rw [ts_Wg g z hk, hc]) hci j hj (X.2.2.1 _ hlk) (fun _ h => h) hv hdg kk
theorem ts_put (X : ts_X own cc nLc g p c s m args) (hH : ts_H g H0 z H locs) {k ci N : Nat} {C : String} {T : u_T} {fs : List Value} (hk : ts_in k) (hc : tb_c g k (z k) = .inr (ci, fs)) (hci : vwCl[ci]? = some (C, T, N)) (hin : ∀ w ∈ u_ws C T N, w ∈ wsL_law) (ty0 : Nat → FieldType) (hty : ∀ k, k < N → parseFieldDescriptor (T k).2.2.1 = some (ty0 k)) (hnm : ∀ a, a < N → ∀ b, b < N → a ≠ b → (T a).2.1 ≠ (T b).2.1) (j : Nat) (hj : j < N) {idx : Nat} (hlk : Cond.fieldLink own idx (T j).1 (T j).2.1 (T j).2.2.1 ∈ wsL_law) (hfin : (T j).2.2.2 = false) (hd : parseFieldDescriptor (T j).2.2.1 = some .int) {x : Int32} (hl : j < fs.length) (hc' : tb_c g k (tb_up z k j x k) = .inr (ci, fs.set j (.int x))) (hdg : decode cc pc = .ok (.putfield idx, 3))
    (kk : ∀ (H1 : Heap) (locs1 : List Loc), ts_H g H0 (tb_up z k j x) H1 locs1 → W p l e R s m args below meth c H1 locs1 cells slots Q (F0 m (pc + 3) ls rest)) : W p l e R s m args below meth c H locs cells slots Q (F0 m pc ls (.int x :: .ref (tb_ad g k) :: rest)) :=
  va_put X.1 X.2.1 X.2.2.1 hin ty0 hty hnm X.2.2.2.1 X.2.2.2.2.1.1 hH.1 (ts_Dj X.2.2.2.2.1.2.1 z) hH.2 (k - 2) (by rw [ts_Wg g z hk, hc]) hci j hj (X.2.2.1 _ hlk) (fun _ h => h) hfin hd rfl rfl hl hdg
    (fun H1 locs1 h1 _ h3 => kk H1 locs1 ⟨by rw [← ts_Ws g z (tb_up z k j x) hk hc' (fun a ha => tb_up_k z j x ha)]; exact h1, h3⟩)
theorem ts_putA (X : ts_X own cc nLc g p c s m args) (hH : ts_H g H0 z H locs) {a : Nat} (ha : ts_isA a) (j : Nat) (hj : j < 6) {idx : Nat} (hlk : Cond.fieldLink own idx (TX0 j).1 (TX0 j).2.1 (TX0 j).2.2.1 ∈ wsL_law) {x : Int32} (hdg : decode cc pc = .ok (.putfield idx, 3))
    (kk : ∀ (H1 : Heap) (locs1 : List Loc), ts_H g H0 (tb_up z a j x) H1 locs1 → W p l e R s m args below meth c H1 locs1 cells slots Q (F0 m (pc + 3) ls rest)) : W p l e R s m args below meth c H locs cells slots Q (F0 m pc ls (.int x :: .ref (tb_ad g a) :: rest)) := by
  refine ts_put X hH (ts_Ac ha).1 ((ts_Ac ha).2 g _) rfl inlX0 tyX0 tyX0_ok nmX0 j (by omega) hlk ?_ ?_ ?_ ?_ hdg kk
  · rcases (show j = 0 ∨ j = 1 ∨ j = 2 ∨ j = 3 ∨ j = 4 ∨ j = 5 by omega) with rfl | rfl | rfl | rfl | rfl | rfl <;> rfl
  · rcases (show j = 0 ∨ j = 1 ∨ j = 2 ∨ j = 3 ∨ j = 4 ∨ j = 5 by omega) with rfl | rfl | rfl | rfl | rfl | rfl <;> decide +kernel
  · show j < 8
    omega
  · rw [(ts_Ac ha).2, tb_up_row]
    rcases (show j = 0 ∨ j = 1 ∨ j = 2 ∨ j = 3 ∨ j = 4 ∨ j = 5 by omega) with rfl | rfl | rfl | rfl | rfl | rfl <;> rfl
theorem ts_ald (X : ts_X own cc nLc g p c s m args) (hH : ts_H g H0 z H locs) {k n : Nat} (hI : ts_isI k n) (j : Nat) {i : Int32} (hi : i = nI j) (hj : j < n) (hn : n < 1000) (hdg : decode cc pc = .ok (.iaload, 1))
    (kk : W p l e R s m args below meth c H locs cells slots Q (F0 m (pc + 1) ls (.int (z k j) :: rest))) : W p l e R s m args below meth c H locs cells slots Q (F0 m pc ls (.int i :: .ref (tb_ad g k) :: rest)) := by
  subst hi
  refine va_iald X.1 X.2.1 X.2.2.2.2.1.1 hH.1 (k - 2) 0 (cA := g.2.2.2.1) (n := n) (f := z k) (by rw [ts_Wg g z hI.1, hI.2]; rfl) rfl (vp_in_nI hj (by omega)) hdg ?_
  rw [nI_clamp (by omega)]
  exact kk
theorem ts_ast (X : ts_X own cc nLc g p c s m args) (hH : ts_H g H0 z H locs) {k n : Nat} (hI : ts_isI k n) (j : Nat) {i x : Int32} (hi : i = nI j) (hj : j < n) (hn : n < 1000) (hdg : decode cc pc = .ok (.iastore, 1))
    (kk : ∀ (H1 : Heap) (locs1 : List Loc), ts_H g H0 (tb_up z k j x) H1 locs1 → W p l e R s m args below meth c H1 locs1 cells slots Q (F0 m (pc + 1) ls rest)) : W p l e R s m args below meth c H locs cells slots Q (F0 m pc ls (.int x :: .int i :: .ref (tb_ad g k) :: rest)) := by
  subst hi
  refine va_iast X.1 X.2.1 X.2.2.2.2.1.1 hH.1 (ts_Dj X.2.2.2.2.1.2.1 z) hH.2 (k - 2) 0 (cA := g.2.2.2.1) (n := n) (f := z k) (by rw [ts_Wg g z hI.1, hI.2]; rfl) rfl (vp_in_nI hj (by omega)) hdg (fun H1 locs1 h1 _ h3 => kk H1 locs1 ⟨?_, h3⟩)
  rw [← ts_Ws g z (tb_up z k j x) hI.1 (e := .inl (g.2.2.2.1, n, .inl (upd (z k) j x))) (by rw [hI.2, tb_up_row]; rfl) (fun a ha => tb_up_k z j x ha)]
  rw [nI_clamp (by omega)] at h1
  exact h1
theorem ts_iaddN (X : ts_X own cc nLc g p c s m args) {a b : Nat} (hdg : decode cc pc = .ok (.iadd, 1)) (kk : W p l e R s m args below meth c H locs cells slots Q (F0 m (pc + 1) ls (.int (nI (a + b)) :: rest))) : W p l e R s m args below meth c H locs cells slots Q (F0 m pc ls (.int (nI b) :: .int (nI a) :: rest)) := by
  refine lv_iadd X.1 X.2.1 hdg ?_
  rw [nI_add]
  exact kk
end TSROWS
section TSBR
variable {p : Program} {l : Launch} {e : Env} {R : Room} {s : State} {m : MethodId} {args : Array Value} {below : List Frame} {meth : Method} {c : Code} {H : Heap} {locs : List Loc} {cells slots : Nat} {Q : State → Prop}
variable {cc : ByteArray} {pc nLc tgt : Nat} {ls : Array Slot} {rest : List Value} {g : tb_G} {own : String} {off : Int} {a b : Nat}
theorem ts_jbeq {q : Prop} [Decidable q] (X : ts_X own cc nLc g p c s m args) (hdg : decode cc pc = .ok (.ifCond .eq off, 3)) (ht : (pc : Int) + off = (tgt : Int)) (kt : ¬ q → W p l e R s m args below meth c H locs cells slots Q (F0 m tgt ls rest)) (kf : q → W p l e R s m args below meth c H locs cells slots Q (F0 m (pc + 3) ls rest)) : W p l e R s m args below meth c H locs cells slots Q (F0 m pc ls (.int (tb_b q) :: rest)) :=
  lv_if_eq X.1 X.2.1 hdg ht (fun h => kt (tb_b_0.mp h)) (fun h => kf (Decidable.byContradiction fun n => h (tb_b_0.mpr n)))
theorem ts_nge (X : ts_X own cc nLc g p c s m args) (ha : a < 2 ^ 31) (hb : b < 2 ^ 31) (hdg : decode cc pc = .ok (.if_icmp .ge off, 3)) (ht : (pc : Int) + off = (tgt : Int)) (kt : b ≤ a → W p l e R s m args below meth c H locs cells slots Q (F0 m tgt ls rest)) (kf : ¬ b ≤ a → W p l e R s m args below meth c H locs cells slots Q (F0 m (pc + 3) ls rest)) : W p l e R s m args below meth c H locs cells slots Q (F0 m pc ls (.int (nI b) :: .int (nI a) :: rest)) :=
  lv_icmp_ge X.1 X.2.1 hdg ht (fun h => kt ((nI_leI hb ha).mp h)) (fun h => kf (fun n => h ((nI_leI hb ha).mpr n)))
end TSBR
set_option maxHeartbeats 1000000 in
set_option maxRecDepth 100000 in
theorem cs_X5_isWithin (l : Launch) (g : tb_G) (z : tb_M) (x : Int32) (lo : Int32) (hi : Int32) : ts_Mi (.boolean) l yX5_isWithin cX5_isWithin 3 0 g z [.int x, .int lo, .int hi] (tb_b (¬ (x < lo) ∧ (¬ (hi < x)))) (z) := by
  refine ts_goi (own := RX5) (by decide +kernel) rfl (Nat.le_of_ble_eq_true rfl) ?_
  intro p e s m below meth c ls X hr hlk hH hl
  have hl : lv_has ls 3 [(0, .int (x)), (1, .int (lo)), (2, .int (hi))] := hl
  refine lv_iload_n X.1 X.2.1 dX5_isWithin_0 rfl (lv_at hl 0 rfl) ?_
  refine lv_iload_n X.1 X.2.1 dX5_isWithin_1 rfl (lv_at hl 1 rfl) ?_
  have J_1 : ∀ (H : Heap) (locs : List Loc) (ls : Array Slot) (vq1 : Int32), vq1 = (tb_b (¬ (x < lo) ∧ (¬ (hi < x)))) → ts_H g s.heap z H locs → lv_has ls 3 [(0, .int (x)), (1, .int (lo)), (2, .int (hi))] → W p l e (tb_rm 0) s m ([.int x, .int lo, .int hi] : List Value).toArray below meth c H locs 0 0 (MQ below (va_Qi (fun r9 u9 => r9 = tb_b (¬ (x < lo) ∧ (¬ (hi < x))) ∧ u9 = z) (ts_B g) (ts_A g)) ([.int x, .int lo, .int hi] : List Value).toArray s 0 0 (ts_A g)) (F0 m 15 ls [.int vq1]) := by
    intro H locs ls vq1 evq1 hH hl
    subst evq1
    exact ts_rz X hr hlk hH ⟨(Iff.rfl).symm, rfl⟩ dX5_isWithin_15
  refine lv_icmp_lt (tgt := 14) X.1 X.2.1 dX5_isWithin_2 (by decide) (fun c_1 => ?_) (fun c_1 => ?_)
  · refine lv_iconst (v := nI (0)) X.1 X.2.1 dX5_isWithin_14 (by decide +kernel) ?_
    exact J_1 _ _ _ _ (tb_b_f (fun h => h.1 c_1)).symm hH (lv_sub hl [0, 1, 2] rfl)
  · refine lv_iload_n X.1 X.2.1 dX5_isWithin_5 rfl (lv_at hl 0 rfl) ?_
    refine lv_iload_n X.1 X.2.1 dX5_isWithin_6 rfl (lv_at hl 2 rfl) ?_
    refine lv_icmp_gt (tgt := 14) X.1 X.2.1 dX5_isWithin_7 (by decide) (fun c_2 => ?_) (fun c_2 => ?_)
    · refine lv_iconst (v := nI (0)) X.1 X.2.1 dX5_isWithin_14 (by decide +kernel) ?_
      exact J_1 _ _ _ _ (tb_b_f (fun h => (fun h => h c_2) h.2)).symm hH (lv_sub hl [0, 1, 2] rfl)
    · refine lv_iconst (v := nI (1)) X.1 X.2.1 dX5_isWithin_10 (by decide +kernel) ?_
      refine lv_goto (tgt := 15) X.1 X.2.1 dX5_isWithin_11 (by decide) ?_
      exact J_1 _ _ _ _ (tb_b_t ⟨c_1, c_2⟩).symm hH (lv_sub hl [0, 1, 2] rfl)
set_option maxHeartbeats 1000000 in
set_option maxRecDepth 100000 in
theorem cs_X5_sumWith (l : Launch) (g : tb_G) (z : tb_M) (x : Int32) (y : Int32) : ts_Mi (.int) l yX5_sumWith cX5_sumWith 2 0 g z [.int x, .int y] (tb_sw x y) (z) := by
  refine ts_goi (own := RX5) (by decide +kernel) rfl (Nat.le_of_ble_eq_true rfl) ?_
  intro p e s m below meth c ls X hr hlk hH hl
  have hl : lv_has ls 2 [(0, .int (x)), (1, .int (y))] := hl
  refine lv_iconst (v := nI (3)) X.1 X.2.1 dX5_sumWith_0 (by decide +kernel) ?_
  refine lv_iload_n X.1 X.2.1 dX5_sumWith_1 rfl (lv_at hl 0 rfl) ?_
  refine lv_imul X.1 X.2.1 dX5_sumWith_2 ?_
  refine lv_iload_n X.1 X.2.1 dX5_sumWith_3 rfl (lv_at hl 1 rfl) ?_
  refine lv_iadd X.1 X.2.1 dX5_sumWith_4 ?_
  refine lv_sipush (v := nI (251)) X.1 X.2.1 dX5_sumWith_5 (by decide +kernel) ?_
  refine lv_irem X.1 X.2.1 dX5_sumWith_8 (by decide +kernel) ?_
  exact ts_ri X hr hlk hH ⟨rfl, rfl⟩ dX5_sumWith_9
set_option maxHeartbeats 1000000 in
set_option maxRecDepth 100000 in
theorem cs_X0_expectImage (l : Launch) (g : tb_G) (z : tb_M) (a : Nat) (ha : ts_isA a) (x : Int32) (y : Int32) (w : Int32) : ts_Mv l yX0_expectImage cX0_expectImage 4 0 g z [.ref (tb_ad g a), .int x, .int y, .int w] (sz_X0_expectImage z a x y w) := by
  refine ts_gov (own := RX0) (by decide +kernel) rfl (Nat.le_of_ble_eq_true rfl) ?_
  intro p e s m below meth c ls X hr hlk hH hl
  have hl : lv_has ls 4 [(0, .ref (tb_ad g (a))), (1, .int (x)), (2, .int (y)), (3, .int (w))] := hl
  refine lv_aload_n X.1 X.2.1 dX0_expectImage_0 rfl (lv_at hl 0 rfl) ?_
  refine lv_iconst (v := nI (1)) X.1 X.2.1 dX0_expectImage_1 (by decide +kernel) ?_
  refine ts_putA X hH ha 0 (by decide) wm_50 dX0_expectImage_2 (fun H locs hH => ?_)
  refine lv_aload_n X.1 X.2.1 dX0_expectImage_5 rfl (lv_at hl 0 rfl) ?_
  refine lv_iload_n X.1 X.2.1 dX0_expectImage_6 rfl (lv_at hl 1 rfl) ?_
  refine ts_putA X hH ha 1 (by decide) wm_68 dX0_expectImage_7 (fun H locs hH => ?_)
  refine lv_aload_n X.1 X.2.1 dX0_expectImage_10 rfl (lv_at hl 0 rfl) ?_
  refine lv_iload_n X.1 X.2.1 dX0_expectImage_11 rfl (lv_at hl 2 rfl) ?_
  refine ts_putA X hH ha 2 (by decide) wm_69 dX0_expectImage_12 (fun H locs hH => ?_)
  refine lv_aload_n X.1 X.2.1 dX0_expectImage_15 rfl (lv_at hl 0 rfl) ?_
  refine lv_iload_n X.1 X.2.1 dX0_expectImage_16 rfl (lv_at hl 3 rfl) ?_
  refine ts_putA X hH ha 3 (by decide) wm_63 dX0_expectImage_17 (fun H locs hH => ?_)
  refine lv_aload_n X.1 X.2.1 dX0_expectImage_20 rfl (lv_at hl 0 rfl) ?_
  refine lv_iconst (v := nI (0)) X.1 X.2.1 dX0_expectImage_21 (by decide +kernel) ?_
  refine ts_putA X hH ha 4 (by decide) wm_70 dX0_expectImage_22 (fun H locs hH => ?_)
  refine lv_aload_n X.1 X.2.1 dX0_expectImage_25 rfl (lv_at hl 0 rfl) ?_
  refine lv_iconst (v := nI (0)) X.1 X.2.1 dX0_expectImage_26 (by decide +kernel) ?_
  refine ts_putA X hH ha 5 (by decide) wm_71 dX0_expectImage_27 (fun H locs hH => ?_)
  exact ts_rv X hr hlk hH (by rw [sz_X0_expectImage]) dX0_expectImage_30
set_option maxHeartbeats 1000000 in
set_option maxRecDepth 100000 in
theorem cs_X0_addWord (l : Launch) (g : tb_G) (z : tb_M) (a : Nat) (ha : ts_isA a) (w : Int32) (n : Nat) (hn : z a 5 = nI n) (hn2 : n < 32) : ts_Mv l yX0_addWord cX0_addWord 2 1 g z [.ref (tb_ad g a), .int w] (tb_up (tb_up z (a + 1) n w) a 5 (nI (n + 1))) := by
  refine ts_gov (own := RX0) (by decide +kernel) rfl (Nat.le_of_ble_eq_true rfl) ?_
  intro p e s m below meth c ls X hr hlk hH hl
  have hl : lv_has ls 2 [(0, .ref (tb_ad g (a))), (1, .int (w))] := hl
  refine lv_aload_n X.1 X.2.1 dX0_addWord_0 rfl (lv_at hl 0 rfl) ?_
  refine ts_get X hH (ts_Ac ha).1 ((ts_Ac ha).2 _ _) rfl inlX0 5 (by decide) wm_71 (v := .int (z a 5)) rfl dX0_addWord_1 ?_
  refine lv_iconst (v := nI (0)) X.1 X.2.1 dX0_addWord_4 (by decide +kernel) ?_
  refine lv_bipush (v := nI (31)) X.1 X.2.1 dX0_addWord_5 (by decide +kernel) ?_
  refine ts_cNi X hH hl.1 (cs_X5_isWithin l g z (z a 5) (nI (0)) (nI (31))) ky_X5_isWithin.1 ky_X5_isWithin.2 X.2.2.2.2.1.2.2.1.1 rfl rfl (Nat.le_of_ble_eq_true rfl) ⟨by decide, by decide⟩ ⟨by decide, by decide⟩ dX0_addWord_7 (fun H locs hH => ?_)
  refine ts_jbeq (tgt := 33) X dX0_addWord_10 (by decide) (fun c => (c ⟨by rw [hn]; exact nI_nlt (by omega) (by omega), by rw [hn]; exact nI_nlt (by omega) (by omega)⟩ : False).elim) (fun _ => ?_)
  refine lv_aload_n X.1 X.2.1 dX0_addWord_13 rfl (lv_at hl 0 rfl) ?_
  refine ts_get X hH (ts_Ac ha).1 ((ts_Ac ha).2 _ _) rfl inlX0 6 (by decide) wm_51 (v := .ref (tb_ad g (a + 1))) rfl dX0_addWord_14 ?_
  refine lv_aload_n X.1 X.2.1 dX0_addWord_17 rfl (lv_at hl 0 rfl) ?_
  refine ts_get X hH (ts_Ac ha).1 ((ts_Ac ha).2 _ _) rfl inlX0 5 (by decide) wm_71 (v := .int (z a 5)) rfl dX0_addWord_18 ?_
  refine lv_iload_n X.1 X.2.1 dX0_addWord_21 rfl (lv_at hl 1 rfl) ?_
  refine ts_ast X hH (ts_iw ha) (n) hn hn2 (by first | decide | omega) dX0_addWord_22 (fun H locs hH => ?_)
  refine lv_aload_n X.1 X.2.1 dX0_addWord_23 rfl (lv_at hl 0 rfl) ?_
  refine lv_dup X.1 X.2.1 dX0_addWord_24 rfl ?_
  refine ts_get X hH (ts_Ac ha).1 ((ts_Ac ha).2 _ _) rfl inlX0 5 (by decide) wm_71 (v := .int ((tb_up z (a + 1) n w) a 5)) rfl dX0_addWord_25 ?_
  refine tb_top (x2 := nI (n)) (by rw [tb_up_k _ _ _ (by omega)]; exact hn) ?_
  refine lv_iconst (v := nI (1)) X.1 X.2.1 dX0_addWord_28 (by decide +kernel) ?_
  refine ts_iaddN X dX0_addWord_29 ?_
  refine ts_putA X hH ha 5 (by decide) wm_71 dX0_addWord_30 (fun H locs hH => ?_)
  exact ts_rv X hr hlk hH rfl dX0_addWord_33
set_option maxHeartbeats 1000000 in
set_option maxRecDepth 100000 in
theorem cs_X0_sumOfImage (l : Launch) (g : tb_G) (z : tb_M) (a : Nat) (ha : ts_isA a) (hL : tb_okL z a) : ts_Mi (.int) l yX0_sumOfImage cX0_sumOfImage 3 1 g z [.ref (tb_ad g a)] (tb_sm (z (a + 1)) (tb_len z a)) (z) := by
  refine ts_goi (own := RX0) (by decide +kernel) rfl (Nat.le_of_ble_eq_true rfl) ?_
  intro p e s m below meth c ls X hr hlk hH hl
  have hl : lv_has ls 3 [(0, .ref (tb_ad g (a)))] := hl
  have hL2 := hL.2
  refine lv_iconst (v := nI (1)) X.1 X.2.1 dX0_sumOfImage_0 (by decide +kernel) ?_
  refine lv_istore_n (lv' := [(1, .int (nI (1))), (0, .ref (tb_ad g (a)))]) X.1 X.2.1 dX0_sumOfImage_1 rfl hl (by decide) rfl (fun ls hl => ?_)
  refine lv_iconst (v := nI (0)) X.1 X.2.1 dX0_sumOfImage_2 (by decide +kernel) ?_
  refine lv_istore_n (lv' := [(2, .int (nI (0))), (1, .int (nI (1))), (0, .ref (tb_ad g (a)))]) X.1 X.2.1 dX0_sumOfImage_3 rfl hl (by decide) rfl (fun ls hl => ?_)
  have L_4 : ∀ (k : Nat) (i : Nat), i + k = tb_len z a → ∀ (H : Heap) (locs : List Loc) (ls : Array Slot), ts_H g s.heap (z) H locs → lv_has ls 3 [(0, .ref (tb_ad g (a))), (1, .int (tb_sm (z (a + 1)) i)), (2, .int (nI (i)))] → W p l e (tb_rm 1) s m ([.ref (tb_ad g a)] : List Value).toArray below meth c H locs 0 0 (MQ below (va_Qi (fun r9 u9 => r9 = tb_sm (z (a + 1)) (tb_len z a) ∧ u9 = z) (ts_B g) (ts_A g)) ([.ref (tb_ad g a)] : List Value).toArray s 0 0 (ts_A g)) (F0 m 4 ls []) := by
    intro k
    induction k with
    | zero =>
      intro i hik H locs ls hH hl
      refine lv_iload_n X.1 X.2.1 dX0_sumOfImage_4 rfl (lv_at hl 2 rfl) ?_
      refine lv_aload_n X.1 X.2.1 dX0_sumOfImage_5 rfl (lv_at hl 0 rfl) ?_
      refine ts_get X hH (ts_Ac ha).1 ((ts_Ac ha).2 _ _) rfl inlX0 2 (by decide) wm_69 (v := .int (z a 2)) rfl dX0_sumOfImage_6 ?_
      refine tb_top (x2 := nI (tb_len z a)) (hL.1) ?_
      refine ts_nge (tgt := 35) X (by omega) (by omega) dX0_sumOfImage_9 (by decide) (fun _ => ?_) (fun c => ((by omega) : False).elim)
      refine lv_iload_n X.1 X.2.1 dX0_sumOfImage_35 rfl (lv_at hl 1 rfl) ?_
      exact ts_ri X hr hlk hH ⟨(by rw [show i = tb_len z a by omega]), rfl⟩ dX0_sumOfImage_36
    | succ k ih_4 =>
      intro i hik H locs ls hH hl
      refine lv_iload_n X.1 X.2.1 dX0_sumOfImage_4 rfl (lv_at hl 2 rfl) ?_
      refine lv_aload_n X.1 X.2.1 dX0_sumOfImage_5 rfl (lv_at hl 0 rfl) ?_
      refine ts_get X hH (ts_Ac ha).1 ((ts_Ac ha).2 _ _) rfl inlX0 2 (by decide) wm_69 (v := .int (z a 2)) rfl dX0_sumOfImage_6 ?_
      refine tb_top (x2 := nI (tb_len z a)) (hL.1) ?_
      refine ts_nge (tgt := 35) X (by omega) (by omega) dX0_sumOfImage_9 (by decide) (fun c => ((by omega) : False).elim) (fun _ => ?_)
      refine lv_iload_n X.1 X.2.1 dX0_sumOfImage_12 rfl (lv_at hl 2 rfl) ?_
      refine lv_bipush (v := nI (32)) X.1 X.2.1 dX0_sumOfImage_13 (by decide +kernel) ?_
      refine ts_nge (tgt := 35) X (by omega) (by omega) dX0_sumOfImage_15 (by decide) (fun c => ((by omega) : False).elim) (fun _ => ?_)
      refine lv_iload_n X.1 X.2.1 dX0_sumOfImage_18 rfl (lv_at hl 1 rfl) ?_
      refine lv_aload_n X.1 X.2.1 dX0_sumOfImage_19 rfl (lv_at hl 0 rfl) ?_
      refine ts_get X hH (ts_Ac ha).1 ((ts_Ac ha).2 _ _) rfl inlX0 6 (by decide) wm_51 (v := .ref (tb_ad g (a + 1))) rfl dX0_sumOfImage_20 ?_
      refine lv_iload_n X.1 X.2.1 dX0_sumOfImage_23 rfl (lv_at hl 2 rfl) ?_
      refine ts_ald X hH (ts_iw ha) (i) rfl (by omega) (by first | decide | omega) dX0_sumOfImage_24 ?_
      refine ts_cNi X hH hl.1 (cs_X5_sumWith l g z (tb_sm (z (a + 1)) i) (z (a + 1) i)) ky_X5_sumWith.1 ky_X5_sumWith.2 X.2.2.2.2.1.2.2.1.2.1 rfl rfl (Nat.le_of_ble_eq_true rfl) ⟨by decide, by decide⟩ ⟨by decide, by decide⟩ dX0_sumOfImage_25 (fun H locs hH => ?_)
      refine lv_istore_n (lv' := [(1, .int ((tb_sw (tb_sm (z (a + 1)) i) (z (a + 1) i)))), (0, .ref (tb_ad g (a))), (2, .int (nI (i)))]) X.1 X.2.1 dX0_sumOfImage_28 rfl hl (by decide) rfl (fun ls hl => ?_)
      refine lv_iinc (v := nI (i + 1)) (lv' := [(2, .int (nI (i + 1))), (1, .int ((tb_sw (tb_sm (z (a + 1)) i) (z (a + 1) i)))), (0, .ref (tb_ad g (a)))]) X.1 X.2.1 dX0_sumOfImage_29 hl (k := 2) rfl (nI_add _ _) (by decide) rfl (fun ls hl => ?_)
      refine lv_goto (tgt := 4) X.1 X.2.1 dX0_sumOfImage_32 (by decide) ?_
      exact ih_4 (i + 1) (by omega) _ _ _ hH (lv_sub hl [2, 1, 0] rfl)
  exact L_4 (tb_len z a) 0 (by omega) _ _ _ hH (lv_sub hl [2, 1, 0] rfl)
set_option maxHeartbeats 1000000 in
set_option maxRecDepth 100000 in
theorem cs_X0_takeGoldenImage (l : Launch) (g : tb_G) (z : tb_M) (a : Nat) (ha : ts_isA a) : ts_Mv l yX0_takeGoldenImage cX0_takeGoldenImage 1 2 g z [.ref (tb_ad g a)] (sz_X0_takeGoldenImage z a) := by
  refine ts_gov (own := RX0) (by decide +kernel) rfl (Nat.le_of_ble_eq_true rfl) ?_
  intro p e s m below meth c ls X hr hlk hH hl
  have hl : lv_has ls 1 [(0, .ref (tb_ad g (a)))] := hl
  refine lv_aload_n X.1 X.2.1 dX0_takeGoldenImage_0 rfl (lv_at hl 0 rfl) ?_
  refine lv_iconst (v := nI (0)) X.1 X.2.1 dX0_takeGoldenImage_1 (by decide +kernel) ?_
  refine lv_iconst (v := nI (2)) X.1 X.2.1 dX0_takeGoldenImage_2 (by decide +kernel) ?_
  refine lv_iconst (v := nI (0)) X.1 X.2.1 dX0_takeGoldenImage_3 (by decide +kernel) ?_
  refine ts_cVv X hH hl.1 (cs_X0_expectImage l g z a ha (nI (0)) (nI (2)) (nI (0))) ky_X0_expectImage.1 ky_X0_expectImage.2 wm_64 (ts_oA ha) rfl rfl (Nat.le_of_ble_eq_true rfl) ⟨by decide, by decide⟩ ⟨by decide, by decide⟩ dX0_takeGoldenImage_4 (fun H locs hH => ?_)
  refine lv_aload_n X.1 X.2.1 dX0_takeGoldenImage_7 rfl (lv_at hl 0 rfl) ?_
  refine lv_iconst (v := nI (0)) X.1 X.2.1 dX0_takeGoldenImage_8 (by decide +kernel) ?_
  refine ts_cVv X hH hl.1 (cs_X0_addWord l g (sz_X0_expectImage z a (nI (0)) (nI (2)) (nI (0))) a ha (nI (0)) 0 (by simp [sz_X0_expectImage, tb_up]) (by decide)) ky_X0_addWord.1 ky_X0_addWord.2 wm_72 (ts_oA ha) rfl rfl (Nat.le_of_ble_eq_true rfl) ⟨by decide, by decide⟩ ⟨by decide, by decide⟩ dX0_takeGoldenImage_9 (fun H locs hH => ?_)
  refine lv_aload_n X.1 X.2.1 dX0_takeGoldenImage_12 rfl (lv_at hl 0 rfl) ?_
  refine lv_iconst (v := nI (0)) X.1 X.2.1 dX0_takeGoldenImage_13 (by decide +kernel) ?_
  refine ts_cVv X hH hl.1 (cs_X0_addWord l g (tb_up (tb_up (sz_X0_expectImage z a (nI (0)) (nI (2)) (nI (0))) (a + 1) 0 (nI (0))) a 5 (nI (0 + 1))) a ha (nI (0)) 1 (by simp [tb_up]) (by decide)) ky_X0_addWord.1 ky_X0_addWord.2 wm_72 (ts_oA ha) rfl rfl (Nat.le_of_ble_eq_true rfl) ⟨by decide, by decide⟩ ⟨by decide, by decide⟩ dX0_takeGoldenImage_14 (fun H locs hH => ?_)
  refine lv_aload_n X.1 X.2.1 dX0_takeGoldenImage_17 rfl (lv_at hl 0 rfl) ?_
  refine lv_aload_n X.1 X.2.1 dX0_takeGoldenImage_18 rfl (lv_at hl 0 rfl) ?_
  refine ts_cVi X hH hl.1 (cs_X0_sumOfImage l g (tb_up (tb_up (tb_up (tb_up (sz_X0_expectImage z a (nI (0)) (nI (2)) (nI (0))) (a + 1) 0 (nI (0))) a 5 (nI (0 + 1))) (a + 1) 1 (nI (0))) a 5 (nI (1 + 1))) a ha (tb_okL_of (n := 2) (by simp [sz_X0_expectImage, tb_up]) (by decide)).1) ky_X0_sumOfImage.1 ky_X0_sumOfImage.2 wm_78 (ts_oA ha) rfl rfl (Nat.le_of_ble_eq_true rfl) ⟨by decide, by decide⟩ ⟨by decide, by decide⟩ dX0_takeGoldenImage_19 (fun H locs hH => ?_)
  refine ts_putA X hH ha 3 (by decide) wm_63 dX0_takeGoldenImage_22 (fun H locs hH => ?_)
  refine lv_aload_n X.1 X.2.1 dX0_takeGoldenImage_25 rfl (lv_at hl 0 rfl) ?_
  refine lv_iconst (v := nI (3)) X.1 X.2.1 dX0_takeGoldenImage_26 (by decide +kernel) ?_
  refine ts_putA X hH ha 0 (by decide) wm_50 dX0_takeGoldenImage_27 (fun H locs hH => ?_)
  exact ts_rv X hr hlk hH (by rw [sz_X0_takeGoldenImage]) dX0_takeGoldenImage_30
