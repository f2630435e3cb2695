/-! CONTRACTS over the one memory: a method's answer and the memory behind it are given -/
def tb_rm (n : Nat) : Room := { frames := n, cells := 0, slots := 0, locals := 36 * n }
def tb_Pr (g : tb_G) (z : tb_M) (U : State) : Prop := va_P (g.1, g.2.1) vwCl (tb_W g z) U.heap ∧ tb_K g U
def tb_B (g : tb_G) : tb_M → State → Prop := fun u t => va_P (g.1, g.2.1) vwCl (tb_W g u) t.heap
def tb_Mi (ret : FieldType) (l : Launch) (y : MethodName) (cy : ByteArray) (nL n : Nat) (g : tb_G) (z : tb_M) (As : List Value) (r : Int32) (z1 : tb_M) : Prop :=
  Met l y (Cond.code y cy nL (some ret) :: wsL_law) (tb_rm n) (va_Pc As (tb_Pr g z)) (va_Qi (fun a u => a = r ∧ u = z1) (tb_B g) (tb_A g)) 0 0 (tb_A g)
def tb_Mv (l : Launch) (y : MethodName) (cy : ByteArray) (nL n : Nat) (g : tb_G) (z : tb_M) (As : List Value) (z1 : tb_M) : Prop :=
  Met l y (Cond.code y cy nL none :: wsL_law) (tb_rm n) (va_Pc As (tb_Pr g z)) (va_Qv (fun u => u = z1) (tb_B g) (tb_A g)) 0 0 (tb_A g)
def tb_Mr (cls : String) (l : Launch) (y : MethodName) (cy : ByteArray) (nL n : Nat) (g : tb_G) (z : tb_M) (As : List Value) (k : Nat) (z1 : tb_M) : Prop :=
  Met l y (Cond.code y cy nL (some (.object cls)) :: wsL_law) (tb_rm n) (va_Pc As (tb_Pr g z)) (va_Qr (fun u => u = z1) (fun u ra t => ra = tb_ad g k ∧ tb_B g u t) (tb_A g)) 0 0 (tb_A g)
theorem tb_good {w : Cond} (h : w ∈ wsL_law) : (w.onTables && w.keeps) = true ∨ ∃ ty, w = .arrayClass ty := good_of_word (List.all_eq_true.mp wm_good w h)
def tb_Y (y : MethodName) (cy : ByteArray) (nL : Nat) (ret : Option FieldType) (n : Nat) : Prop := Cond.code y cy nL ret ∈ wsL_law ∧ Cond.initialized y.cls ∈ wsL_law ∧ (y.cls ≠ "java/lang/invoke/MethodHandle" ∧ y.cls ≠ "java/lang/invoke/VarHandle") ∧ (parseMethodDescriptor y.desc).map (fun d => d.parameters.length) = some n
def tb_isO (b : Nat) (C : String) : Prop := b < 164 ∧ ∃ (ci : Nat) (T : u_T) (N : Nat), vwCl[ci]? = some (C, T, N) ∧ ∀ (g : tb_G) (f : Nat → Int32), ∃ fs, tb_c g b f = .inr (ci, fs)
theorem tb_oA {a : Nat} (h : tb_isA a) : tb_isO a RX0 := ⟨(tb_Ac h).1, 0, TX0, 8, rfl, fun g f => ⟨_, (tb_Ac h).2 g f⟩⟩
theorem tb_oD {a : Nat} (h : tb_isD a) : tb_isO a RX1 := ⟨(tb_Dc h).1, 1, TX1, 10, rfl, fun g f => ⟨_, (tb_Dc h).2 g f⟩⟩
theorem tb_oS {a : Nat} (h : tb_isS a) : tb_isO a RX4 := ⟨(tb_Sc h).1, 4, TX4, 6, rfl, fun g f => ⟨_, (tb_Sc h).2 g f⟩⟩
theorem tb_oH : tb_isO 153 RX2 := ⟨tb_Hc.1, 2, TX2, 3, rfl, fun g f => ⟨_, tb_Hc.2 g f⟩⟩
theorem tb_oP : tb_isO 155 RX3 := ⟨tb_Pc.1, 3, TX3, 2, rfl, fun g f => ⟨_, tb_Pc.2 g f⟩⟩
theorem tb_oT : tb_isO 150 RX5 := ⟨tb_Tc.1, 5, TX5, 6, rfl, fun g f => ⟨_, tb_Tc.2 g f⟩⟩
theorem tb_oM : tb_isO 157 RX6 := ⟨tb_Mc.1, 6, TX6, 8, rfl, fun g f => ⟨_, tb_Mc.2 g f⟩⟩
theorem tb_blind (g : tb_G) (z : tb_M) (As : List Value) : FrameBlind (va_Pc As (tb_Pr g z)) := fun a U gg mk h => ⟨h.1, h.2.1, h.2.2.same (s := U) (U := U.calling gg mk a) rfl rfl⟩
section TBCALLS
variable {p : Program} {l : Launch} {e : Env} {R : Room} {s : State} {m : MethodId} {args : Array Value} {below : List Frame} {meth : Method} {c : Code} {H : Heap} {locs : List Loc} {cells slots : Nat} {Q : State → Prop}
variable {cc : ByteArray} {pc nLc : Nat} {ls : Array Slot} {rest st : List Value} {g : tb_G} {z z1 : tb_M} {own : String} {ret : FieldType} {y : MethodName} {cy : ByteArray} {nL nf n idx b k : Nat} {As : List Value} {r : Int32} {cls : String}
theorem tb_words (X : tb_X own cc nLc g p c s m args) {w0 : Cond} (h0 : w0 ∈ wsL_law) : ∀ w ∈ w0 :: wsL_law, ∀ (a' : Array Value) (U : State), s.WarmedH U.vm → w.before a' U = true := by
  intro w hw a' U hW
  have hw' : w ∈ wsL_law := by
    rcases List.mem_cons.mp hw with rfl | h
    · exact h0
    · exact h
  exact word_at hW (tb_good hw') (X.2.2.1 w hw')
theorem tb_sigN (h : (parseMethodDescriptor y.desc).map (fun d => d.parameters.length) = some n) : ∀ sig, parseMethodDescriptor y.desc = some sig → n = sig.parameters.length := by
  intro sig hs
  rw [hs] at h
  exact (Option.some.inj h).symm
theorem tb_CB {rt : Option FieldType} (X : tb_X own cc nLc g p c s m args) (hY : tb_Y y cy nL rt n) (hlk : Cond.methodLink own idx y ∈ wsL_law) (hR : nf + 1 ≤ R.frames ∧ 8 + (nL + 11) + 36 * nf ≤ R.locals) : CallB R s args own idx y cy nL rt (Cond.code y cy nL rt :: wsL_law) (tb_rm nf) 0 0 n :=
  ⟨rfl, rfl, hR.1, hR.2, tb_words X hY.1, List.mem_cons_self, X.2.2.1 _ hY.1, X.2.2.1 _ hY.2.1, hY.2.2.1, tb_sigN hY.2.2.2, X.2.2.1 _ hlk⟩
theorem tb_CN {rt : Option FieldType} {host : String} (X : tb_X own cc nLc g p c s m args) (hY : tb_Y y cy nL rt n) (hlk : va_Nw (.methodLinkNest own idx y host) s) (hR : nf + 1 ≤ R.frames ∧ 8 + (nL + 11) + 36 * nf ≤ R.locals) : va_CN R s args own idx y host cy nL rt (Cond.code y cy nL rt :: wsL_law) (tb_rm nf) 0 0 n :=
  ⟨⟨rfl, rfl, hR.1, hR.2, tb_words X hY.1, List.mem_cons_self⟩, X.2.2.1 _ hY.1, X.2.2.1 _ hY.2.1, hY.2.2.1, tb_sigN hY.2.2.2, va_Nw.use rfl hlk⟩
theorem tb_recv (X : tb_X own cc nLc g p c s m args) (hH : tb_H g s.heap z H locs) {C : String} (hO : tb_isO b C) : ∃ cellB : Cell, H[tb_ad g b]? = some cellB ∧ cellB.vm.isStatics = false ∧ s.vm.findClass C = some cellB.cls := by
  obtain ⟨hb, ci, T, N, hc, hf⟩ := hO
  obtain ⟨fs, hfs⟩ := hf g (z b)
  exact va_recv (q := (C, T, N)) X.2.2.2.2.1.1 hH.1 (q0 := b) (ci := ci) (fs := fs) hc (by rw [tb_Wg g z hb, hfs])
theorem tb_pre (X : tb_X own cc nLc g p c s m args) (hH : tb_H g s.heap z H locs) : ∀ U : State, U.heap = H → s.WarmedH U.vm → va_Pc As (tb_Pr g z) As.toArray U := fun U hU hW => ⟨rfl, by rw [hU]; exact hH.1, X.2.2.2.2.1.warm hU hH.2 hW⟩
theorem tb_cVi (X : tb_X own cc nLc g p c s m args) (hH : tb_H g s.heap z H locs) (hls : ls.size = nLc) (hM : tb_Mi ret l y cy nL nf g z (.ref (tb_ad g b) :: As) r z1) (hY : tb_Y y cy nL (some ret) n) (hV : Cond.instanceMethod y ∈ wsL_law ∧ Cond.selects y.cls y y ∈ wsL_law) (hlk : Cond.methodLink own idx y ∈ wsL_law) (hO : tb_isO b y.cls) (hn : As.length = n) (hst : st = As.reverse ++ .ref (tb_ad g b) :: rest) (hcat : (rest.map fun v => v.category).sum ≤ 8) (hR : nf + 1 ≤ R.frames ∧ 8 + (nL + 11) + 36 * nf ≤ R.locals) (hcs : cells ≤ R.cells ∧ slots ≤ R.slots) (hdg : decode cc pc = .ok (.invokevirtual idx, 3))
    (kk : ∀ (H1 : Heap) (locs1 : List Loc), tb_H g s.heap z1 H1 locs1 → W p l e R s m args below meth c H1 locs1 cells slots Q (F0 m (pc + 3) ls (.int r :: rest))) : W p l e R s m args below meth c H locs cells slots Q (F0 m pc ls st) := by
  refine va_calli (va_runV (As := As) (rest := rest) ⟨X.1, X.2.1, X.2.2.2.2.2, X.2.2.2.1, X.2.2.1⟩ hM ⟨tb_CB X hY hlk hR, X.2.2.1 _ hV.1, X.2.2.1 _ hV.2⟩ ⟨tb_blind g z _, tb_recv X hH hO, tb_pre X hH⟩ rfl hn hls hst (lv_room hcat) hdg ⟨hcs.1, hcs.2⟩) hH.2 (fun q _ h => h) (fun q h => h) (fun r1 u t H1 locs1 ht hvm hw hB _ _ hS => ?_)
  obtain ⟨rfl, rfl⟩ := hw
  exact kk H1 locs1 ⟨by rw [← ht]; exact hB, hS⟩
theorem tb_cVv (X : tb_X own cc nLc g p c s m args) (hH : tb_H g s.heap z H locs) (hls : ls.size = nLc) (hM : tb_Mv l y cy nL nf g z (.ref (tb_ad g b) :: As) z1) (hY : tb_Y y cy nL none n) (hV : Cond.instanceMethod y ∈ wsL_law ∧ Cond.selects y.cls y y ∈ wsL_law) (hlk : Cond.methodLink own idx y ∈ wsL_law) (hO : tb_isO b y.cls) (hn : As.length = n) (hst : st = As.reverse ++ .ref (tb_ad g b) :: rest) (hcat : (rest.map fun v => v.category).sum ≤ 8) (hR : nf + 1 ≤ R.frames ∧ 8 + (nL + 11) + 36 * nf ≤ R.locals) (hcs : cells ≤ R.cells ∧ slots ≤ R.slots) (hdg : decode cc pc = .ok (.invokevirtual idx, 3))
    (kk : ∀ (H1 : Heap) (locs1 : List Loc), tb_H g s.heap z1 H1 locs1 → W p l e R s m args below meth c H1 locs1 cells slots Q (F0 m (pc + 3) ls rest)) : W p l e R s m args below meth c H locs cells slots Q (F0 m pc ls st) := by
  refine va_callv (va_runV (As := As) (rest := rest) ⟨X.1, X.2.1, X.2.2.2.2.2, X.2.2.2.1, X.2.2.1⟩ hM ⟨tb_CB X hY hlk hR, X.2.2.1 _ hV.1, X.2.2.1 _ hV.2⟩ ⟨tb_blind g z _, tb_recv X hH hO, tb_pre X hH⟩ rfl hn hls hst (lv_room hcat) hdg ⟨hcs.1, hcs.2⟩) hH.2 (fun q _ h => h) (fun q h => h) (fun u t H1 locs1 ht hvm hw hB _ _ hS => ?_)
  subst hw
  exact kk H1 locs1 ⟨by rw [← ht]; exact hB, hS⟩
theorem tb_cVr (X : tb_X own cc nLc g p c s m args) (hH : tb_H g s.heap z H locs) (hls : ls.size = nLc) (hM : tb_Mr cls l y cy nL nf g z (.ref (tb_ad g b) :: As) k z1) (hY : tb_Y y cy nL (some (.object cls)) n) (hV : Cond.instanceMethod y ∈ wsL_law ∧ Cond.selects y.cls y y ∈ wsL_law) (hlk : Cond.methodLink own idx y ∈ wsL_law) (hO : tb_isO b y.cls) (hn : As.length = n) (hst : st = As.reverse ++ .ref (tb_ad g b) :: rest) (hcat : (rest.map fun v => v.category).sum ≤ 8) (hR : nf + 1 ≤ R.frames ∧ 8 + (nL + 11) + 36 * nf ≤ R.locals) (hcs : cells ≤ R.cells ∧ slots ≤ R.slots) (hdg : decode cc pc = .ok (.invokevirtual idx, 3))
    (kk : ∀ (H1 : Heap) (locs1 : List Loc), tb_H g s.heap z1 H1 locs1 → W p l e R s m args below meth c H1 locs1 cells slots Q (F0 m (pc + 3) ls (.ref (tb_ad g k) :: rest))) : W p l e R s m args below meth c H locs cells slots Q (F0 m pc ls st) := by
  refine va_callr (va_runV (As := As) (rest := rest) ⟨X.1, X.2.1, X.2.2.2.2.2, X.2.2.2.1, X.2.2.1⟩ hM ⟨tb_CB X hY hlk hR, X.2.2.1 _ hV.1, X.2.2.1 _ hV.2⟩ ⟨tb_blind g z _, tb_recv X hH hO, tb_pre X hH⟩ rfl hn hls hst (lv_room hcat) hdg ⟨hcs.1, hcs.2⟩) hH.2 (fun q _ h => h) (fun q h => h) (fun u ra t H1 locs1 ht hvm hw hB _ _ hS => ?_)
  subst hw
  obtain ⟨rfl, hB⟩ := hB
  exact kk H1 locs1 ⟨by rw [← ht]; exact hB, hS⟩
theorem tb_cSi (X : tb_X own cc nLc g p c s m args) (hH : tb_H g s.heap z H locs) (hls : ls.size = nLc) (hM : tb_Mi ret l y cy nL nf g z As r z1) (hY : tb_Y y cy nL (some ret) n) (hV : Cond.static y ∈ wsL_law) (hlk : Cond.methodLink own idx y ∈ wsL_law) (hn : As.length = n) (hst : st = As.reverse ++ rest) (hcat : (rest.map fun v => v.category).sum ≤ 8) (hR : nf + 1 ≤ R.frames ∧ 8 + (nL + 11) + 36 * nf ≤ R.locals) (hcs : cells ≤ R.cells ∧ slots ≤ R.slots) (hdg : decode cc pc = .ok (.invokestatic idx, 3))
    (kk : ∀ (H1 : Heap) (locs1 : List Loc), tb_H g s.heap z1 H1 locs1 → W p l e R s m args below meth c H1 locs1 cells slots Q (F0 m (pc + 3) ls (.int r :: rest))) : W p l e R s m args below meth c H locs cells slots Q (F0 m pc ls st) := by
  refine va_calli (va_runS (As := As) (rest := rest) ⟨X.1, X.2.1, X.2.2.2.2.2, X.2.2.2.1, X.2.2.1⟩ hM ⟨tb_CB X hY hlk hR, X.2.2.1 _ hV⟩ ⟨tb_blind g z _, tb_pre X hH⟩ rfl hn hls hst (lv_room hcat) hdg ⟨hcs.1, hcs.2⟩) hH.2 (fun q _ h => h) (fun q h => h) (fun r1 u t H1 locs1 ht hvm hw hB _ _ hS => ?_)
  obtain ⟨rfl, rfl⟩ := hw
  exact kk H1 locs1 ⟨by rw [← ht]; exact hB, hS⟩
theorem tb_cSv (X : tb_X own cc nLc g p c s m args) (hH : tb_H g s.heap z H locs) (hls : ls.size = nLc) (hM : tb_Mv l y cy nL nf g z As z1) (hY : tb_Y y cy nL none n) (hV : Cond.static y ∈ wsL_law) (hlk : Cond.methodLink own idx y ∈ wsL_law) (hn : As.length = n) (hst : st = As.reverse ++ rest) (hcat : (rest.map fun v => v.category).sum ≤ 8) (hR : nf + 1 ≤ R.frames ∧ 8 + (nL + 11) + 36 * nf ≤ R.locals) (hcs : cells ≤ R.cells ∧ slots ≤ R.slots) (hdg : decode cc pc = .ok (.invokestatic idx, 3))
    (kk : ∀ (H1 : Heap) (locs1 : List Loc), tb_H g s.heap z1 H1 locs1 → W p l e R s m args below meth c H1 locs1 cells slots Q (F0 m (pc + 3) ls rest)) : W p l e R s m args below meth c H locs cells slots Q (F0 m pc ls st) := by
  refine va_callv (va_runS (As := As) (rest := rest) ⟨X.1, X.2.1, X.2.2.2.2.2, X.2.2.2.1, X.2.2.1⟩ hM ⟨tb_CB X hY hlk hR, X.2.2.1 _ hV⟩ ⟨tb_blind g z _, tb_pre X hH⟩ rfl hn hls hst (lv_room hcat) hdg ⟨hcs.1, hcs.2⟩) hH.2 (fun q _ h => h) (fun q h => h) (fun u t H1 locs1 ht hvm hw hB _ _ hS => ?_)
  subst hw
  exact kk H1 locs1 ⟨by rw [← ht]; exact hB, hS⟩
theorem tb_cNi {host : String} (X : tb_X own cc nLc g p c s m args) (hH : tb_H g s.heap z H locs) (hls : ls.size = nLc) (hM : tb_Mi ret l y cy nL nf g z As r z1) (hY : tb_Y y cy nL (some ret) n) (hV : Cond.static y ∈ wsL_law) (hlk : va_Nw (.methodLinkNest own idx y host) s) (hn : As.length = n) (hst : st = As.reverse ++ rest) (hcat : (rest.map fun v => v.category).sum ≤ 8) (hR : nf + 1 ≤ R.frames ∧ 8 + (nL + 11) + 36 * nf ≤ R.locals) (hcs : cells ≤ R.cells ∧ slots ≤ R.slots) (hdg : decode cc pc = .ok (.invokestatic idx, 3))
    (kk : ∀ (H1 : Heap) (locs1 : List Loc), tb_H g s.heap z1 H1 locs1 → W p l e R s m args below meth c H1 locs1 cells slots Q (F0 m (pc + 3) ls (.int r :: rest))) : W p l e R s m args below meth c H locs cells slots Q (F0 m pc ls st) := by
  refine va_calli (va_runSN (As := As) (rest := rest) ⟨X.1, X.2.1, X.2.2.2.2.2, X.2.2.2.1, X.2.2.1⟩ hM ⟨tb_CN X hY hlk hR, X.2.2.1 _ hV, trivial⟩ ⟨tb_blind g z _, tb_pre X hH⟩ rfl hn hls hst (lv_room hcat) hdg ⟨hcs.1, hcs.2⟩) hH.2 (fun q _ h => h) (fun q h => h) (fun r1 u t H1 locs1 ht hvm hw hB _ _ hS => ?_)
  obtain ⟨rfl, rfl⟩ := hw
  exact kk H1 locs1 ⟨by rw [← ht]; exact hB, hS⟩
-- Math
theorem tb_cmax (X : tb_X own cc nLc g p c s m args) (hls : ls.size = nLc) (hlk : Cond.methodLink own idx Lib.Math.max.name ∈ wsL_law) (w2 : Cond.static Lib.Math.max.name ∈ wsL_law) (w3 : Cond.initialized "java/lang/Math" ∈ wsL_law) (w4 : Cond.code Lib.Math.max.name Lib.Math.max.code 2 (some .int) ∈ wsL_law) (hfr : 1 ≤ R.frames) (hlo : (rest.map fun v => v.category).sum + 13 ≤ R.locals) (hcs : cells ≤ R.cells ∧ slots ≤ R.slots) {x y : Int32} (hdg : decode cc pc = .ok (.invokestatic idx, 3))
    (kk : W p l e R s m args below meth c H locs cells slots Q (F0 m (pc + 3) ls (.int (if x < y then y else x) :: rest))) : W p l e R s m args below meth c H locs cells slots Q (F0 m pc ls (.int y :: .int x :: rest)) :=
  va_mmax X.1 X.2.1 (X.2.2.2.2.2.trans hls.symm) X.2.2.2.1 (X.2.2.1 _ hlk) (X.2.2.1 _ w2) (X.2.2.1 _ w3) (X.2.2.1 _ w4) hfr hlo hcs.1 hcs.2 hdg kk
theorem tb_cmin (X : tb_X own cc nLc g p c s m args) (hls : ls.size = nLc) (hlk : Cond.methodLink own idx Lib.Math.min.name ∈ wsL_law) (w2 : Cond.static Lib.Math.min.name ∈ wsL_law) (w3 : Cond.initialized "java/lang/Math" ∈ wsL_law) (w4 : Cond.code Lib.Math.min.name Lib.Math.min.code 2 (some .int) ∈ wsL_law) (hfr : 1 ≤ R.frames) (hlo : (rest.map fun v => v.category).sum + 13 ≤ R.locals) (hcs : cells ≤ R.cells ∧ slots ≤ R.slots) {x y : Int32} (hdg : decode cc pc = .ok (.invokestatic idx, 3))
    (kk : W p l e R s m args below meth c H locs cells slots Q (F0 m (pc + 3) ls (.int (if y < x then y else x) :: rest))) : W p l e R s m args below meth c H locs cells slots Q (F0 m pc ls (.int y :: .int x :: rest)) :=
  va_mmin X.1 X.2.1 (X.2.2.2.2.2.trans hls.symm) X.2.2.2.1 (X.2.2.1 _ hlk) (X.2.2.1 _ w2) (X.2.2.1 _ w3) (X.2.2.1 _ w4) hfr hlo hcs.1 hcs.2 hdg kk
-- a method's start
theorem tb_goi (hy : plainName y.cls = true) (hown : y.cls = own) (hlen : (lg_sl As).length ≤ nL) (body : ∀ (p : Program) (e : Env) (s : State) (m : MethodId) (below : List Frame) (meth : Method) (c : Code) (ls : Array Slot), tb_X own cy nL g p c s m As.toArray → meth.sig.returnType = some ret → meth.locks = false → tb_H g s.heap z s.heap [] → lv_has ls nL (lv_args 0 As) → W p l e (tb_rm n) s m As.toArray below meth c s.heap [] 0 0 (MQ below (va_Qi (fun a u => a = r ∧ u = z1) (tb_B g) (tb_A g)) As.toArray s 0 0 (tb_A g)) (F0 m 0 ls [])) : tb_Mi ret l y cy nL n g z As r z1 := by
  refine Met.ofW (cc := cy) (maxL := nL) (ret := some ret) hy rfl ?_
  intro p e s m args below meth c s₁ B hml hv
  obtain ⟨rfl, hP, hK⟩ := hv
  have hts := atoms_spec (ws := Cond.code y cy nL (some ret) :: wsL_law) B.pre
  rw [lg_entry_eq]
  exact body p e s m below meth c _ ⟨B.exec, B.bytes, fun w hw => hts w (List.mem_cons_of_mem _ hw), by rw [← hown]; exact findClass_of_methodNamed B.named, hK, hml⟩ B.returns B.notSynchronized ⟨hP, va_S.rf⟩ (lv_entry As (n := nL) hlen)
theorem tb_goiF (hy : plainFor y = true) (hown : y.cls = own) (hlen : (lg_sl As).length ≤ nL) (body : ∀ (p : Program) (e : Env) (s : State) (m : MethodId) (below : List Frame) (meth : Method) (c : Code) (ls : Array Slot), tb_X own cy nL g p c s m As.toArray → meth.sig.returnType = some ret → meth.locks = false → tb_H g s.heap z s.heap [] → lv_has ls nL (lv_args 0 As) → W p l e (tb_rm n) s m As.toArray below meth c s.heap [] 0 0 (MQ below (va_Qi (fun a u => a = r ∧ u = z1) (tb_B g) (tb_A g)) As.toArray s 0 0 (tb_A g)) (F0 m 0 ls [])) : tb_Mi ret l y cy nL n g z As r z1 := by
  refine va_MetF (cc := cy) (maxL := nL) (ret := some ret) hy rfl ?_
  intro p e s m args below meth c s₁ B hml hv
  obtain ⟨rfl, hP, hK⟩ := hv
  have hts := atoms_spec (ws := Cond.code y cy nL (some ret) :: wsL_law) B.pre
  rw [lg_entry_eq]
  exact body p e s m below meth c _ ⟨B.exec, B.bytes, fun w hw => hts w (List.mem_cons_of_mem _ hw), by rw [← hown]; exact findClass_of_methodNamed B.named, hK, hml⟩ B.returns B.notSynchronized ⟨hP, va_S.rf⟩ (lv_entry As (n := nL) hlen)
theorem tb_gov (hy : plainName y.cls = true) (hown : y.cls = own) (hlen : (lg_sl As).length ≤ nL) (body : ∀ (p : Program) (e : Env) (s : State) (m : MethodId) (below : List Frame) (meth : Method) (c : Code) (ls : Array Slot), tb_X own cy nL g p c s m As.toArray → meth.sig.returnType = none → meth.locks = false → tb_H g s.heap z s.heap [] → lv_has ls nL (lv_args 0 As) → W p l e (tb_rm n) s m As.toArray below meth c s.heap [] 0 0 (MQ below (va_Qv (fun u => u = z1) (tb_B g) (tb_A g)) As.toArray s 0 0 (tb_A g)) (F0 m 0 ls [])) : tb_Mv l y cy nL n g z As z1 := by
  refine Met.ofW (cc := cy) (maxL := nL) (ret := none) hy rfl ?_
  intro p e s m args below meth c s₁ B hml hv
  obtain ⟨rfl, hP, hK⟩ := hv
  have hts := atoms_spec (ws := Cond.code y cy nL none :: wsL_law) B.pre
  rw [lg_entry_eq]
  exact body p e s m below meth c _ ⟨B.exec, B.bytes, fun w hw => hts w (List.mem_cons_of_mem _ hw), by rw [← hown]; exact findClass_of_methodNamed B.named, hK, hml⟩ B.returns B.notSynchronized ⟨hP, va_S.rf⟩ (lv_entry As (n := nL) hlen)
theorem tb_gor (hy : plainName y.cls = true) (hown : y.cls = own) (hlen : (lg_sl As).length ≤ nL) (body : ∀ (p : Program) (e : Env) (s : State) (m : MethodId) (below : List Frame) (meth : Method) (c : Code) (ls : Array Slot), tb_X own cy nL g p c s m As.toArray → meth.sig.returnType = some (.object cls) → meth.locks = false → tb_H g s.heap z s.heap [] → lv_has ls nL (lv_args 0 As) → W p l e (tb_rm n) s m As.toArray below meth c s.heap [] 0 0 (MQ below (va_Qr (fun u => u = z1) (fun u ra t => ra = tb_ad g k ∧ tb_B g u t) (tb_A g)) As.toArray s 0 0 (tb_A g)) (F0 m 0 ls [])) : tb_Mr cls l y cy nL n g z As k z1 := by
  refine Met.ofW (cc := cy) (maxL := nL) (ret := some (.object cls)) hy rfl ?_
  intro p e s m args below meth c s₁ B hml hv
  obtain ⟨rfl, hP, hK⟩ := hv
  have hts := atoms_spec (ws := Cond.code y cy nL (some (.object cls)) :: wsL_law) B.pre
  rw [lg_entry_eq]
  exact body p e s m below meth c _ ⟨B.exec, B.bytes, fun w hw => hts w (List.mem_cons_of_mem _ hw), by rw [← hown]; exact findClass_of_methodNamed B.named, hK, hml⟩ B.returns B.notSynchronized ⟨hP, va_S.rf⟩ (lv_entry As (n := nL) hlen)
-- a method's end
def tb_b (q : Prop) [Decidable q] : Int32 := if q then nI 1 else nI 0
theorem tb_b_t {q : Prop} [Decidable q] (h : q) : tb_b q = nI 1 := if_pos h
theorem tb_b_f {q : Prop} [Decidable q] (h : ¬ q) : tb_b q = nI 0 := if_neg h
theorem tb_b_0 {q : Prop} [Decidable q] : tb_b q = 0 ↔ ¬ q := by
  by_cases h : q
  · rw [tb_b_t h]
    exact ⟨fun e => absurd e (by decide), fun e => absurd h e⟩
  · rw [tb_b_f h]
    exact ⟨fun _ => h, fun _ => rfl⟩
theorem tb_b_n {q : Prop} [Decidable q] : narrow .boolean (.int (tb_b q)) = .int (tb_b q) := by
  by_cases h : q
  · rw [tb_b_t h]; rfl
  · rw [tb_b_f h]; rfl
theorem tb_b_c {q q' : Prop} [Decidable q] [Decidable q'] (h : q ↔ q') : tb_b q = tb_b q' := by
  by_cases h1 : q
  · rw [tb_b_t h1, tb_b_t (h.mp h1)]
  · rw [tb_b_f h1, tb_b_f (fun x => h1 (h.mpr x))]
theorem tb_ri (X : tb_X own cc nLc g p c s m args) (hr : meth.sig.returnType = some .int) (hlk : meth.locks = false) (hH : tb_H g s.heap z H locs) {v : Int32} (hv : v = r ∧ z = z1) (hdg : decode cc pc = .ok (.ireturn, 1)) : W p l e R s m args below meth c H locs 0 0 (MQ below (va_Qi (fun a u => a = r ∧ u = z1) (tb_B g) (tb_A g)) args s 0 0 (tb_A g)) (F0 m pc ls [.int v]) :=
  W.iret (v := v) X.1 X.2.1 hr (fun t ht _ => ⟨⟨v, z, rfl, hv, by show va_P _ _ _ t.heap; rw [ht]; exact hH.1⟩, hH.2.F ht⟩) hH.2.2.2 hdg hlk
theorem tb_rz (X : tb_X own cc nLc g p c s m args) (hr : meth.sig.returnType = some .boolean) (hlk : meth.locks = false) (hH : tb_H g s.heap z H locs) {q q' : Prop} [Decidable q] [Decidable q'] (hv : (q ↔ q') ∧ z = z1) (hdg : decode cc pc = .ok (.ireturn, 1)) : W p l e R s m args below meth c H locs 0 0 (MQ below (va_Qi (fun a u => a = tb_b q' ∧ u = z1) (tb_B g) (tb_A g)) args s 0 0 (tb_A g)) (F0 m pc ls [.int (tb_b q)]) :=
  W.zret (v := tb_b q) (ty := .boolean) X.1 X.2.1 hr tb_b_n (fun t ht _ => ⟨⟨tb_b q, z, rfl, ⟨tb_b_c hv.1, hv.2⟩, by show va_P _ _ _ t.heap; rw [ht]; exact hH.1⟩, hH.2.F ht⟩) hH.2.2.2 hdg hlk
theorem tb_rv (X : tb_X own cc nLc g p c s m args) (hr : meth.sig.returnType = none) (hlk : meth.locks = false) (hH : tb_H g s.heap z H locs) (hv : z = z1) (hdg : decode cc pc = .ok (.return_, 1)) : W p l e R s m args below meth c H locs 0 0 (MQ below (va_Qv (fun u => u = z1) (tb_B g) (tb_A g)) args s 0 0 (tb_A g)) (F0 m pc ls []) :=
  W.vret X.1 X.2.1 hr (fun t ht _ => ⟨⟨z, rfl, hv, by show va_P _ _ _ t.heap; rw [ht]; exact hH.1⟩, hH.2.F ht⟩) hH.2.2.2 hdg hlk
theorem tb_rr (X : tb_X own cc nLc g p c s m args) (hr : meth.sig.returnType = some (.object cls)) (hlk : meth.locks = false) (hH : tb_H g s.heap z H locs) {a : Nat} (hv : a = k ∧ z = z1) (hdg : decode cc pc = .ok (.areturn, 1)) : W p l e R s m args below meth c H locs 0 0 (MQ below (va_Qr (fun u => u = z1) (fun u ra t => ra = tb_ad g k ∧ tb_B g u t) (tb_A g)) args s 0 0 (tb_A g)) (F0 m pc ls [.ref (tb_ad g a)]) :=
  W.aret X.1 X.2.1 hr (Or.inl ⟨cls, rfl⟩) (Or.inr ⟨_, rfl⟩) (fun t ht _ => ⟨⟨z, tb_ad g a, rfl, hv.2, by rw [hv.1], by show va_P _ _ _ t.heap; rw [ht]; exact hH.1⟩, hH.2.F ht⟩) hH.2.2.2 hdg hlk
end TBCALLS
