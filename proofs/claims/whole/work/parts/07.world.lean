/-! THE WORLD: one memory of 164 cells of a fixed geometry. A memory z: z k j is the j-th int of the cell k. Devices: ten blocks of fifteen cells. -/
abbrev tb_M : Type := Nat → Nat → Int32
def tb_up (z : tb_M) (k j : Nat) (v : Int32) : tb_M := fun a b => if a = k ∧ b = j then v else z a b
def tb_cp (z : tb_M) (src dst n : Nat) : tb_M := fun a b => if a = dst ∧ b < n then z src b else z a b
abbrev tb_G : Type := (Nat → ClassId) × (Nat → Nat → Nat) × (Nat → Nat) × ClassId × ClassId × ClassId
abbrev tb_ad (g : tb_G) (k : Nat) : Nat := g.2.2.1 k
def tb_ai (g : tb_G) (n : Nat) (f : Nat → Int32) : va_E := .inl (g.2.2.2.1, n, .inl f)
def tb_area (g : tb_G) (a : Nat) (f : Nat → Int32) : va_E := .inr (0, [.int (f 0), .int (f 1), .int (f 2), .int (f 3), .int (f 4), .int (f 5), .ref (tb_ad g (a + 1)), .ref (tb_ad g (a + 2))])
def tb_dev (g : tb_G) (d : Nat) (f : Nat → Int32) : va_E := .inr (1, [.ref (tb_ad g (d + 1)), .ref (tb_ad g (d + 2)), .ref (tb_ad g (d + 5)), .ref (tb_ad g (d + 8)), .ref (tb_ad g (d + 11)), .int (f 5), .int (f 6), .int (f 7), .int (f 8), .int (f 9)])
def tb_sts (g : tb_G) (q : Nat) (f : Nat → Int32) : va_E := .inr (4, [.int (f 0), .int (f 1), .int (f 2), .ref (tb_ad g (q + 1)), .ref (tb_ad g (q + 2)), .ref (tb_ad g (q + 3))])
def tb_d (g : tb_G) (d c : Nat) (f : Nat → Int32) : va_E := match c with
  | 0 => tb_dev g d f
  | 1 => tb_ai g 3 f
  | 2 => tb_area g (d + 2) f
  | 3 => tb_ai g 32 f
  | 4 => tb_ai g 8 f
  | 5 => tb_area g (d + 5) f
  | 6 => tb_ai g 32 f
  | 7 => tb_ai g 8 f
  | 8 => tb_area g (d + 8) f
  | 9 => tb_ai g 32 f
  | 10 => tb_ai g 8 f
  | 11 => tb_sts g (d + 11) f
  | _ => tb_ai g 12 f
def tb_x (g : tb_G) (c : Nat) (f : Nat → Int32) : va_E := match c with
  | 0 => .inr (5, [.ref (tb_ad g 0), .ref (tb_ad g 15), .ref (tb_ad g 151), .ref (tb_ad g 152), .ref (tb_ad g 153), .ref (tb_ad g 155)])
  | 1 => .inl (g.2.2.2.2.2, 2, .inr (.inr (.inr (.inr (fun j => some (tb_ad g (30 + 15 * j)))))))
  | 2 => .inl (g.2.2.2.2.1, 2, .inl f)
  | 3 => .inr (2, [.int (f 0), .int (f 1), .ref (tb_ad g 154)])
  | 4 => .inl (g.2.2.2.2.2, 6, .inr (.inr (.inr (.inr (fun j => some (tb_ad g (60 + 15 * j)))))))
  | 5 => .inr (3, [.int (f 0), .ref (tb_ad g 156)])
  | 6 => tb_ai g 64 f
  | 7 => .inr (6, [.ref (tb_ad g 158), .ref (tb_ad g 159), .ref (tb_ad g 160), .int (f 3), .ref (tb_ad g 161), .ref (tb_ad g 162), .ref (tb_ad g 163), .int (f 7)])
  | 8 => tb_ai g 139 f
  | 9 => tb_ai g 139 f
  | 10 => tb_ai g 834 f
  | 11 => tb_ai g 278 f
  | 12 => tb_ai g 2 f
  | _ => tb_ai g 64 f
def tb_c (g : tb_G) (k : Nat) (f : Nat → Int32) : va_E := if k < 150 then tb_d g (15 * (k / 15)) (k % 15) f else tb_x g (k - 150) f
def tb_W (g : tb_G) (z : tb_M) : va_W := (List.range 164).map (fun k => (tb_ad g k, tb_c g k (z k)))
theorem tb_Wg (g : tb_G) (z : tb_M) {k : Nat} (hk : k < 164) : (tb_W g z)[k]? = some (tb_ad g k, tb_c g k (z k)) := by
  simp [tb_W, hk]
theorem tb_Wn (g : tb_G) (z : tb_M) {k : Nat} (hk : ¬ k < 164) : (tb_W g z)[k]? = none := by
  simp [tb_W]
  omega
theorem tb_Wi {g : tb_G} {z : tb_M} {k : Nat} {q : Nat × va_E} (h : (tb_W g z)[k]? = some q) : k < 164 ∧ q = (tb_ad g k, tb_c g k (z k)) := by
  by_cases hk : k < 164
  · rw [tb_Wg g z hk] at h
    exact ⟨hk, (Option.some.inj h).symm⟩
  · rw [tb_Wn g z hk] at h
    cases h
theorem tb_Wlen (g : tb_G) (z : tb_M) : (tb_W g z).length = 164 := by simp [tb_W]
theorem tb_Ws (g : tb_G) (z z' : tb_M) {k : Nat} {e : va_E} (hk : k < 164) (he : tb_c g k (z' k) = e) (ho : ∀ j, j ≠ k → z' j = z j) : (tb_W g z).set k (tb_ad g k, e) = tb_W g z' := by
  apply List.ext_getElem?
  intro j
  rw [List.getElem?_set]
  by_cases h : k = j
  · subst h
    rw [if_pos rfl, tb_Wlen, if_pos hk, tb_Wg g z' hk, he]
  · rw [if_neg h]
    by_cases hj : j < 164
    · rw [tb_Wg g z hj, tb_Wg g z' hj, ho j (fun e => h e.symm)]
    · rw [tb_Wn g z hj, tb_Wn g z' hj]
-- kinds of cells
def tb_isD (d : Nat) : Prop := ∃ i, i < 10 ∧ d = 15 * i
def tb_isA (a : Nat) : Prop := ∃ d, tb_isD d ∧ (a = d + 2 ∨ a = d + 5 ∨ a = d + 8)
def tb_isS (q : Nat) : Prop := ∃ d, tb_isD d ∧ q = d + 11
def tb_isI (k n : Nat) : Prop := k < 164 ∧ ∀ (g : tb_G) (f : Nat → Int32), tb_c g k f = tb_ai g n f
theorem tb_cd {d c : Nat} (h : tb_isD d) (hc : c < 15) : d + c < 164 ∧ ∀ (g : tb_G) (f : Nat → Int32), tb_c g (d + c) f = tb_d g d c f := by
  obtain ⟨i, hi, rfl⟩ := h
  refine ⟨by omega, fun g f => ?_⟩
  have h1 : (15 * i + c) / 15 = i := by omega
  have h2 : (15 * i + c) % 15 = c := by omega
  unfold tb_c
  rw [if_pos (by omega), h1, h2]
theorem tb_Dc {d : Nat} (h : tb_isD d) : d < 164 ∧ ∀ (g : tb_G) (f : Nat → Int32), tb_c g d f = tb_dev g d f := tb_cd (c := 0) h (by decide)
theorem tb_iset {d : Nat} (h : tb_isD d) : tb_isI (d + 1) 3 := tb_cd (c := 1) h (by decide)
theorem tb_A1 {d : Nat} (h : tb_isD d) : tb_isA (d + 2) := ⟨d, h, Or.inl rfl⟩
theorem tb_A2 {d : Nat} (h : tb_isD d) : tb_isA (d + 5) := ⟨d, h, Or.inr (Or.inl rfl)⟩
theorem tb_A3 {d : Nat} (h : tb_isD d) : tb_isA (d + 8) := ⟨d, h, Or.inr (Or.inr rfl)⟩
theorem tb_S1 {d : Nat} (h : tb_isD d) : tb_isS (d + 11) := ⟨d, h, rfl⟩
theorem tb_Ac {a : Nat} (h : tb_isA a) : a < 164 ∧ ∀ (g : tb_G) (f : Nat → Int32), tb_c g a f = tb_area g a f := by
  obtain ⟨d, hd, rfl | rfl | rfl⟩ := h
  · exact tb_cd (c := 2) hd (by decide)
  · exact tb_cd (c := 5) hd (by decide)
  · exact tb_cd (c := 8) hd (by decide)
theorem tb_iw {a : Nat} (h : tb_isA a) : tb_isI (a + 1) 32 := by
  obtain ⟨d, hd, rfl | rfl | rfl⟩ := h
  · exact tb_cd (c := 3) hd (by decide)
  · exact tb_cd (c := 6) hd (by decide)
  · exact tb_cd (c := 9) hd (by decide)
theorem tb_iv {a : Nat} (h : tb_isA a) : tb_isI (a + 2) 8 := by
  obtain ⟨d, hd, rfl | rfl | rfl⟩ := h
  · exact tb_cd (c := 4) hd (by decide)
  · exact tb_cd (c := 7) hd (by decide)
  · exact tb_cd (c := 10) hd (by decide)
theorem tb_Sc {q : Nat} (h : tb_isS q) : q < 164 ∧ ∀ (g : tb_G) (f : Nat → Int32), tb_c g q f = tb_sts g q f := by
  obtain ⟨d, hd, rfl⟩ := h
  exact tb_cd (c := 11) hd (by decide)
theorem tb_s1 {q : Nat} (h : tb_isS q) : tb_isI (q + 1) 12 := by
  obtain ⟨d, hd, rfl⟩ := h
  exact tb_cd (c := 12) hd (by decide)
theorem tb_s2 {q : Nat} (h : tb_isS q) : tb_isI (q + 2) 12 := by
  obtain ⟨d, hd, rfl⟩ := h
  exact tb_cd (c := 13) hd (by decide)
theorem tb_s3 {q : Nat} (h : tb_isS q) : tb_isI (q + 3) 12 := by
  obtain ⟨d, hd, rfl⟩ := h
  exact tb_cd (c := 14) hd (by decide)
theorem tb_D0 : tb_isD 0 := ⟨0, by decide, rfl⟩
theorem tb_D15 : tb_isD 15 := ⟨1, by decide, rfl⟩
theorem tb_DS {j : Nat} (h : j < 2) : tb_isD (30 + 15 * j) := ⟨2 + j, by omega, by omega⟩
theorem tb_DH {j : Nat} (h : j < 6) : tb_isD (60 + 15 * j) := ⟨4 + j, by omega, by omega⟩
theorem tb_Tc : 150 < 164 ∧ ∀ (g : tb_G) (f : Nat → Int32), tb_c g 150 f = tb_x g 0 f := ⟨by decide, fun _ _ => rfl⟩
theorem tb_Hc : 153 < 164 ∧ ∀ (g : tb_G) (f : Nat → Int32), tb_c g 153 f = tb_x g 3 f := ⟨by decide, fun _ _ => rfl⟩
theorem tb_Pc : 155 < 164 ∧ ∀ (g : tb_G) (f : Nat → Int32), tb_c g 155 f = tb_x g 5 f := ⟨by decide, fun _ _ => rfl⟩
theorem tb_Mc : 157 < 164 ∧ ∀ (g : tb_G) (f : Nat → Int32), tb_c g 157 f = tb_x g 7 f := ⟨by decide, fun _ _ => rfl⟩
theorem tb_i156 : tb_isI 156 64 := ⟨by decide, fun _ _ => rfl⟩
theorem tb_i158 : tb_isI 158 139 := ⟨by decide, fun _ _ => rfl⟩
theorem tb_i159 : tb_isI 159 139 := ⟨by decide, fun _ _ => rfl⟩
theorem tb_i160 : tb_isI 160 834 := ⟨by decide, fun _ _ => rfl⟩
theorem tb_i161 : tb_isI 161 278 := ⟨by decide, fun _ _ => rfl⟩
theorem tb_i162 : tb_isI 162 2 := ⟨by decide, fun _ _ => rfl⟩
theorem tb_i163 : tb_isI 163 64 := ⟨by decide, fun _ _ => rfl⟩
-- the memory's updates
theorem tb_up_s (z : tb_M) (k j : Nat) (v : Int32) : tb_up z k j v k j = v := by simp [tb_up]
theorem tb_up_k (z : tb_M) {k a : Nat} (j : Nat) (v : Int32) (h : a ≠ k) : tb_up z k j v a = z a := by
  funext b
  simp [tb_up, h]
theorem tb_up_j (z : tb_M) (k : Nat) {j b : Nat} (v : Int32) (h : b ≠ j) : tb_up z k j v k b = z k b := by simp [tb_up, h]
theorem tb_up_row (z : tb_M) (k j : Nat) (v : Int32) : tb_up z k j v k = upd (z k) j v := by
  funext b
  by_cases h : b = j <;> simp [tb_up, upd, h]
theorem tb_cp_k (z : tb_M) {src dst a : Nat} (n : Nat) (h : a ≠ dst) : tb_cp z src dst n a = z a := by
  funext b
  simp [tb_cp, h]
-- what the machine says of the classes; it stays while the machine runs
def tb_inj (g : tb_G) : Prop := ∀ i j : Nat, i < 164 → j < 164 → tb_ad g i = tb_ad g j → i = j
def tb_N (U : State) : Prop := va_Nw (.methodLinkNest RX0 55 yX5_isWithin RX5) U ∧ va_Nw (.methodLinkNest RX0 59 yX5_sumWith RX5) U ∧ va_Nw (.methodLinkNest RX3 17 yX5_isWithin RX5) U ∧ va_Nw (.methodLinkNest RX3 36 yX5_sumWith RX5) U
def tb_A (g : tb_G) : Nat → Prop := fun q => ∃ k, k < 164 ∧ q = tb_ad g k
def tb_most (j : Nat) : Value := if j = 0 then .int (nI 9) else if j = 1 then .int (nI 99) else .int (nI 60)
/-- the class's own table of the settings' greatest values: it is written nowhere -/
def tb_T (g : tb_G) (U : State) (H : Heap) : Prop := ∃ t : Nat, va_Z "TrialBoots" "MOST_SETTING" "[I" (.ref t) (tb_A g) U H ∧ va_T .int t 3 tb_most (tb_A g) U H
def tb_K (g : tb_G) (U : State) : Prop := va_K (g.1, g.2.1) vwCl [(g.2.2.2.1, .int), (g.2.2.2.2.1, .boolean), (g.2.2.2.2.2, .object RX1)] U ∧ tb_inj g ∧ tb_N U ∧ tb_T g U U.heap
theorem tb_T.go {g : tb_G} {s U : State} {H : Heap} {locs : List Loc} (hvm : s.vm.Alike U.vm) (hS : va_S (tb_A g) s.heap H locs) (h : tb_T g s s.heap) : tb_T g U H := by
  obtain ⟨t, h1, h2⟩ := h
  exact ⟨t, (h1.kept hS.2.1).moved hvm, (h2.kept hS.2.1).moved hvm⟩
theorem tb_K.warm {g : tb_G} {s U : State} {H : Heap} {locs : List Loc} (hU : U.heap = H) (hS : va_S (tb_A g) s.heap H locs) (hW : s.WarmedH U.vm) (h : tb_K g s) : tb_K g U := ⟨va_K.moved hW.alike h.1, h.2.1, ⟨va_Nw.warmM hW h.2.2.1.1, va_Nw.warmM hW h.2.2.1.2.1, va_Nw.warmM hW h.2.2.1.2.2.1, va_Nw.warmM hW h.2.2.1.2.2.2⟩, by rw [hU]; exact tb_T.go hW.alike hS h.2.2.2⟩
theorem tb_K.same {g : tb_G} {s U : State} (hvm : s.vm = U.vm) (hh : U.heap = s.heap) (h : tb_K g s) : tb_K g U := ⟨va_K.moved (by rw [hvm]; exact Vm.Alike.refl _) h.1, h.2.1, ⟨va_Nw.same rfl hvm h.2.2.1.1, va_Nw.same rfl hvm h.2.2.1.2.1, va_Nw.same rfl hvm h.2.2.1.2.2.1, va_Nw.same rfl hvm h.2.2.1.2.2.2⟩, by rw [hh]; exact tb_T.go (locs := []) (by rw [hvm]; exact Vm.Alike.refl _) va_S.rf h.2.2.2⟩
theorem tb_Dj {g : tb_G} (hi : tb_inj g) (z : tb_M) : va_D (tb_A g) (tb_W g z) := by
  refine ⟨fun i j p q hp hq hpq => ?_, fun k q hq => ?_⟩
  · obtain ⟨h1, rfl⟩ := tb_Wi hp
    obtain ⟨h2, rfl⟩ := tb_Wi hq
    exact hi i j h1 h2 hpq
  · obtain ⟨h1, rfl⟩ := tb_Wi hq
    exact ⟨k, h1, rfl⟩
def tb_H (g : tb_G) (H0 : Heap) (z : tb_M) (H : Heap) (locs : List Loc) : Prop := va_P (g.1, g.2.1) vwCl (tb_W g z) H ∧ va_S (tb_A g) H0 H locs
def tb_X (own : String) (cc : ByteArray) (nL : Nat) (g : tb_G) (p : Program) (c : Code) (s : State) (m : MethodId) (args : Array Value) : Prop :=
  p.tables.exec = Jvm.exec ∧ c.code = cc ∧ (∀ w ∈ wsL_law, w.before args s = true) ∧ s.vm.findClass own = some m.cls ∧ tb_K g s ∧ c.maxLocals = nL
