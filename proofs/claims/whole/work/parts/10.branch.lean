/-! branches on truth values, on counted numbers -/
section TBBR
variable {p : Program} {l : Launch} {e : Env} {R : Room} {s : State} {m : MethodId} {args : Array Value} {below : List Frame} {meth : Method} {c : Code} {H : Heap} {locs : List Loc} {cells slots : Nat} {Q : State → Prop}
variable {cc : ByteArray} {pc nLc tgt : Nat} {ls : Array Slot} {rest : List Value} {g : tb_G} {own : String} {off : Int} {a b : Nat}
theorem tb_top {x x2 : Int32} (h : x = x2) (kk : W p l e R s m args below meth c H locs cells slots Q (F0 m pc ls (.int x2 :: rest))) : W p l e R s m args below meth c H locs cells slots Q (F0 m pc ls (.int x :: rest)) := by
  subst h
  exact kk
theorem tb_jbeq {q : Prop} [Decidable q] (X : tb_X own cc nLc g p c s m args) (hdg : decode cc pc = .ok (.ifCond .eq off, 3)) (ht : (pc : Int) + off = (tgt : Int)) (kt : ¬ q → W p l e R s m args below meth c H locs cells slots Q (F0 m tgt ls rest)) (kf : q → W p l e R s m args below meth c H locs cells slots Q (F0 m (pc + 3) ls rest)) : W p l e R s m args below meth c H locs cells slots Q (F0 m pc ls (.int (tb_b q) :: rest)) :=
  lv_if_eq X.1 X.2.1 hdg ht (fun h => kt (tb_b_0.mp h)) (fun h => kf (Decidable.byContradiction fun n => h (tb_b_0.mpr n)))
theorem tb_jbne {q : Prop} [Decidable q] (X : tb_X own cc nLc g p c s m args) (hdg : decode cc pc = .ok (.ifCond .ne off, 3)) (ht : (pc : Int) + off = (tgt : Int)) (kt : q → W p l e R s m args below meth c H locs cells slots Q (F0 m tgt ls rest)) (kf : ¬ q → W p l e R s m args below meth c H locs cells slots Q (F0 m (pc + 3) ls rest)) : W p l e R s m args below meth c H locs cells slots Q (F0 m pc ls (.int (tb_b q) :: rest)) :=
  lv_if_ne X.1 X.2.1 hdg ht (fun h => kt (Decidable.byContradiction fun n => h (tb_b_0.mpr n))) (fun h => kf (tb_b_0.mp h))
theorem tb_nge (X : tb_X own cc nLc g p c s m args) (ha : a < 2 ^ 31) (hb : b < 2 ^ 31) (hdg : decode cc pc = .ok (.if_icmp .ge off, 3)) (ht : (pc : Int) + off = (tgt : Int)) (kt : b ≤ a → W p l e R s m args below meth c H locs cells slots Q (F0 m tgt ls rest)) (kf : ¬ b ≤ a → W p l e R s m args below meth c H locs cells slots Q (F0 m (pc + 3) ls rest)) : W p l e R s m args below meth c H locs cells slots Q (F0 m pc ls (.int (nI b) :: .int (nI a) :: rest)) :=
  lv_icmp_ge X.1 X.2.1 hdg ht (fun h => kt ((nI_leI hb ha).mp h)) (fun h => kf (fun n => h ((nI_leI hb ha).mpr n)))
theorem tb_nle (X : tb_X own cc nLc g p c s m args) (ha : a < 2 ^ 31) (hb : b < 2 ^ 31) (hdg : decode cc pc = .ok (.if_icmp .le off, 3)) (ht : (pc : Int) + off = (tgt : Int)) (kt : a ≤ b → W p l e R s m args below meth c H locs cells slots Q (F0 m tgt ls rest)) (kf : ¬ a ≤ b → W p l e R s m args below meth c H locs cells slots Q (F0 m (pc + 3) ls rest)) : W p l e R s m args below meth c H locs cells slots Q (F0 m pc ls (.int (nI b) :: .int (nI a) :: rest)) :=
  lv_icmp_le X.1 X.2.1 hdg ht (fun h => kt ((nI_leI ha hb).mp h)) (fun h => kf (fun n => h ((nI_leI ha hb).mpr n)))
theorem tb_nlt (X : tb_X own cc nLc g p c s m args) (ha : a < 2 ^ 31) (hb : b < 2 ^ 31) (hdg : decode cc pc = .ok (.if_icmp .lt off, 3)) (ht : (pc : Int) + off = (tgt : Int)) (kt : a < b → W p l e R s m args below meth c H locs cells slots Q (F0 m tgt ls rest)) (kf : ¬ a < b → W p l e R s m args below meth c H locs cells slots Q (F0 m (pc + 3) ls rest)) : W p l e R s m args below meth c H locs cells slots Q (F0 m pc ls (.int (nI b) :: .int (nI a) :: rest)) :=
  lv_icmp_lt X.1 X.2.1 hdg ht (fun h => kt ((nI_ltI ha hb).mp h)) (fun h => kf (fun n => h ((nI_ltI ha hb).mpr n)))
theorem tb_ngt (X : tb_X own cc nLc g p c s m args) (ha : a < 2 ^ 31) (hb : b < 2 ^ 31) (hdg : decode cc pc = .ok (.if_icmp .gt off, 3)) (ht : (pc : Int) + off = (tgt : Int)) (kt : b < a → W p l e R s m args below meth c H locs cells slots Q (F0 m tgt ls rest)) (kf : ¬ b < a → W p l e R s m args below meth c H locs cells slots Q (F0 m (pc + 3) ls rest)) : W p l e R s m args below meth c H locs cells slots Q (F0 m pc ls (.int (nI b) :: .int (nI a) :: rest)) :=
  lv_icmp_gt X.1 X.2.1 hdg ht (fun h => kt ((nI_ltI hb ha).mp h)) (fun h => kf (fun n => h ((nI_ltI hb ha).mpr n)))
theorem tb_neq (X : tb_X own cc nLc g p c s m args) (ha : a < 2 ^ 31) (hb : b < 2 ^ 31) (hdg : decode cc pc = .ok (.if_icmp .eq off, 3)) (ht : (pc : Int) + off = (tgt : Int)) (kt : a = b → W p l e R s m args below meth c H locs cells slots Q (F0 m tgt ls rest)) (kf : ¬ a = b → W p l e R s m args below meth c H locs cells slots Q (F0 m (pc + 3) ls rest)) : W p l e R s m args below meth c H locs cells slots Q (F0 m pc ls (.int (nI b) :: .int (nI a) :: rest)) :=
  lv_icmp_eq X.1 X.2.1 hdg ht (fun h => kt ((nI_eq ha hb).mp h)) (fun h => kf (fun n => h ((nI_eq ha hb).mpr n)))
theorem tb_nne (X : tb_X own cc nLc g p c s m args) (ha : a < 2 ^ 31) (hb : b < 2 ^ 31) (hdg : decode cc pc = .ok (.if_icmp .ne off, 3)) (ht : (pc : Int) + off = (tgt : Int)) (kt : ¬ a = b → W p l e R s m args below meth c H locs cells slots Q (F0 m tgt ls rest)) (kf : a = b → W p l e R s m args below meth c H locs cells slots Q (F0 m (pc + 3) ls rest)) : W p l e R s m args below meth c H locs cells slots Q (F0 m pc ls (.int (nI b) :: .int (nI a) :: rest)) :=
  lv_icmp_ne X.1 X.2.1 hdg ht (fun h => kt (fun n => h ((nI_eq ha hb).mpr n))) (fun h => kf ((nI_eq ha hb).mp h))
theorem tb_zeq (X : tb_X own cc nLc g p c s m args) (ha : a < 2 ^ 31) (hdg : decode cc pc = .ok (.ifCond .eq off, 3)) (ht : (pc : Int) + off = (tgt : Int)) (kt : a = 0 → W p l e R s m args below meth c H locs cells slots Q (F0 m tgt ls rest)) (kf : ¬ a = 0 → W p l e R s m args below meth c H locs cells slots Q (F0 m (pc + 3) ls rest)) : W p l e R s m args below meth c H locs cells slots Q (F0 m pc ls (.int (nI a) :: rest)) :=
  lv_if_eq X.1 X.2.1 hdg ht (fun h => kt ((nI_eq ha (by decide)).mp (h.trans nI_0.symm))) (fun h => kf (fun n => h (by rw [n]; exact nI_0)))
theorem tb_zne (X : tb_X own cc nLc g p c s m args) (ha : a < 2 ^ 31) (hdg : decode cc pc = .ok (.ifCond .ne off, 3)) (ht : (pc : Int) + off = (tgt : Int)) (kt : ¬ a = 0 → W p l e R s m args below meth c H locs cells slots Q (F0 m tgt ls rest)) (kf : a = 0 → W p l e R s m args below meth c H locs cells slots Q (F0 m (pc + 3) ls rest)) : W p l e R s m args below meth c H locs cells slots Q (F0 m pc ls (.int (nI a) :: rest)) :=
  lv_if_ne X.1 X.2.1 hdg ht (fun h => kt (fun n => h (by rw [n]; exact nI_0))) (fun h => kf ((nI_eq ha (by decide)).mp (h.trans nI_0.symm)))
theorem tb_zgt (X : tb_X own cc nLc g p c s m args) (ha : a < 2 ^ 31) (hdg : decode cc pc = .ok (.ifCond .gt off, 3)) (ht : (pc : Int) + off = (tgt : Int)) (kt : 0 < a → W p l e R s m args below meth c H locs cells slots Q (F0 m tgt ls rest)) (kf : ¬ 0 < a → W p l e R s m args below meth c H locs cells slots Q (F0 m (pc + 3) ls rest)) : W p l e R s m args below meth c H locs cells slots Q (F0 m pc ls (.int (nI a) :: rest)) :=
  lv_if_gt X.1 X.2.1 hdg ht (fun h => kt ((nI_ltI (by decide) ha).mp (by rw [nI_0]; exact h))) (fun h => kf (fun n => h (by have := (nI_ltI (by decide) ha).mpr n; rw [nI_0] at this; exact this)))
theorem tb_zle (X : tb_X own cc nLc g p c s m args) (ha : a < 2 ^ 31) (hdg : decode cc pc = .ok (.ifCond .le off, 3)) (ht : (pc : Int) + off = (tgt : Int)) (kt : a ≤ 0 → W p l e R s m args below meth c H locs cells slots Q (F0 m tgt ls rest)) (kf : ¬ a ≤ 0 → W p l e R s m args below meth c H locs cells slots Q (F0 m (pc + 3) ls rest)) : W p l e R s m args below meth c H locs cells slots Q (F0 m pc ls (.int (nI a) :: rest)) :=
  lv_if_le X.1 X.2.1 hdg ht (fun h => kt ((nI_leI ha (by decide)).mp (by rw [nI_0]; exact h))) (fun h => kf (fun n => h (by have := (nI_leI ha (by decide)).mpr n; rw [nI_0] at this; exact this)))
def tb_ushr (x : Int64) (y : Int32) : Int64 := (x.toUInt64 >>> (y.toInt64.toUInt64 &&& Int64.toUInt64 63)).toInt64
end TBBR
theorem tb_lcmp0 {x y : Int64} : lg_cmp x y = 0 ↔ x = y := by
  unfold lg_cmp
  by_cases h2 : x = y
  · subst h2
    simp
  · constructor
    · intro h
      rw [if_neg h2] at h
      split at h <;> exact absurd h (by decide)
    · intro h
      exact absurd h h2
section TBJL
variable {p : Program} {l : Launch} {e : Env} {R : Room} {s : State} {m : MethodId} {args : Array Value} {below : List Frame} {meth : Method} {c : Code} {H : Heap} {locs : List Loc} {cells slots : Nat} {Q : State → Prop}
variable {cc : ByteArray} {pc nLc tgt : Nat} {ls : Array Slot} {rest : List Value} {g : tb_G} {own : String} {off : Int} {x y : Int64}
theorem tb_jlne (X : tb_X own cc nLc g p c s m args) (hdg : decode cc pc = .ok (.ifCond .ne off, 3)) (ht : (pc : Int) + off = (tgt : Int)) (kt : ¬ x = y → W p l e R s m args below meth c H locs cells slots Q (F0 m tgt ls rest)) (kf : x = y → W p l e R s m args below meth c H locs cells slots Q (F0 m (pc + 3) ls rest)) : W p l e R s m args below meth c H locs cells slots Q (F0 m pc ls (.int (lg_cmp x y) :: rest)) :=
  lv_if_ne X.1 X.2.1 hdg ht (fun h => kt (fun n => h (tb_lcmp0.mpr n))) (fun h => kf (tb_lcmp0.mp h))
theorem tb_jleq (X : tb_X own cc nLc g p c s m args) (hdg : decode cc pc = .ok (.ifCond .eq off, 3)) (ht : (pc : Int) + off = (tgt : Int)) (kt : x = y → W p l e R s m args below meth c H locs cells slots Q (F0 m tgt ls rest)) (kf : ¬ x = y → W p l e R s m args below meth c H locs cells slots Q (F0 m (pc + 3) ls rest)) : W p l e R s m args below meth c H locs cells slots Q (F0 m pc ls (.int (lg_cmp x y) :: rest)) :=
  lv_if_eq X.1 X.2.1 hdg ht (fun h => kt (tb_lcmp0.mp h)) (fun h => kf (fun n => h (tb_lcmp0.mpr n)))
end TBJL
theorem tb_i1 {P q r : Prop} (c : ¬ P) (p : q ↔ r) : (P ∨ q) ↔ r := ⟨fun h => h.elim (fun x => absurd x c) p.mp, fun h => Or.inr (p.mpr h)⟩
theorem tb_i2 {P q r : Prop} (c : ¬ P) (p : q ↔ r) : (¬ P ∧ q) ↔ r := ⟨fun h => p.mp h.2, fun h => ⟨c, p.mpr h⟩⟩
theorem tb_i3 {P q r : Prop} (c : P) (p : q ↔ r) : (P ∧ q) ↔ r := ⟨fun h => p.mp h.2, fun h => ⟨c, p.mpr h⟩⟩
theorem tb_i4 {P q r : Prop} (c : P) (p : q ↔ r) : (¬ P ∨ q) ↔ r := ⟨fun h => h.elim (fun x => absurd c x) p.mp, fun h => Or.inr (p.mpr h)⟩
theorem tb_i5 {P q q2 r : Prop} (c : P) (p : q ↔ r) : ((P ∧ q) ∨ (¬ P ∧ q2)) ↔ r := ⟨fun h => h.elim (fun x => p.mp x.2) (fun x => absurd c x.1), fun h => Or.inl ⟨c, p.mpr h⟩⟩
theorem tb_i6 {P q q2 r : Prop} (c : ¬ P) (p : q2 ↔ r) : ((P ∧ q) ∨ (¬ P ∧ q2)) ↔ r := ⟨fun h => h.elim (fun x => absurd x.1 c) (fun x => p.mp x.2), fun h => Or.inr ⟨c, p.mpr h⟩⟩
