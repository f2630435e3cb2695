/-! THE START OF THE LAW: what the tables say of the classes -/
theorem lw_kn {s : State} {args : Array Value} (hts : ∀ w ∈ lw_tbl, w.before args s = true) : ∃ D : va_G, ∀ (c : Nat) (q : vw_C), vwCl[c]? = some q → u_Kn s q.1 q.2.1 q.2.2 (D.1 c) (D.2 c) := by
  have h : ∀ c : Nat, ∃ D : ClassId × (Nat → Nat), ∀ q : vw_C, vwCl[c]? = some q → u_Kn s q.1 q.2.1 q.2.2 D.1 D.2 := by
    intro c
    by_cases hc : c < 7
    · rcases (show c = 0 ∨ c = 1 ∨ c = 2 ∨ c = 3 ∨ c = 4 ∨ c = 5 ∨ c = 6 by omega) with rfl | rfl | rfl | rfl | rfl | rfl | rfl
      · obtain ⟨cC, iS, k⟩ := u_known (C := RX0) (T := TX0) (N := 8) (n := 8) hts inX0 (hts _ (List.mem_of_getElem? (i := 52) (by decide +kernel)))
        exact ⟨(cC, iS), fun q hq => by cases hq; exact k⟩
      · obtain ⟨cC, iS, k⟩ := u_known (C := RX1) (T := TX1) (N := 10) (n := 10) hts inX1 (hts _ (List.mem_of_getElem? (i := 46) (by decide +kernel)))
        exact ⟨(cC, iS), fun q hq => by cases hq; exact k⟩
      · obtain ⟨cC, iS, k⟩ := u_known (C := RX2) (T := TX2) (N := 3) (n := 3) hts inX2 (hts _ (List.mem_of_getElem? (i := 187) (by decide +kernel)))
        exact ⟨(cC, iS), fun q hq => by cases hq; exact k⟩
      · obtain ⟨cC, iS, k⟩ := u_known (C := RX3) (T := TX3) (N := 2) (n := 2) hts inX3 (hts _ (List.mem_of_getElem? (i := 207) (by decide +kernel)))
        exact ⟨(cC, iS), fun q hq => by cases hq; exact k⟩
      · obtain ⟨cC, iS, k⟩ := u_known (C := RX4) (T := TX4) (N := 6) (n := 6) hts inX4 (hts _ (List.mem_of_getElem? (i := 95) (by decide +kernel)))
        exact ⟨(cC, iS), fun q hq => by cases hq; exact k⟩
      · obtain ⟨cC, iS, k⟩ := u_known (C := RX5) (T := TX5) (N := 6) (n := 6) hts inX5 (hts _ (List.mem_of_getElem? (i := 38) (by decide +kernel)))
        exact ⟨(cC, iS), fun q hq => by cases hq; exact k⟩
      · obtain ⟨cC, iS, k⟩ := u_known (C := RX6) (T := TX6) (N := 8) (n := 8) hts inX6 (hts _ (List.mem_of_getElem? (i := 512) (by decide +kernel)))
        exact ⟨(cC, iS), fun q hq => by cases hq; exact k⟩
    · refine ⟨(0, fun _ => 0), fun q hq => ?_⟩
      have h1 := (List.getElem?_eq_some_iff.mp hq).1
      exact absurd h1 hc
  exact ⟨(fun c => (Classical.choose (h c)).1, fun c => (Classical.choose (h c)).2), fun c q hq => Classical.choose_spec (h c) q hq⟩
theorem lw_k0 {s : State} {args : Array Value} (hts : ∀ w ∈ lw_tbl, w.before args s = true) : ∃ g : tb_G, ∀ ad : Nat → Nat, tc_K (tc_ga g ad) s := by
  obtain ⟨D, hD⟩ := lw_kn hts
  obtain ⟨cI, kI, pI, i1, i2, i3⟩ := Cond.arrayClass_spec (hts _ (wsL_law_in _ wm_33))
  obtain ⟨cZ, kZ, pZ, z1, z2, z3⟩ := Cond.arrayClass_spec (hts _ (wsL_law_in _ wm_19))
  have hAO : (Cond.arrayOver (.object RX1)).before args s = true := hts _ (List.mem_of_getElem? (i := 185) (by decide +kernel))
  obtain ⟨pO, cO, kO, o1, o2, o3, o4, o5⟩ := Cond.arrayOver_spec hAO
  refine ⟨(D.1, D.2, fun _ => 0, cI, cZ, cO), fun ad => ⟨⟨hD, fun k q hq => ?_⟩, ⟨va_Nw.of rfl (hts _ (List.mem_of_getElem? (i := 137) (by decide +kernel))), va_Nw.of rfl (hts _ (List.mem_of_getElem? (i := 144) (by decide +kernel))), va_Nw.of rfl (hts _ (List.mem_of_getElem? (i := 330) (by decide +kernel))), va_Nw.of rfl (hts _ (List.mem_of_getElem? (i := 452) (by decide +kernel)))⟩, va_Nw.of rfl (hts _ (List.mem_of_getElem? (i := 96) (by decide +kernel))), va_Nw.of rfl (hts _ (List.mem_of_getElem? (i := 208) (by decide +kernel))), va_AO.of hAO⟩⟩
  by_cases hk : k < 3
  · rcases (show k = 0 ∨ k = 1 ∨ k = 2 by omega) with rfl | rfl | rfl
    · cases hq
      exact ⟨fun n z => ⟨fun k h => (by cases h), kI, i2, pI, i3⟩, i1⟩
    · cases hq
      exact ⟨fun n z => ⟨fun k h => (by cases h), kZ, z2, pZ, z3⟩, z1⟩
    · cases hq
      exact ⟨fun n z => ⟨fun k h => (by cases h), kO, o3, pO, o4⟩, kO, pO, o3, o4, o1, o5⟩
  · have h1 := (List.getElem?_eq_some_iff.mp hq).1
    exact absurd h1 hk
theorem lw_t0 {s : State} {args : Array Value} (hts : ∀ w ∈ lw_tbl, w.before args s = true) (hgv : (Jvm.Cond.and given_1 narrow_1).before args s = true) {g : tb_G} (hA : ∀ q : Nat, q < s.heap.size → ¬ tb_A g q) : tb_T g s s.heap := by
  have hs := flat_of_before _ hgv
  have e0 : (Term.elem (.static "TrialBoots" "MOST_SETTING" "[I") (.int 0)).eval args s none [] s = some (.int 9) := va_eqt (hs _ (by decide +kernel))
  have e1 : (Term.elem (.static "TrialBoots" "MOST_SETTING" "[I") (.int 1)).eval args s none [] s = some (.int 99) := va_eqt (hs _ (by decide +kernel))
  have e2 : (Term.elem (.static "TrialBoots" "MOST_SETTING" "[I") (.int 2)).eval args s none [] s = some (.int 60) := va_eqt (hs _ (by decide +kernel))
  have eN : (Term.length (.static "TrialBoots" "MOST_SETTING" "[I")).eval args s none [] s = some (.int 3) := va_eqt (hs _ (by decide +kernel))
  obtain ⟨t, ht, hT⟩ := va_Tof (tm := .static "TrialBoots" "MOST_SETTING" "[I") (ty := .int) (N := 3) (f := tb_most) (A := tb_A g) (by decide) (hs _ (by decide +kernel)) eN (fun j hj => by
    rcases (show j = 0 ∨ j = 1 ∨ j = 2 by omega) with rfl | rfl | rfl
    · exact e0
    · exact e1
    · exact e2) hA
  exact ⟨t, va_Zof (hts _ (List.mem_of_getElem? (i := 245) (by decide +kernel))) (hts _ (List.mem_of_getElem? (i := 28) (by decide +kernel))) ht hA, hT⟩
