/-! THE FIRST MEMORY keeps what must hold -/
theorem tb_R0 {z : tb_M} {d : Nat} {f : Nat → Int32} (h : tc_Z (fun c => z (d + c))) (hf : tc_ZM f) : tb_R z d f 0 ∧ tb_gold z d := by
  obtain ⟨s0, s1, s2, r5, r6, ar, st, rw12, g0, g2, g3, w0, w1, wr⟩ := h
  obtain ⟨f0, f1, f2, f3, fw, fz⟩ := hf
  have z0 : ∀ j, 4 ≤ j → j < 11 → f j = nI 0 := fun j h1 h2 => fz j h1 (by omega) (fun r _ w _ => by omega)
  have zs : ∀ r, r < 2 → ∀ p, p < 14 → f (11 + 46 * r + p) = nI 0 := fun r hr p hp => fz _ (by omega) (by omega) (fun r' _ w _ => by omega)
  refine ⟨⟨?_, ⟨⟨3, f0, by decide, by decide⟩, ⟨10, f1, by decide, by decide⟩, ⟨20, f2, by decide, by decide⟩, ⟨2, f3, by decide⟩, ⟨0, z0 4 (by decide) (by decide), by decide⟩, fun r hr => ⟨0, 0, 0, zs r hr 2 (by decide), by decide, zs r hr 5 (by decide), by decide, zs r hr 4 (by decide), by decide, fun _ => rfl, fun q hq => ?_⟩⟩, 0, 0, z0 7 (by decide) (by decide), by decide, z0 10 (by decide) (by decide), rfl, fun b c hb _ => absurd hb (Nat.not_lt_zero b)⟩, g0, g2, g3, w0, w1, wr⟩
  · refine tb_R1.of (fun j hj => ?_) ?_ ?_ ?_ ?_ ?_ ?_ ?_ ?_ (fun r hr => ?_)
    · rcases (show j = 0 ∨ j = 1 ∨ j = 2 by omega) with rfl | rfl | rfl
      · exact f0.trans s0.symm
      · exact f1.trans s1.symm
      · exact f2.trans s2.symm
    · exact f3.trans r5.symm
    · exact (z0 4 (by decide) (by decide)).trans (r6 6 (by decide) (by decide)).symm
    · exact (z0 5 (by decide) (by decide)).trans (r6 7 (by decide) (by decide)).symm
    · exact (z0 6 (by decide) (by decide)).trans (r6 8 (by decide) (by decide)).symm
    · exact (z0 7 (by decide) (by decide)).trans (st 0 (by decide)).symm
    · exact (z0 8 (by decide) (by decide)).trans (st 1 (by decide)).symm
    · exact (z0 9 (by decide) (by decide)).trans (r6 9 (by decide) (by decide)).symm
    · exact (z0 10 (by decide) (by decide)).trans (st 2 (by decide)).symm
    · rcases (show r = 0 ∨ r = 1 by omega) with rfl | rfl
      · obtain ⟨a1, a2, a3⟩ := ar 2 (Or.inl rfl)
        exact ⟨fun p hp => (zs 0 hr p (by omega)).trans (a1 p hp).symm, fun i hi => (fw 0 hr i hi).trans (a2 i hi).symm, fun i hi => (zs 0 hr (6 + i) (by omega)).trans (a3 i hi).symm⟩
      · obtain ⟨a1, a2, a3⟩ := ar 5 (Or.inr rfl)
        exact ⟨fun p hp => (zs 1 hr p (by omega)).trans (a1 p hp).symm, fun i hi => (fw 1 hr i hi).trans (a2 i hi).symm, fun i hi => (zs 1 hr (6 + i) (by omega)).trans (a3 i hi).symm⟩
  · rw [zs r hr (6 + q) (by omega)]
    decide
theorem tb_J0 {z : tb_M} (hd : ∀ i, i < 10 → tc_Z (fun c => z (15 * i + c))) (hf : tc_ZM (z 158)) (h1 : z 153 0 = nI 0 ∧ z 153 1 = nI 0) (h2 : ∀ q, q < 2 → z 152 q = nI 0 ∧ z 162 q = nI 0) (h3 : z 155 0 = nI 0 ∧ z 157 3 = nI 0 ∧ z 157 7 = nI 0) : tb_J z z 0 := by
  refine ⟨fun d hd' => ?_, (tb_R0 (d := 0) (hd 0 (by decide)) hf).1, ⟨0, 0, h1.2, by decide, h1.1, h3.2.1, by decide, by decide, fun i hi => absurd hi (Nat.not_lt_zero i)⟩, fun q hq => ⟨(h2 q hq).1.trans (h2 q hq).2.symm, fun c => absurd (h2 q hq).1 c⟩, 0, h3.1, h3.2.2, by decide, fun i hi => absurd hi (Nat.not_lt_zero i)⟩
  obtain ⟨i, hi, rfl⟩ := hd'
  exact (tb_R0 (hd i hi) hf).2
