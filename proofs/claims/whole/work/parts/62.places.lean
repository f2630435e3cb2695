/-! THE WHOLE WORLD, by places -/
theorem tc_in1 {X Y : va_W} {i : Nat} {q : Nat × va_E} (h : X[i]? = some q) : (X ++ Y)[i]? = some q := by
  rw [List.getElem?_append_left (List.getElem?_eq_some_iff.mp h).1]
  exact h
theorem tc_in2 {X Y : va_W} {i n : Nat} {q : Nat × va_E} (hn : X.length = n) (h : Y[i]? = some q) : (X ++ Y)[n + i]? = some q := by
  rw [List.getElem?_append_right (by omega), hn, show n + i - n = i by omega]
  exact h
def tc_po (k : Nat) : Nat := if k < 30 then k + 1 else if k < 60 then k + 2 else if k < 150 then k + 5 else if k = 150 then 0 else if k = 151 then 31 else if k < 155 then k - 90 else k
theorem tc_po_i : ∀ i, i < 164 → ∀ j, j < 164 → tc_po i = tc_po j → i = j := by
  intro i hi j hj h
  unfold tc_po at h
  split at h <;> split at h <;> (repeat' split at h) <;> omega
