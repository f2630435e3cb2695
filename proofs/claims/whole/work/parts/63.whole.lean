/-! THE WHOLE WORLD: the two constructors' cells are the 164 cells -/
def tc_adf (x : Nat → Nat) (ad0 ad1 ad2 ad3 : Nat → Nat) (ads : Nat → Nat → Nat) (k : Nat) : Nat := if k < 15 then ad0 k else if k < 30 then ad1 (k - 15) else if k < 45 then ad2 (k - 30) else if k < 60 then ad3 (k - 45) else if k < 150 then ads ((k - 60) / 15) ((k - 60) % 15) else x (k - 150)
def tc_zf (x : Nat → Nat → Int32) (z0 z1 z2 z3 : Nat → Nat → Int32) (zs : Nat → Nat → Nat → Int32) (k : Nat) : Nat → Int32 := if k < 15 then z0 k else if k < 30 then z1 (k - 15) else if k < 45 then z2 (k - 30) else if k < 60 then z3 (k - 45) else if k < 150 then zs ((k - 60) / 15) ((k - 60) % 15) else x (k - 150)
section TCWORLD
variable {x : Nat → Nat} {ad0 ad1 ad2 ad3 : Nat → Nat} {ads : Nat → Nat → Nat} {y : Nat → Nat → Int32} {z0 z1 z2 z3 : Nat → Nat → Int32} {zs : Nat → Nat → Nat → Int32}
theorem tc_ad_0 {c : Nat} (hc : c < 15) : tc_adf x ad0 ad1 ad2 ad3 ads (0 + c) = ad0 c ∧ tc_zf y z0 z1 z2 z3 zs (0 + c) = z0 c := by
  unfold tc_adf tc_zf
  rw [if_pos (by omega), if_pos (by omega), Nat.zero_add]
  exact ⟨rfl, rfl⟩
theorem tc_ad_1 {c : Nat} (hc : c < 15) : tc_adf x ad0 ad1 ad2 ad3 ads (15 + c) = ad1 c ∧ tc_zf y z0 z1 z2 z3 zs (15 + c) = z1 c := by
  unfold tc_adf tc_zf
  rw [if_neg (by omega), if_pos (by omega), if_neg (by omega), if_pos (by omega), show 15 + c - 15 = c by omega]
  exact ⟨rfl, rfl⟩
theorem tc_ad_2 {c : Nat} (hc : c < 15) : tc_adf x ad0 ad1 ad2 ad3 ads (30 + c) = ad2 c ∧ tc_zf y z0 z1 z2 z3 zs (30 + c) = z2 c := by
  unfold tc_adf tc_zf
  rw [if_neg (by omega), if_neg (by omega), if_pos (by omega), if_neg (by omega), if_neg (by omega), if_pos (by omega), show 30 + c - 30 = c by omega]
  exact ⟨rfl, rfl⟩
theorem tc_ad_3 {c : Nat} (hc : c < 15) : tc_adf x ad0 ad1 ad2 ad3 ads (45 + c) = ad3 c ∧ tc_zf y z0 z1 z2 z3 zs (45 + c) = z3 c := by
  unfold tc_adf tc_zf
  rw [if_neg (by omega), if_neg (by omega), if_neg (by omega), if_pos (by omega), if_neg (by omega), if_neg (by omega), if_neg (by omega), if_pos (by omega), show 45 + c - 45 = c by omega]
  exact ⟨rfl, rfl⟩
theorem tc_ad_4 {i c : Nat} (hi : i < 6) (hc : c < 15) : tc_adf x ad0 ad1 ad2 ad3 ads (60 + 15 * i + c) = ads i c ∧ tc_zf y z0 z1 z2 z3 zs (60 + 15 * i + c) = zs i c := by
  unfold tc_adf tc_zf
  rw [if_neg (by omega), if_neg (by omega), if_neg (by omega), if_neg (by omega), if_pos (by omega), if_neg (by omega), if_neg (by omega), if_neg (by omega), if_neg (by omega), if_pos (by omega), show (60 + 15 * i + c - 60) / 15 = i by omega, show (60 + 15 * i + c - 60) % 15 = c by omega]
  exact ⟨rfl, rfl⟩
theorem tc_ad_5 {c : Nat} : tc_adf x ad0 ad1 ad2 ad3 ads (150 + c) = x c ∧ tc_zf y z0 z1 z2 z3 zs (150 + c) = y c := by
  unfold tc_adf tc_zf
  rw [if_neg (by omega), if_neg (by omega), if_neg (by omega), if_neg (by omega), if_neg (by omega), if_neg (by omega), if_neg (by omega), if_neg (by omega), if_neg (by omega), if_neg (by omega), show 150 + c - 150 = c by omega]
  exact ⟨rfl, rfl⟩
end TCWORLD
