/-! THE WHOLE WORLD: what the two constructors made is the first memory -/
theorem tc_Z.congr {z z' : Nat → Nat → Int32} (h : ∀ c, c < 15 → z' c = z c) (hz : tc_Z z) : tc_Z z' := by
  obtain ⟨s0, s1, s2, r5, r6, ar, st, rw12, g0, g2, g3, w0, w1, wr⟩ := hz
  refine ⟨?_, ?_, ?_, ?_, fun j h1 h2 => ?_, fun k hk => ?_, fun p hp => ?_, fun k h1 h2 i hi => ?_, ?_, ?_, ?_, ?_, ?_, fun i h1 h2 => ?_⟩
  · rw [h 1 (by decide)]
    exact s0
  · rw [h 1 (by decide)]
    exact s1
  · rw [h 1 (by decide)]
    exact s2
  · rw [h 0 (by decide)]
    exact r5
  · rw [h 0 (by decide)]
    exact r6 j h1 h2
  · have hk' : k + 2 < 15 := by omega
    rw [h k (by omega), h (k + 1) (by omega), h (k + 2) hk']
    exact ar k hk
  · rw [h 11 (by decide)]
    exact st p hp
  · rw [h k h2]
    exact rw12 k h1 h2 i hi
  · rw [h 8 (by decide)]
    exact g0
  · rw [h 8 (by decide)]
    exact g2
  · rw [h 8 (by decide), h 9 (by decide)]
    exact g3
  · rw [h 9 (by decide)]
    exact w0
  · rw [h 9 (by decide)]
    exact w1
  · rw [h 9 (by decide)]
    exact wr i h1 h2
/-- the world as the constructors leave it, in pieces -/
def tc_LT (e0 : Nat × va_E) (b0 b1 : va_W) (e1 : Nat × va_E) (b2 b3 : va_W) (e2 : Nat × va_E) (hh pp : va_W) : va_W := [e0] ++ b0 ++ b1 ++ [e1] ++ b2 ++ b3 ++ [e2] ++ hh ++ pp
section TCPLACES
variable {e0 e1 e2 : Nat × va_E} {b0 b1 b2 b3 hh pp mm : va_W} {c : Nat} {q : Nat × va_E}
theorem tc_q0 : (tc_LT e0 b0 b1 e1 b2 b3 e2 hh pp ++ mm)[0]? = some e0 := tc_in1 (tc_in1 (tc_in1 (tc_in1 (tc_in1 (tc_in1 (tc_in1 (tc_in1 (tc_in1 (X := [e0]) rfl))))))))
theorem tc_q1 (h : b0[c]? = some q) : (tc_LT e0 b0 b1 e1 b2 b3 e2 hh pp ++ mm)[1 + c]? = some q := tc_in1 (tc_in1 (tc_in1 (tc_in1 (tc_in1 (tc_in1 (tc_in1 (tc_in1 (tc_in2 (X := [e0]) (n := 1) rfl h))))))))
theorem tc_q2 (h0 : b0.length = 15) (h : b1[c]? = some q) : (tc_LT e0 b0 b1 e1 b2 b3 e2 hh pp ++ mm)[16 + c]? = some q := tc_in1 (tc_in1 (tc_in1 (tc_in1 (tc_in1 (tc_in1 (tc_in1 (tc_in2 (X := [e0] ++ b0) (n := 16) (by simp [h0]) h)))))))
theorem tc_q3 (h0 : b0.length = 15) (h1 : b1.length = 15) : (tc_LT e0 b0 b1 e1 b2 b3 e2 hh pp ++ mm)[31]? = some e1 := tc_in1 (tc_in1 (tc_in1 (tc_in1 (tc_in1 (tc_in1 (tc_in2 (X := [e0] ++ b0 ++ b1) (Y := [e1]) (i := 0) (n := 31) (by simp [h0, h1]) rfl))))))
theorem tc_q4 (h0 : b0.length = 15) (h1 : b1.length = 15) (h : b2[c]? = some q) : (tc_LT e0 b0 b1 e1 b2 b3 e2 hh pp ++ mm)[32 + c]? = some q := tc_in1 (tc_in1 (tc_in1 (tc_in1 (tc_in1 (tc_in2 (X := [e0] ++ b0 ++ b1 ++ [e1]) (n := 32) (by simp [h0, h1]) h)))))
theorem tc_q5 (h0 : b0.length = 15) (h1 : b1.length = 15) (h2 : b2.length = 15) (h : b3[c]? = some q) : (tc_LT e0 b0 b1 e1 b2 b3 e2 hh pp ++ mm)[47 + c]? = some q := tc_in1 (tc_in1 (tc_in1 (tc_in1 (tc_in2 (X := [e0] ++ b0 ++ b1 ++ [e1] ++ b2) (n := 47) (by simp [h0, h1, h2]) h))))
theorem tc_q6 (h0 : b0.length = 15) (h1 : b1.length = 15) (h2 : b2.length = 15) (h3 : b3.length = 15) : (tc_LT e0 b0 b1 e1 b2 b3 e2 hh pp ++ mm)[62]? = some e2 := tc_in1 (tc_in1 (tc_in1 (tc_in2 (X := [e0] ++ b0 ++ b1 ++ [e1] ++ b2 ++ b3) (Y := [e2]) (i := 0) (n := 62) (by simp [h0, h1, h2, h3]) rfl)))
theorem tc_q7 (h0 : b0.length = 15) (h1 : b1.length = 15) (h2 : b2.length = 15) (h3 : b3.length = 15) (h : hh[c]? = some q) : (tc_LT e0 b0 b1 e1 b2 b3 e2 hh pp ++ mm)[63 + c]? = some q := tc_in1 (tc_in1 (tc_in2 (X := [e0] ++ b0 ++ b1 ++ [e1] ++ b2 ++ b3 ++ [e2]) (n := 63) (by simp [h0, h1, h2, h3]) h))
theorem tc_q8 (h0 : b0.length = 15) (h1 : b1.length = 15) (h2 : b2.length = 15) (h3 : b3.length = 15) (h4 : hh.length = 92) (h : pp[c]? = some q) : (tc_LT e0 b0 b1 e1 b2 b3 e2 hh pp ++ mm)[155 + c]? = some q := tc_in1 (tc_in2 (X := [e0] ++ b0 ++ b1 ++ [e1] ++ b2 ++ b3 ++ [e2] ++ hh) (n := 155) (by simp [h0, h1, h2, h3, h4]) h)
theorem tc_q9 (h0 : b0.length = 15) (h1 : b1.length = 15) (h2 : b2.length = 15) (h3 : b3.length = 15) (h4 : hh.length = 92) (h5 : pp.length = 2) (h : mm[c]? = some q) : (tc_LT e0 b0 b1 e1 b2 b3 e2 hh pp ++ mm)[157 + c]? = some q := tc_in2 (n := 157) (by simp [tc_LT, h0, h1, h2, h3, h4, h5]) h
end TCPLACES
/-- the cell k of the first memory stands at its place -/
def tc_key (W : va_W) (g : tb_G) (ad : Nat → Nat) (z : tb_M) (H : Heap) (k : Nat) : Prop := ∃ e : va_E, W[tc_po k]? = some (ad k, e) ∧ (va_at (g.1, g.2.1) vwCl (ad k, e) H → va_at (g.1, g.2.1) vwCl (ad k, tb_c (tc_ga g ad) k (z k)) H)
section TCKEY
variable {W : va_W} {g : tb_G} {ad ad' : Nat → Nat} {z : tb_M} {z' : Nat → Nat → Int32} {H : Heap}
theorem tc_keyE {k : Nat} {e : va_E} (h : W[tc_po k]? = some (ad k, e)) (he : e = tb_c (tc_ga g ad) k (z k)) : tc_key W g ad z H k := ⟨e, h, fun c => by rw [← he]; exact c⟩
theorem tc_keyB {d : Nat} (hd : tb_isD d) (h2 : ∀ c, c < 15 → ad (d + c) = ad' c ∧ z (d + c) = z' c) {c : Nat} (hc : c < 15) (h : W[tc_po (d + c)]? = some (ad' c, tb_d (tc_ga g ad') 0 c (z' c))) : tc_key W g ad z H (d + c) := by
  refine tc_keyE (e := tb_d (tc_ga g ad') 0 c (z' c)) (by rw [(h2 c hc).1]; exact h) ?_
  rw [(tb_cd hd hc).2, (h2 c hc).2]
  exact tc_d_e g (tc_ga g ad) (z' c) rfl (fun c hc => (h2 c hc).1) hc
theorem tc_keyQ {k q n : Nat} {f f' : Nat → Option Nat} (hq : ad k = q) (h : W[tc_po k]? = some (q, tc_eQ g n f)) (he : tb_c (tc_ga g ad) k (z k) = tc_eQ g n f') (hf : ∀ j, j < n → f j = f' j) : tc_key W g ad z H k := by
  subst hq
  refine ⟨_, h, fun c => ?_⟩
  rw [he]
  have c' : H[ad k]? = some (arrV g.2.2.2.2.2 n (fun j => va_rf (f j))) := c
  show H[ad k]? = some (arrV g.2.2.2.2.2 n (fun j => va_rf (f' j)))
  rw [← arrV_c (cA := g.2.2.2.2.2) (fun j hj => congrArg va_rf (hf j hj))]
  exact c'
theorem tc_all {A : Nat → Prop} (hP : va_P (g.1, g.2.1) vwCl W H) (hD : va_D A W) (h : ∀ k, k < 164 → tc_key W g ad z H k) : va_P (g.1, g.2.1) vwCl (tb_W (tc_ga g ad) z) H ∧ va_D A (tb_W (tc_ga g ad) z) := by
  refine ⟨fun k q hq => ?_, fun i j p q hp hq he => ?_, fun k q hq => ?_⟩
  · obtain ⟨hk, rfl⟩ := tb_Wi hq
    obtain ⟨e, h1, h2⟩ := h k hk
    exact h2 (hP _ _ h1)
  · obtain ⟨hi, rfl⟩ := tb_Wi hp
    obtain ⟨hj, rfl⟩ := tb_Wi hq
    obtain ⟨e, h1, -⟩ := h i hi
    obtain ⟨e', h1', -⟩ := h j hj
    exact tc_po_i i hi j hj (hD.1 _ _ _ _ h1 h1' he)
  · obtain ⟨hk, rfl⟩ := tb_Wi hq
    obtain ⟨e, h1, -⟩ := h k hk
    exact hD.2 _ (ad k, e) h1
end TCKEY
def tc_xf (h0 sq bq hq tq pq kq m0 a1 a2 a3 a4 a5 a6 : Nat) (c : Nat) : Nat := match c with
  | 0 => h0
  | 1 => sq
  | 2 => bq
  | 3 => hq
  | 4 => tq
  | 5 => pq
  | 6 => kq
  | 7 => m0
  | 8 => a1
  | 9 => a2
  | 10 => a3
  | 11 => a4
  | 12 => a5
  | _ => a6
def tc_yf (f : Nat → Int32) (c : Nat) : Nat → Int32 := if c = 8 then f else fun _ => nI 0
