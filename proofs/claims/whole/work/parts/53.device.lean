/-! THE DEVICE'S CONSTRUCTOR -/
section TCROWSB
variable {p : Program} {l : Launch} {e : Env} {R : Room} {s : State} {m : MethodId} {args : Array Value} {below : List Frame} {meth : Method} {c : Code} {H : Heap} {locs : List Loc} {cells slots : Nat} {Q : State → Prop}
variable {cc : ByteArray} {pc nLc : Nat} {ls : Array Slot} {rest : List Value} {g : tb_G} {own : String} {A : Nat → Prop} {ws : va_W} {a : Nat} {y : MethodName} {cy : ByteArray} {nL nf mc ms : Nat} {e0 : va_E} {post : Nat → va_W → Prop}
theorem tc_words (X : tc_X own cc nLc g p c s m args) {w0 : Cond} (h0 : w0 ∈ wsL_law) : ∀ w ∈ w0 :: wsL_law, ∀ (a' : Array Value) (U : State), s.WarmedH U.vm → w.before a' U = true := by
  intro w hw a' U hW
  have hw' : w ∈ wsL_law := by
    rcases List.mem_cons.mp hw with rfl | h
    · exact h0
    · exact h
  exact word_at hW (tb_good hw') (X.2.2.1 w hw')
/-- the same for a private constructor of a nest mate -/
theorem tc_callN {host : String} (X : tc_X own cc nLc g p c s m args) (hA : ∀ q, s.heap.size ≤ q → A q) (hH : tc_H g A s.heap ws H locs) (hls : ls.size = nLc) (hM : tc_M l y cy nL nf mc ms g e0 post) (hY : tb_Y y cy nL none 0) (hnm : y.name = "<init>") (hV : Cond.instanceMethod y ∈ wsL_law) {idx : Nat} (hlk : va_Nw (.methodLinkNest own idx y host) s) (k0 : Nat) (he : ws[k0]? = some (a, e0)) (wr : va_W) (isR : List Nat) (hR' : isR.map (fun i => ws[i]?) = wr.map some) (hnd : va_nd isR = true) (hdis : ∀ i ∈ isR, i ∉ [k0]) (hcat : (rest.map fun v => v.category).sum ≤ 8) (hR : nf + 1 ≤ R.frames ∧ 8 + (nL + 11) + 36 * nf ≤ R.locals) (hcs : cells + mc ≤ R.cells ∧ slots + ms ≤ R.slots) (hdg : decode cc pc = .ok (.invokespecial idx, 3))
    (kk : ∀ (w1 : va_W) (H1 : Heap) (locs1 : List Loc), post a w1 → tc_H g A s.heap (wr ++ w1) H1 locs1 → W p l e R s m args below meth c H1 locs1 (cells + mc) (slots + ms) Q (F0 m (pc + 3) ls rest)) : W p l e R s m args below meth c H locs cells slots Q (F0 m pc ls (.ref a :: rest)) := by
  have hC : ([k0]).map (fun i => ws[i]?) = [(a, e0)].map some := by simp [he]
  have hPc : va_P (g.1, g.2.1) vwCl [(a, e0)] H := hH.1.sub [k0] (by simp [he])
  have hDc := hH.2.1.sub (ws' := [(a, e0)]) [k0] rfl hC
  have hFc := va_free (wc := [(a, e0)]) hH.2.1 hH.2.2 hA [k0] hC
  have CN : va_CN R s args own idx y host cy nL none (Cond.code y cy nL none :: wsL_law) (tc_rm nf mc ms) mc ms 0 := ⟨⟨rfl, rfl, hR.1, hR.2, tc_words X hY.1, List.mem_cons_self⟩, X.2.2.1 _ hY.1, X.2.2.1 _ hY.2.1, hY.2.2.1, tb_sigN hY.2.2.2, va_Nw.use rfl hlk⟩
  refine va_callv (va_runIN (As := []) (rest := rest) ⟨X.1, X.2.1, X.2.2.2.2.2, X.2.2.2.1, X.2.2.1⟩ (hM a H.size) ⟨CN, hnm, X.2.2.1 _ hV⟩ ⟨tc_blind g _ _ _, fun U hU hW => ⟨rfl, by rw [hU], by rw [hU]; exact hPc, X.2.2.2.2.1.warm hW, hDc.weaken (fun _ _ _ _ => trivial)⟩⟩ rfl rfl hls rfl (lv_room hcat) hdg hcs) hH.2.2 (fun q _ h => hFc q h) hFc (fun u t H1 locs1 ht hvm hw hB _ hk1 hS => ?_)
  obtain ⟨hP1, hD1⟩ := hB
  rw [ht] at hP1
  obtain ⟨hP, hD⟩ := va_join hH.1 hH.2.1 [k0] isR hC hR' hnd hdis hk1 hFc hP1 hD1
  exact kk u H1 locs1 hw ⟨hP, hD, hS⟩
/-- the golden image is taken, by the three cells k0, k1, k2 of the world -/
theorem tc_gold (X : tc_X own cc nLc g p c s m args) (hA : ∀ q, s.heap.size ≤ q → A q) (hH : tc_H g A s.heap ws H locs) (hls : ls.size = nLc) {idx : Nat} (hlk : Cond.methodLink own idx yX0_takeGoldenImage ∈ wsL_law) {gS : tb_G} (hg : gS.1 = g.1 ∧ gS.2.1 = g.2.1 ∧ gS.2.2.2 = g.2.2.2) {z : tb_M} (isC : List Nat) (hC : isC.map (fun i => ws[i]?) = (ts_W gS z).map some) (hndC : va_nd isC = true) (wr : va_W) (isR : List Nat) (hR' : isR.map (fun i => ws[i]?) = wr.map some) (hnd : va_nd isR = true) (hdis : ∀ i ∈ isR, i ∉ isC) (hcat : (rest.map fun v => v.category).sum ≤ 8) (hR : 3 ≤ R.frames ∧ 92 ≤ R.locals) (hcs : cells ≤ R.cells ∧ slots ≤ R.slots) (hdg : decode cc pc = .ok (.invokevirtual idx, 3))
    (kk : ∀ (H1 : Heap) (locs1 : List Loc), tc_H g A s.heap (wr ++ ts_W gS (sz_X0_takeGoldenImage z 2)) H1 locs1 → W p l e R s m args below meth c H1 locs1 cells slots Q (F0 m (pc + 3) ls rest)) : W p l e R s m args below meth c H locs cells slots Q (F0 m pc ls (.ref (tb_ad gS 2) :: rest)) := by
  obtain ⟨g1, g2, gad, g4⟩ := g
  obtain ⟨s1, s2, ad, s4⟩ := gS
  obtain ⟨rfl, rfl, rfl⟩ := hg
  have hP0 : va_P (s1, s2) vwCl (ts_W (s1, s2, ad, s4) z) H := by
    refine hH.1.sub isC ?_
    have : isC.filterMap (fun i => ws[i]?) = (isC.map (fun i => ws[i]?)).filterMap id := by
      rw [List.filterMap_map]
      rfl
    rw [this, hC]
    simp
  have hD0 := hH.2.1.sub (ws' := ts_W (s1, s2, ad, s4) z) isC hndC hC
  have hinj : ts_inj (s1, s2, ad, s4) := by
    intro i j hi hj hij
    have := hD0.1 (i - 2) (j - 2) _ _ (ts_Wg (s1, s2, ad, s4) z hi) (ts_Wg (s1, s2, ad, s4) z hj) hij
    obtain ⟨a1, a2⟩ := hi
    obtain ⟨b1, b2⟩ := hj
    omega
  have hAS : ∀ q, ts_A (s1, s2, ad, s4) q → A q := by
    rintro q ⟨k, hk, rfl⟩
    exact hD0.2 _ _ (ts_Wg (s1, s2, ad, s4) z hk)
  have hFc := va_free (wc := ts_W (s1, s2, ad, s4) z) hH.2.1 hH.2.2 hA isC hC
  have hAv : ∀ q, ts_A (s1, s2, ad, s4) q → va_A (ts_W (s1, s2, ad, s4) z) H.size q := by
    rintro q ⟨k, hk, rfl⟩
    exact Or.inl ⟨k - 2, _, ts_Wg (s1, s2, ad, s4) z hk⟩
  have hK : ts_K (s1, s2, ad, s4) s := ⟨X.2.2.2.2.1.1, hinj, X.2.2.2.2.1.2.1, trivial⟩
  have CB : CallB R s args own idx yX0_takeGoldenImage cX0_takeGoldenImage 1 none (Cond.code yX0_takeGoldenImage cX0_takeGoldenImage 1 none :: wsL_law) (tb_rm 2) 0 0 0 := ⟨rfl, rfl, by show 2 + 1 ≤ R.frames; omega, by show 8 + (1 + 11) + 36 * 2 ≤ R.locals; omega, tc_words X ky_X0_takeGoldenImage.1.1, List.mem_cons_self, X.2.2.1 _ ky_X0_takeGoldenImage.1.1, X.2.2.1 _ ky_X0_takeGoldenImage.1.2.1, ky_X0_takeGoldenImage.1.2.2.1, tb_sigN ky_X0_takeGoldenImage.1.2.2.2, X.2.2.1 _ hlk⟩
  have hrc : ∃ cellB : Cell, H[tb_ad (s1, s2, ad, s4) 2]? = some cellB ∧ cellB.vm.isStatics = false ∧ s.vm.findClass RX0 = some cellB.cls :=
    va_recv (q := (RX0, TX0, 8)) X.2.2.2.2.1.1 hP0 (q0 := 0) (ci := 0) rfl rfl
  refine va_callv (va_runV (As := []) (rest := rest) ⟨X.1, X.2.1, X.2.2.2.2.2, X.2.2.2.1, X.2.2.1⟩ (cs_X0_takeGoldenImage l (s1, s2, ad, s4) z 2 rfl) ⟨CB, X.2.2.1 _ ky_X0_takeGoldenImage.2.1, X.2.2.1 _ ky_X0_takeGoldenImage.2.2⟩ ⟨ts_blind (s1, s2, ad, s4) z _, hrc, fun U hU hW => ⟨rfl, by rw [hU]; exact hP0, hK.warm hW⟩⟩ rfl rfl hls rfl (lv_room hcat) hdg ⟨hcs.1, hcs.2⟩) hH.2.2 (fun q _ h => hAS q h) hAS (fun u t H1 locs1 ht hvm hw hB _ hk1 hS => ?_)
  subst hw
  have hP1 : va_P (s1, s2) vwCl (ts_W (s1, s2, ad, s4) (sz_X0_takeGoldenImage z 2)) H1 := by
    rw [← ht]
    exact hB
  obtain ⟨hP, hD⟩ := va_join hH.1 hH.2.1 isC isR hC hR' hnd hdis (fun q h1 h2 => hk1 q h1 (fun h => h2 (hAv q h))) hFc hP1 ((ts_Dj hinj _).weaken (fun _ q _ h => hAv _ h))
  exact kk H1 locs1 ⟨hP, hD, hS⟩
end TCROWSB
